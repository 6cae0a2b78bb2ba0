abbrev x_S : Type := (Nat × List (Option (Option Value))) ⊕ ((Nat × Nat) ⊕ (Nat × Nat × (Nat → Option Nat)))
/-- the cells behind the two constructors: an object's fields (none: an int; some none: the long; some some: always this), rows -/
def x_shape : List x_S := [
  .inl (9, [some (some (.ref 1)), some (some (.ref 29)), some (some (.ref 114)), some (some (.ref 115)), some (some (.ref 129)), some (some (.ref 137)), some (some (.ref 144)), some (some (.ref 150))]),
  .inl (7, [some (some (.ref 2)), none, none, none, some (some (.ref 3)), some (some (.ref 4)), some (some (.ref 5)), some (some (.ref 6))]),
  .inr (.inl (1, 600)),
  .inr (.inl (0, 3)),
  .inr (.inr (3, 2, va_up (va_up (fun _ => none) 0 (some 7)) 1 (some 18))),
  .inr (.inr (4, 2, va_up (va_up (fun _ => none) 0 (some 13)) 1 (some 24))),
  .inr (.inr (5, 2, va_up (va_up (fun _ => none) 0 (some 15)) 1 (some 26))),
  .inl (2, [none, none, none, none, none, none, none, some (some (.ref 8)), some (some (.ref 9)), some (some (.ref 10)), some (some (.ref 11)), some (some (.ref 12))]),
  .inr (.inl (0, 18)),
  .inr (.inl (0, 16)),
  .inr (.inl (0, 48)),
  .inr (.inl (0, 12)),
  .inr (.inl (0, 24)),
  .inl (1, [none, some (some (.ref 14))]),
  .inr (.inl (0, 160)),
  .inl (4, [none, none, some (some (.ref 16)), some (some (.ref 17))]),
  .inr (.inl (0, 8)),
  .inr (.inl (0, 8)),
  .inl (2, [none, none, none, none, none, none, none, some (some (.ref 19)), some (some (.ref 20)), some (some (.ref 21)), some (some (.ref 22)), some (some (.ref 23))]),
  .inr (.inl (0, 18)),
  .inr (.inl (0, 16)),
  .inr (.inl (0, 48)),
  .inr (.inl (0, 12)),
  .inr (.inl (0, 24)),
  .inl (1, [none, some (some (.ref 25))]),
  .inr (.inl (0, 160)),
  .inl (4, [none, none, some (some (.ref 27)), some (some (.ref 28))]),
  .inr (.inl (0, 8)),
  .inr (.inl (0, 8)),
  .inr (.inr (6, 3, va_up (va_up (va_up (fun _ => none) 0 (some 30)) 1 (some 58)) 2 (some 86))),
  .inl (7, [some (some (.ref 31)), none, none, none, some (some (.ref 32)), some (some (.ref 33)), some (some (.ref 34)), some (some (.ref 35))]),
  .inr (.inl (1, 600)),
  .inr (.inl (0, 3)),
  .inr (.inr (3, 2, va_up (va_up (fun _ => none) 0 (some 36)) 1 (some 47))),
  .inr (.inr (4, 2, va_up (va_up (fun _ => none) 0 (some 42)) 1 (some 53))),
  .inr (.inr (5, 2, va_up (va_up (fun _ => none) 0 (some 44)) 1 (some 55))),
  .inl (2, [none, none, none, none, none, none, none, some (some (.ref 37)), some (some (.ref 38)), some (some (.ref 39)), some (some (.ref 40)), some (some (.ref 41))]),
  .inr (.inl (0, 18)),
  .inr (.inl (0, 16)),
  .inr (.inl (0, 48)),
  .inr (.inl (0, 12)),
  .inr (.inl (0, 24)),
  .inl (1, [none, some (some (.ref 43))]),
  .inr (.inl (0, 160)),
  .inl (4, [none, none, some (some (.ref 45)), some (some (.ref 46))]),
  .inr (.inl (0, 8)),
  .inr (.inl (0, 8)),
  .inl (2, [none, none, none, none, none, none, none, some (some (.ref 48)), some (some (.ref 49)), some (some (.ref 50)), some (some (.ref 51)), some (some (.ref 52))]),
  .inr (.inl (0, 18)),
  .inr (.inl (0, 16)),
  .inr (.inl (0, 48)),
  .inr (.inl (0, 12)),
  .inr (.inl (0, 24)),
  .inl (1, [none, some (some (.ref 54))]),
  .inr (.inl (0, 160)),
  .inl (4, [none, none, some (some (.ref 56)), some (some (.ref 57))]),
  .inr (.inl (0, 8)),
  .inr (.inl (0, 8)),
  .inl (7, [some (some (.ref 59)), none, none, none, some (some (.ref 60)), some (some (.ref 61)), some (some (.ref 62)), some (some (.ref 63))]),
  .inr (.inl (1, 600)),
  .inr (.inl (0, 3)),
  .inr (.inr (3, 2, va_up (va_up (fun _ => none) 0 (some 64)) 1 (some 75))),
  .inr (.inr (4, 2, va_up (va_up (fun _ => none) 0 (some 70)) 1 (some 81))),
  .inr (.inr (5, 2, va_up (va_up (fun _ => none) 0 (some 72)) 1 (some 83))),
  .inl (2, [none, none, none, none, none, none, none, some (some (.ref 65)), some (some (.ref 66)), some (some (.ref 67)), some (some (.ref 68)), some (some (.ref 69))]),
  .inr (.inl (0, 18)),
  .inr (.inl (0, 16)),
  .inr (.inl (0, 48)),
  .inr (.inl (0, 12)),
  .inr (.inl (0, 24)),
  .inl (1, [none, some (some (.ref 71))]),
  .inr (.inl (0, 160)),
  .inl (4, [none, none, some (some (.ref 73)), some (some (.ref 74))]),
  .inr (.inl (0, 8)),
  .inr (.inl (0, 8)),
  .inl (2, [none, none, none, none, none, none, none, some (some (.ref 76)), some (some (.ref 77)), some (some (.ref 78)), some (some (.ref 79)), some (some (.ref 80))]),
  .inr (.inl (0, 18)),
  .inr (.inl (0, 16)),
  .inr (.inl (0, 48)),
  .inr (.inl (0, 12)),
  .inr (.inl (0, 24)),
  .inl (1, [none, some (some (.ref 82))]),
  .inr (.inl (0, 160)),
  .inl (4, [none, none, some (some (.ref 84)), some (some (.ref 85))]),
  .inr (.inl (0, 8)),
  .inr (.inl (0, 8)),
  .inl (7, [some (some (.ref 87)), none, none, none, some (some (.ref 88)), some (some (.ref 89)), some (some (.ref 90)), some (some (.ref 91))]),
  .inr (.inl (1, 600)),
  .inr (.inl (0, 3)),
  .inr (.inr (3, 2, va_up (va_up (fun _ => none) 0 (some 92)) 1 (some 103))),
  .inr (.inr (4, 2, va_up (va_up (fun _ => none) 0 (some 98)) 1 (some 109))),
  .inr (.inr (5, 2, va_up (va_up (fun _ => none) 0 (some 100)) 1 (some 111))),
  .inl (2, [none, none, none, none, none, none, none, some (some (.ref 93)), some (some (.ref 94)), some (some (.ref 95)), some (some (.ref 96)), some (some (.ref 97))]),
  .inr (.inl (0, 18)),
  .inr (.inl (0, 16)),
  .inr (.inl (0, 48)),
  .inr (.inl (0, 12)),
  .inr (.inl (0, 24)),
  .inl (1, [none, some (some (.ref 99))]),
  .inr (.inl (0, 160)),
  .inl (4, [none, none, some (some (.ref 101)), some (some (.ref 102))]),
  .inr (.inl (0, 8)),
  .inr (.inl (0, 8)),
  .inl (2, [none, none, none, none, none, none, none, some (some (.ref 104)), some (some (.ref 105)), some (some (.ref 106)), some (some (.ref 107)), some (some (.ref 108))]),
  .inr (.inl (0, 18)),
  .inr (.inl (0, 16)),
  .inr (.inl (0, 48)),
  .inr (.inl (0, 12)),
  .inr (.inl (0, 24)),
  .inl (1, [none, some (some (.ref 110))]),
  .inr (.inl (0, 160)),
  .inl (4, [none, none, some (some (.ref 112)), some (some (.ref 113))]),
  .inr (.inl (0, 8)),
  .inr (.inl (0, 8)),
  .inr (.inl (2, 3)),
  .inl (5, [some (some (.ref 116)), some (some (.ref 122)), some (some (.ref 124)), none, none, some (some (.ref 127)), none, some (some (.ref 128)), none, none, none, none, none]),
  .inl (2, [none, none, none, none, none, none, none, some (some (.ref 117)), some (some (.ref 118)), some (some (.ref 119)), some (some (.ref 120)), some (some (.ref 121))]),
  .inr (.inl (0, 18)),
  .inr (.inl (0, 16)),
  .inr (.inl (0, 48)),
  .inr (.inl (0, 12)),
  .inr (.inl (0, 24)),
  .inl (1, [none, some (some (.ref 123))]),
  .inr (.inl (0, 160)),
  .inl (4, [none, none, some (some (.ref 125)), some (some (.ref 126))]),
  .inr (.inl (0, 8)),
  .inr (.inl (0, 8)),
  .inr (.inl (1, 600)),
  .inr (.inl (0, 4)),
  .inl (6, [some (some (.ref 130)), none, none, none, none, none, none, none, none, none, none, none, none, none, some (some (.ref 136))]),
  .inl (2, [none, none, none, none, none, none, none, some (some (.ref 131)), some (some (.ref 132)), some (some (.ref 133)), some (some (.ref 134)), some (some (.ref 135))]),
  .inr (.inl (0, 18)),
  .inr (.inl (0, 16)),
  .inr (.inl (0, 48)),
  .inr (.inl (0, 12)),
  .inr (.inl (0, 24)),
  .inr (.inl (0, 4)),
  .inl (8, [some (some (.ref 138)), some (some (.ref 139)), some (some (.ref 140)), some (some (.ref 141)), some (some (.ref 142)), some (some (.ref 143)), none, none]),
  .inr (.inl (0, 448)),
  .inr (.inl (0, 448)),
  .inr (.inl (0, 448)),
  .inr (.inl (0, 49)),
  .inr (.inl (0, 6)),
  .inr (.inl (0, 6)),
  .inl (3, [some (some (.ref 145)), some (some (.ref 146)), some (some (.ref 147)), some (some (.ref 148)), some (some (.ref 149)), none]),
  .inr (.inl (0, 8)),
  .inr (.inl (0, 8)),
  .inr (.inl (0, 8)),
  .inr (.inl (0, 8)),
  .inr (.inl (0, 8)),
  .inl (0, [some (some (.ref 151))]),
  .inr (.inl (0, 8)),
  .inl (10, [none, some (some (.ref 153)), some (some (.ref 154)), some (some (.ref 155)), some (some (.ref 156)), some (some (.ref 157)), some (some (.ref 158)), some (some (.ref 159)), some (some (.ref 160)), none, none, none, none, none, some none, none, none, none, some (some (.ref 161)), some (some (.ref 162)), none, none, none, none, none, none, none, none, none, none, none, none, none, none, none, none, none, some (some (.ref 163)), some (some (.ref 164)), some (some (.ref 165)), none, some (some (.ref 166)), some (some (.ref 167)), some (some (.ref 168)), none, some (some (.ref 169)), none, none, some (some (.ref 170)), none, none, none, some (some (.ref 171)), some (some (.ref 172))]),
  .inr (.inl (1, 2400)),
  .inr (.inl (0, 4)),
  .inr (.inl (0, 4)),
  .inr (.inl (0, 4)),
  .inr (.inl (0, 12)),
  .inr (.inl (0, 1000)),
  .inr (.inl (0, 1288)),
  .inr (.inl (0, 144)),
  .inr (.inl (0, 161)),
  .inr (.inl (0, 4)),
  .inr (.inl (0, 8)),
  .inr (.inl (0, 8)),
  .inr (.inl (0, 48)),
  .inr (.inl (0, 8)),
  .inr (.inl (0, 448)),
  .inr (.inl (0, 8)),
  .inr (.inl (0, 6561)),
  .inr (.inl (0, 64)),
  .inr (.inl (0, 8)),
  .inr (.inl (2, 3))]
theorem x_shape_len : x_shape.length = 173 := by decide +kernel
abbrev x_Me : Type := Nat → Nat → Int32
def x_fld (m : Nat → Int32) (w : Int64) (j : Nat) : Option (Option Value) → Value
  | none => .int (m j)
  | some none => .long w
  | some (some v) => v
def x_cell (w : Int64) (s : x_S) (m : Nat → Int32) : x_C := match s with
  | .inl q => .inl (q.1, q.2.mapIdx (fun j o => x_fld m w j o))
  | .inr (.inl q) => .inr (.inl (q.1, q.2, m))
  | .inr (.inr q) => .inr (.inr q)
/-- the cells, by what they hold -/
def x_hp (μ : x_Me) (w : Int64) : x_H := x_shape.mapIdx (fun k s => x_cell w s (μ k))
def x_u (μ : x_Me) (k : Nat) (m : Nat → Int32) : x_Me := fun a => if a = k then m else μ a
theorem x_hp_get {μ : x_Me} {w : Int64} {k : Nat} {s : x_S} (hs : x_shape[k]? = some s) : (x_hp μ w)[k]? = some (x_cell w s (μ k)) := by
  simp [x_hp, hs]
theorem x_k0 {k : Nat} {s : x_S} (hs : x_shape[k]? = some s) : k < 1000000 := by
  have h1 : k < x_shape.length := (List.getElem?_eq_some_iff.mp hs).1
  rw [x_shape_len] at h1
  omega
theorem x_hp_set {μ : x_Me} {w : Int64} {k : Nat} {s : x_S} (hs : x_shape[k]? = some s) (m : Nat → Int32) : (x_hp μ w).set k (x_cell w s m) = x_hp (x_u μ k m) w := by
  apply List.ext_getElem?
  intro i
  have hl : k < (x_hp μ w).length := by
    have h1 : k < x_shape.length := (List.getElem?_eq_some_iff.mp hs).1
    simpa [x_hp] using h1
  by_cases hi : k = i
  · subst hi
    rw [List.getElem?_set_self hl, x_hp_get hs]
    simp [x_u]
  · rw [List.getElem?_set_ne hi]
    simp only [x_hp, List.getElem?_mapIdx]
    congr 1
    funext s2
    simp [x_u, Ne.symm hi]
theorem x_fld_upd (m : Nat → Int32) (w : Int64) (j : Nat) (x : Int32) (tm : List (Option (Option Value))) (hj : tm[j]? = some none) : (tm.mapIdx (fun i o => x_fld m w i o)).set j (.int x) = tm.mapIdx (fun i o => x_fld (upd m j x) w i o) := by
  apply List.ext_getElem?
  intro i
  by_cases hi : j = i
  · subst hi
    have hl : j < tm.length := (List.getElem?_eq_some_iff.mp hj).1
    rw [List.getElem?_set_self (by simpa using hl)]
    simp [hj, x_fld, upd]
  · rw [List.getElem?_set_ne hi]
    simp only [List.getElem?_mapIdx]
    congr 1
    funext o
    match o with
    | none => simp [x_fld, upd, Ne.symm hi]
    | some none => rfl
    | some (some v) => rfl
/-- THE JUDGEMENT, with a postcondition over the memory -/
def x_T (sc : Nat × (Nat → Int32)) (d : Nat) (M : x_Mt) (pc : Nat) (ls st : List Value) (μ : x_Me) (w : Int64) (P : Option Value → x_Me → Int64 → Prop) : Prop :=
  ∃ r μ' w', x_R sc d M pc ls st (x_hp μ w) r (x_hp μ' w') ∧ P r μ' w'
/-- THE CONTRACT, with a postcondition -/
def x_K (sc : Nat × (Nat → Int32)) (d : Nat) (M : x_Mt) (as : List Value) (μ : x_Me) (w : Int64) (P : Option Value → x_Me → Int64 → Prop) : Prop :=
  ∃ r μ' w', x_M sc d M as (x_hp μ w) r (x_hp μ' w') ∧ P r μ' w'
section XT
variable {sc : Nat × (Nat → Int32)} {d : Nat} {M M' : x_Mt} {pc : Nat} {ls st : List Value} {μ : x_Me} {w : Int64} {P P1 : Option Value → x_Me → Int64 → Prop}
theorem x_K.of {as : List Value} (hp : plainName M.1.cls = true) (hl : (x_in1 as).length ≤ M.2.2.1) (k : x_T sc d M 0 (x_in0 as M.2.2.1) [] μ w P) : x_K sc d M as μ w P := by
  obtain ⟨r, μ', w', hR, hP⟩ := k
  exact ⟨r, μ', w', x_M.of hp hl hR, hP⟩
theorem x_K.mono {as : List Value} (k : x_K sc d M as μ w P) (h : ∀ r μ' w', P r μ' w' → P1 r μ' w') : x_K sc d M as μ w P1 := by
  obtain ⟨r, μ', w', hM, hP⟩ := k
  exact ⟨r, μ', w', hM, h r μ' w' hP⟩
theorem x_T.mono (k : x_T sc d M pc ls st μ w P) (h : ∀ r μ' w', P r μ' w' → P1 r μ' w') : x_T sc d M pc ls st μ w P1 := by
  obtain ⟨r, μ', w', hM, hP⟩ := k
  exact ⟨r, μ', w', hM, h r μ' w' hP⟩
theorem xt_iadd {x y : Int32} (hd : decode M.2.1 pc = .ok (.iadd, 1))
    (K1 : x_T sc d M (pc + 1) ls (.int (x + y) :: st) μ w P) : x_T sc d M pc ls (.int y :: .int x :: st) μ w P := by
  obtain ⟨r, μ', w', hR, hP⟩ := K1
  exact ⟨r, μ', w', xr_iadd hd hR, hP⟩
theorem xt_isub {x y : Int32} (hd : decode M.2.1 pc = .ok (.isub, 1))
    (K1 : x_T sc d M (pc + 1) ls (.int (x - y) :: st) μ w P) : x_T sc d M pc ls (.int y :: .int x :: st) μ w P := by
  obtain ⟨r, μ', w', hR, hP⟩ := K1
  exact ⟨r, μ', w', xr_isub hd hR, hP⟩
theorem xt_imul {x y : Int32} (hd : decode M.2.1 pc = .ok (.imul, 1))
    (K1 : x_T sc d M (pc + 1) ls (.int (x * y) :: st) μ w P) : x_T sc d M pc ls (.int y :: .int x :: st) μ w P := by
  obtain ⟨r, μ', w', hR, hP⟩ := K1
  exact ⟨r, μ', w', xr_imul hd hR, hP⟩
theorem xt_iand {x y : Int32} (hd : decode M.2.1 pc = .ok (.iand, 1))
    (K1 : x_T sc d M (pc + 1) ls (.int (x &&& y) :: st) μ w P) : x_T sc d M pc ls (.int y :: .int x :: st) μ w P := by
  obtain ⟨r, μ', w', hR, hP⟩ := K1
  exact ⟨r, μ', w', xr_iand hd hR, hP⟩
theorem xt_ior {x y : Int32} (hd : decode M.2.1 pc = .ok (.ior, 1))
    (K1 : x_T sc d M (pc + 1) ls (.int (x ||| y) :: st) μ w P) : x_T sc d M pc ls (.int y :: .int x :: st) μ w P := by
  obtain ⟨r, μ', w', hR, hP⟩ := K1
  exact ⟨r, μ', w', xr_ior hd hR, hP⟩
theorem xt_ixor {x y : Int32} (hd : decode M.2.1 pc = .ok (.ixor, 1))
    (K1 : x_T sc d M (pc + 1) ls (.int (x ^^^ y) :: st) μ w P) : x_T sc d M pc ls (.int y :: .int x :: st) μ w P := by
  obtain ⟨r, μ', w', hR, hP⟩ := K1
  exact ⟨r, μ', w', xr_ixor hd hR, hP⟩
theorem xt_ishl {x y : Int32} (hd : decode M.2.1 pc = .ok (.ishl, 1))
    (K1 : x_T sc d M (pc + 1) ls (.int (x <<< (y &&& 31)) :: st) μ w P) : x_T sc d M pc ls (.int y :: .int x :: st) μ w P := by
  obtain ⟨r, μ', w', hR, hP⟩ := K1
  exact ⟨r, μ', w', xr_ishl hd hR, hP⟩
theorem xt_ishr {x y : Int32} (hd : decode M.2.1 pc = .ok (.ishr, 1))
    (K1 : x_T sc d M (pc + 1) ls (.int (x >>> (y &&& 31)) :: st) μ w P) : x_T sc d M pc ls (.int y :: .int x :: st) μ w P := by
  obtain ⟨r, μ', w', hR, hP⟩ := K1
  exact ⟨r, μ', w', xr_ishr hd hR, hP⟩
theorem xt_iushr {x y : Int32} (hd : decode M.2.1 pc = .ok (.iushr, 1))
    (K1 : x_T sc d M (pc + 1) ls (.int ((x.toUInt32 >>> (y.toUInt32 &&& Int32.toUInt32 31)).toInt32) :: st) μ w P) : x_T sc d M pc ls (.int y :: .int x :: st) μ w P := by
  obtain ⟨r, μ', w', hR, hP⟩ := K1
  exact ⟨r, μ', w', xr_iushr hd hR, hP⟩
theorem xt_idiv {x y : Int32} (hd : decode M.2.1 pc = .ok (.idiv, 1)) (hne : ¬ y = 0)
    (K1 : x_T sc d M (pc + 1) ls (.int (x / y) :: st) μ w P) : x_T sc d M pc ls (.int y :: .int x :: st) μ w P := by
  obtain ⟨r, μ', w', hR, hP⟩ := K1
  exact ⟨r, μ', w', xr_idiv hd hne hR, hP⟩
theorem xt_irem {x y : Int32} (hd : decode M.2.1 pc = .ok (.irem, 1)) (hne : ¬ y = 0)
    (K1 : x_T sc d M (pc + 1) ls (.int (x - x / y * y) :: st) μ w P) : x_T sc d M pc ls (.int y :: .int x :: st) μ w P := by
  obtain ⟨r, μ', w', hR, hP⟩ := K1
  exact ⟨r, μ', w', xr_irem hd hne hR, hP⟩
theorem xt_ineg {x : Int32} (hd : decode M.2.1 pc = .ok (.ineg, 1))
    (K1 : x_T sc d M (pc + 1) ls (.int (-x) :: st) μ w P) : x_T sc d M pc ls (.int x :: st) μ w P := by
  obtain ⟨r, μ', w', hR, hP⟩ := K1
  exact ⟨r, μ', w', xr_ineg hd hR, hP⟩
theorem xt_ladd {x y : Int64} (hd : decode M.2.1 pc = .ok (.ladd, 1))
    (K1 : x_T sc d M (pc + 1) ls (.long (x + y) :: st) μ w P) : x_T sc d M pc ls (.long y :: .long x :: st) μ w P := by
  obtain ⟨r, μ', w', hR, hP⟩ := K1
  exact ⟨r, μ', w', xr_ladd hd hR, hP⟩
theorem xt_lsub {x y : Int64} (hd : decode M.2.1 pc = .ok (.lsub, 1))
    (K1 : x_T sc d M (pc + 1) ls (.long (x - y) :: st) μ w P) : x_T sc d M pc ls (.long y :: .long x :: st) μ w P := by
  obtain ⟨r, μ', w', hR, hP⟩ := K1
  exact ⟨r, μ', w', xr_lsub hd hR, hP⟩
theorem xt_lmul {x y : Int64} (hd : decode M.2.1 pc = .ok (.lmul, 1))
    (K1 : x_T sc d M (pc + 1) ls (.long (x * y) :: st) μ w P) : x_T sc d M pc ls (.long y :: .long x :: st) μ w P := by
  obtain ⟨r, μ', w', hR, hP⟩ := K1
  exact ⟨r, μ', w', xr_lmul hd hR, hP⟩
theorem xt_land {x y : Int64} (hd : decode M.2.1 pc = .ok (.land, 1))
    (K1 : x_T sc d M (pc + 1) ls (.long (x &&& y) :: st) μ w P) : x_T sc d M pc ls (.long y :: .long x :: st) μ w P := by
  obtain ⟨r, μ', w', hR, hP⟩ := K1
  exact ⟨r, μ', w', xr_land hd hR, hP⟩
theorem xt_lor {x y : Int64} (hd : decode M.2.1 pc = .ok (.lor, 1))
    (K1 : x_T sc d M (pc + 1) ls (.long (x ||| y) :: st) μ w P) : x_T sc d M pc ls (.long y :: .long x :: st) μ w P := by
  obtain ⟨r, μ', w', hR, hP⟩ := K1
  exact ⟨r, μ', w', xr_lor hd hR, hP⟩
theorem xt_ldiv {x y : Int64} (hd : decode M.2.1 pc = .ok (.ldiv, 1)) (hne : ¬ y = 0)
    (K1 : x_T sc d M (pc + 1) ls (.long (x / y) :: st) μ w P) : x_T sc d M pc ls (.long y :: .long x :: st) μ w P := by
  obtain ⟨r, μ', w', hR, hP⟩ := K1
  exact ⟨r, μ', w', xr_ldiv hd hne hR, hP⟩
theorem xt_lrem {x y : Int64} (hd : decode M.2.1 pc = .ok (.lrem, 1)) (hne : ¬ y = 0)
    (K1 : x_T sc d M (pc + 1) ls (.long (x - x / y * y) :: st) μ w P) : x_T sc d M pc ls (.long y :: .long x :: st) μ w P := by
  obtain ⟨r, μ', w', hR, hP⟩ := K1
  exact ⟨r, μ', w', xr_lrem hd hne hR, hP⟩
theorem xt_lushr {x : Int64} {y : Int32} (hd : decode M.2.1 pc = .ok (.lushr, 1))
    (K1 : x_T sc d M (pc + 1) ls (.long ((x.toUInt64 >>> (y.toInt64.toUInt64 &&& Int64.toUInt64 63)).toInt64) :: st) μ w P) : x_T sc d M pc ls (.int y :: .long x :: st) μ w P := by
  obtain ⟨r, μ', w', hR, hP⟩ := K1
  exact ⟨r, μ', w', xr_lushr hd hR, hP⟩
theorem xt_lshl {x : Int64} {y : Int32} (hd : decode M.2.1 pc = .ok (.lshl, 1))
    (K1 : x_T sc d M (pc + 1) ls (.long (x <<< (y.toInt64 &&& 63)) :: st) μ w P) : x_T sc d M pc ls (.int y :: .long x :: st) μ w P := by
  obtain ⟨r, μ', w', hR, hP⟩ := K1
  exact ⟨r, μ', w', xr_lshl hd hR, hP⟩
theorem xt_lcmp {x y : Int64} (hd : decode M.2.1 pc = .ok (.lcmp, 1))
    (K1 : x_T sc d M (pc + 1) ls (.int (lg_cmp x y) :: st) μ w P) : x_T sc d M pc ls (.long y :: .long x :: st) μ w P := by
  obtain ⟨r, μ', w', hR, hP⟩ := K1
  exact ⟨r, μ', w', xr_lcmp hd hR, hP⟩
theorem xt_i2l {x : Int32} (hd : decode M.2.1 pc = .ok (.i2l, 1))
    (K1 : x_T sc d M (pc + 1) ls (.long x.toInt64 :: st) μ w P) : x_T sc d M pc ls (.int x :: st) μ w P := by
  obtain ⟨r, μ', w', hR, hP⟩ := K1
  exact ⟨r, μ', w', xr_i2l hd hR, hP⟩
theorem xt_l2i {x : Int64} (hd : decode M.2.1 pc = .ok (.l2i, 1))
    (K1 : x_T sc d M (pc + 1) ls (.int x.toInt32 :: st) μ w P) : x_T sc d M pc ls (.long x :: st) μ w P := by
  obtain ⟨r, μ', w', hR, hP⟩ := K1
  exact ⟨r, μ', w', xr_l2i hd hR, hP⟩
theorem xt_i2b {x : Int32} (hd : decode M.2.1 pc = .ok (.i2b, 1))
    (K1 : x_T sc d M (pc + 1) ls (.int x.toInt8.toInt32 :: st) μ w P) : x_T sc d M pc ls (.int x :: st) μ w P := by
  obtain ⟨r, μ', w', hR, hP⟩ := K1
  exact ⟨r, μ', w', xr_i2b hd hR, hP⟩
theorem xt_i2c {x : Int32} (hd : decode M.2.1 pc = .ok (.i2c, 1))
    (K1 : x_T sc d M (pc + 1) ls (.int (x.toUInt32 % 65536).toInt32 :: st) μ w P) : x_T sc d M pc ls (.int x :: st) μ w P := by
  obtain ⟨r, μ', w', hR, hP⟩ := K1
  exact ⟨r, μ', w', xr_i2c hd hR, hP⟩
theorem xt_iconst {n : Int} (v : Int32) (hd : decode M.2.1 pc = .ok (.iconst n, 1)) (hv : Int32.ofInt n = v)
    (K1 : x_T sc d M (pc + 1) ls (.int v :: st) μ w P) : x_T sc d M pc ls (st) μ w P := by
  obtain ⟨r, μ', w', hR, hP⟩ := K1
  exact ⟨r, μ', w', xr_iconst v hd hv hR, hP⟩
theorem xt_bipush {n : Int} (v : Int32) (hd : decode M.2.1 pc = .ok (.bipush n, 2)) (hv : (Int8.ofInt n).toInt32 = v)
    (K1 : x_T sc d M (pc + 2) ls (.int v :: st) μ w P) : x_T sc d M pc ls (st) μ w P := by
  obtain ⟨r, μ', w', hR, hP⟩ := K1
  exact ⟨r, μ', w', xr_bipush v hd hv hR, hP⟩
theorem xt_sipush {n : Int} (v : Int32) (hd : decode M.2.1 pc = .ok (.sipush n, 3)) (hv : (Int16.ofInt n).toInt32 = v)
    (K1 : x_T sc d M (pc + 3) ls (.int v :: st) μ w P) : x_T sc d M pc ls (st) μ w P := by
  obtain ⟨r, μ', w', hR, hP⟩ := K1
  exact ⟨r, μ', w', xr_sipush v hd hv hR, hP⟩
theorem xt_lconst {n : Fin 2} (v : Int64) (hd : decode M.2.1 pc = .ok (.lconst n, 1)) (hv : Int64.ofNat (n : Nat) = v)
    (K1 : x_T sc d M (pc + 1) ls (.long v :: st) μ w P) : x_T sc d M pc ls (st) μ w P := by
  obtain ⟨r, μ', w', hR, hP⟩ := K1
  exact ⟨r, μ', w', xr_lconst v hd hv hR, hP⟩
theorem xt_null (hd : decode M.2.1 pc = .ok (.aconst_null, 1))
    (K1 : x_T sc d M (pc + 1) ls (.null :: st) μ w P) : x_T sc d M pc ls (st) μ w P := by
  obtain ⟨r, μ', w', hR, hP⟩ := K1
  exact ⟨r, μ', w', xr_null hd hR, hP⟩
theorem xt_dup {a : Value} (hd : decode M.2.1 pc = .ok (.dup, 1)) (ha : a.category = 1)
    (K1 : x_T sc d M (pc + 1) ls (a :: a :: st) μ w P) : x_T sc d M pc ls (a :: st) μ w P := by
  obtain ⟨r, μ', w', hR, hP⟩ := K1
  exact ⟨r, μ', w', xr_dup hd ha hR, hP⟩
theorem xt_pop {a : Value} (hd : decode M.2.1 pc = .ok (.pop, 1)) (ha : a.category = 1)
    (K1 : x_T sc d M (pc + 1) ls (st) μ w P) : x_T sc d M pc ls (a :: st) μ w P := by
  obtain ⟨r, μ', w', hR, hP⟩ := K1
  exact ⟨r, μ', w', xr_pop hd ha hR, hP⟩
theorem xt_dup2 {a b : Value} (hd : decode M.2.1 pc = .ok (.dup2, 1)) (ha : a.category = 1) (hb : b.category = 1)
    (K1 : x_T sc d M (pc + 1) ls (a :: b :: a :: b :: st) μ w P) : x_T sc d M pc ls (a :: b :: st) μ w P := by
  obtain ⟨r, μ', w', hR, hP⟩ := K1
  exact ⟨r, μ', w', xr_dup2 hd ha hb hR, hP⟩
theorem xt_ldc {i : Nat} (v : Int32) (hd : decode M.2.1 pc = .ok (.ldc i, 2)) (hw : Cond.constant M.1.cls i v ∈ x_WS)
    (K1 : x_T sc d M (pc + 2) ls (.int v :: st) μ w P) : x_T sc d M pc ls (st) μ w P := by
  obtain ⟨r, μ', w', hR, hP⟩ := K1
  exact ⟨r, μ', w', xr_ldc v hd hw hR, hP⟩
theorem xt_ldcw {i : Nat} (v : Int32) (hd : decode M.2.1 pc = .ok (.ldc_w i, 3)) (hw : Cond.constant M.1.cls i v ∈ x_WS)
    (K1 : x_T sc d M (pc + 3) ls (.int v :: st) μ w P) : x_T sc d M pc ls (st) μ w P := by
  obtain ⟨r, μ', w', hR, hP⟩ := K1
  exact ⟨r, μ', w', xr_ldcw v hd hw hR, hP⟩
theorem xt_ldc2 {i : Nat} (v : Int64) (hd : decode M.2.1 pc = .ok (.ldc2_w i, 3)) (hw : Cond.constantLong M.1.cls i v ∈ x_WS)
    (K1 : x_T sc d M (pc + 3) ls (.long v :: st) μ w P) : x_T sc d M pc ls (st) μ w P := by
  obtain ⟨r, μ', w', hR, hP⟩ := K1
  exact ⟨r, μ', w', xr_ldc2 v hd hw hR, hP⟩
theorem xt_if_eq {x : Int32} {off : Int} (tgt : Nat) (hd : decode M.2.1 pc = .ok (.ifCond .eq off, 3)) (ht : (pc : Int) + off = (tgt : Int))
    (kt : x = 0 → x_T sc d M tgt ls st μ w P) (kf : ¬ (x = 0) → x_T sc d M (pc + 3) ls st μ w P) : x_T sc d M pc ls (.int x :: st) μ w P := by
  by_cases q : x = 0
  · obtain ⟨r, μ', w', hR, hP⟩ := kt q
    exact ⟨r, μ', w', xr_if_eq tgt hd ht (fun _ => hR) (fun z => absurd q (by simpa using z)), hP⟩
  · obtain ⟨r, μ', w', hR, hP⟩ := kf q
    exact ⟨r, μ', w', xr_if_eq tgt hd ht (fun z => absurd z q) (fun _ => hR), hP⟩
theorem xt_icmp_eq {x y : Int32} {off : Int} (tgt : Nat) (hd : decode M.2.1 pc = .ok (.if_icmp .eq off, 3)) (ht : (pc : Int) + off = (tgt : Int))
    (kt : x = y → x_T sc d M tgt ls st μ w P) (kf : ¬ (x = y) → x_T sc d M (pc + 3) ls st μ w P) : x_T sc d M pc ls (.int y :: .int x :: st) μ w P := by
  by_cases q : x = y
  · obtain ⟨r, μ', w', hR, hP⟩ := kt q
    exact ⟨r, μ', w', xr_icmp_eq tgt hd ht (fun _ => hR) (fun z => absurd q (by simpa using z)), hP⟩
  · obtain ⟨r, μ', w', hR, hP⟩ := kf q
    exact ⟨r, μ', w', xr_icmp_eq tgt hd ht (fun z => absurd z q) (fun _ => hR), hP⟩
theorem xt_if_ne {x : Int32} {off : Int} (tgt : Nat) (hd : decode M.2.1 pc = .ok (.ifCond .ne off, 3)) (ht : (pc : Int) + off = (tgt : Int))
    (kt : ¬ x = 0 → x_T sc d M tgt ls st μ w P) (kf : x = 0 → x_T sc d M (pc + 3) ls st μ w P) : x_T sc d M pc ls (.int x :: st) μ w P := by
  by_cases q : ¬ x = 0
  · obtain ⟨r, μ', w', hR, hP⟩ := kt q
    exact ⟨r, μ', w', xr_if_ne tgt hd ht (fun _ => hR) (fun z => absurd q (fun y => y z)), hP⟩
  · obtain ⟨r, μ', w', hR, hP⟩ := kf (Classical.not_not.mp q)
    exact ⟨r, μ', w', xr_if_ne tgt hd ht (fun z => absurd z q) (fun _ => hR), hP⟩
theorem xt_icmp_ne {x y : Int32} {off : Int} (tgt : Nat) (hd : decode M.2.1 pc = .ok (.if_icmp .ne off, 3)) (ht : (pc : Int) + off = (tgt : Int))
    (kt : ¬ x = y → x_T sc d M tgt ls st μ w P) (kf : x = y → x_T sc d M (pc + 3) ls st μ w P) : x_T sc d M pc ls (.int y :: .int x :: st) μ w P := by
  by_cases q : ¬ x = y
  · obtain ⟨r, μ', w', hR, hP⟩ := kt q
    exact ⟨r, μ', w', xr_icmp_ne tgt hd ht (fun _ => hR) (fun z => absurd q (fun y => y z)), hP⟩
  · obtain ⟨r, μ', w', hR, hP⟩ := kf (Classical.not_not.mp q)
    exact ⟨r, μ', w', xr_icmp_ne tgt hd ht (fun z => absurd z q) (fun _ => hR), hP⟩
theorem xt_if_lt {x : Int32} {off : Int} (tgt : Nat) (hd : decode M.2.1 pc = .ok (.ifCond .lt off, 3)) (ht : (pc : Int) + off = (tgt : Int))
    (kt : x < 0 → x_T sc d M tgt ls st μ w P) (kf : ¬ (x < 0) → x_T sc d M (pc + 3) ls st μ w P) : x_T sc d M pc ls (.int x :: st) μ w P := by
  by_cases q : x < 0
  · obtain ⟨r, μ', w', hR, hP⟩ := kt q
    exact ⟨r, μ', w', xr_if_lt tgt hd ht (fun _ => hR) (fun z => absurd q (by simpa using z)), hP⟩
  · obtain ⟨r, μ', w', hR, hP⟩ := kf q
    exact ⟨r, μ', w', xr_if_lt tgt hd ht (fun z => absurd z q) (fun _ => hR), hP⟩
theorem xt_icmp_lt {x y : Int32} {off : Int} (tgt : Nat) (hd : decode M.2.1 pc = .ok (.if_icmp .lt off, 3)) (ht : (pc : Int) + off = (tgt : Int))
    (kt : x < y → x_T sc d M tgt ls st μ w P) (kf : ¬ (x < y) → x_T sc d M (pc + 3) ls st μ w P) : x_T sc d M pc ls (.int y :: .int x :: st) μ w P := by
  by_cases q : x < y
  · obtain ⟨r, μ', w', hR, hP⟩ := kt q
    exact ⟨r, μ', w', xr_icmp_lt tgt hd ht (fun _ => hR) (fun z => absurd q (by simpa using z)), hP⟩
  · obtain ⟨r, μ', w', hR, hP⟩ := kf q
    exact ⟨r, μ', w', xr_icmp_lt tgt hd ht (fun z => absurd z q) (fun _ => hR), hP⟩
theorem xt_if_ge {x : Int32} {off : Int} (tgt : Nat) (hd : decode M.2.1 pc = .ok (.ifCond .ge off, 3)) (ht : (pc : Int) + off = (tgt : Int))
    (kt : 0 ≤ x → x_T sc d M tgt ls st μ w P) (kf : ¬ (0 ≤ x) → x_T sc d M (pc + 3) ls st μ w P) : x_T sc d M pc ls (.int x :: st) μ w P := by
  by_cases q : 0 ≤ x
  · obtain ⟨r, μ', w', hR, hP⟩ := kt q
    exact ⟨r, μ', w', xr_if_ge tgt hd ht (fun _ => hR) (fun z => absurd q (by simpa using z)), hP⟩
  · obtain ⟨r, μ', w', hR, hP⟩ := kf q
    exact ⟨r, μ', w', xr_if_ge tgt hd ht (fun z => absurd z q) (fun _ => hR), hP⟩
theorem xt_icmp_ge {x y : Int32} {off : Int} (tgt : Nat) (hd : decode M.2.1 pc = .ok (.if_icmp .ge off, 3)) (ht : (pc : Int) + off = (tgt : Int))
    (kt : y ≤ x → x_T sc d M tgt ls st μ w P) (kf : ¬ (y ≤ x) → x_T sc d M (pc + 3) ls st μ w P) : x_T sc d M pc ls (.int y :: .int x :: st) μ w P := by
  by_cases q : y ≤ x
  · obtain ⟨r, μ', w', hR, hP⟩ := kt q
    exact ⟨r, μ', w', xr_icmp_ge tgt hd ht (fun _ => hR) (fun z => absurd q (by simpa using z)), hP⟩
  · obtain ⟨r, μ', w', hR, hP⟩ := kf q
    exact ⟨r, μ', w', xr_icmp_ge tgt hd ht (fun z => absurd z q) (fun _ => hR), hP⟩
theorem xt_if_gt {x : Int32} {off : Int} (tgt : Nat) (hd : decode M.2.1 pc = .ok (.ifCond .gt off, 3)) (ht : (pc : Int) + off = (tgt : Int))
    (kt : 0 < x → x_T sc d M tgt ls st μ w P) (kf : ¬ (0 < x) → x_T sc d M (pc + 3) ls st μ w P) : x_T sc d M pc ls (.int x :: st) μ w P := by
  by_cases q : 0 < x
  · obtain ⟨r, μ', w', hR, hP⟩ := kt q
    exact ⟨r, μ', w', xr_if_gt tgt hd ht (fun _ => hR) (fun z => absurd q (by simpa using z)), hP⟩
  · obtain ⟨r, μ', w', hR, hP⟩ := kf q
    exact ⟨r, μ', w', xr_if_gt tgt hd ht (fun z => absurd z q) (fun _ => hR), hP⟩
theorem xt_icmp_gt {x y : Int32} {off : Int} (tgt : Nat) (hd : decode M.2.1 pc = .ok (.if_icmp .gt off, 3)) (ht : (pc : Int) + off = (tgt : Int))
    (kt : y < x → x_T sc d M tgt ls st μ w P) (kf : ¬ (y < x) → x_T sc d M (pc + 3) ls st μ w P) : x_T sc d M pc ls (.int y :: .int x :: st) μ w P := by
  by_cases q : y < x
  · obtain ⟨r, μ', w', hR, hP⟩ := kt q
    exact ⟨r, μ', w', xr_icmp_gt tgt hd ht (fun _ => hR) (fun z => absurd q (by simpa using z)), hP⟩
  · obtain ⟨r, μ', w', hR, hP⟩ := kf q
    exact ⟨r, μ', w', xr_icmp_gt tgt hd ht (fun z => absurd z q) (fun _ => hR), hP⟩
theorem xt_if_le {x : Int32} {off : Int} (tgt : Nat) (hd : decode M.2.1 pc = .ok (.ifCond .le off, 3)) (ht : (pc : Int) + off = (tgt : Int))
    (kt : x ≤ 0 → x_T sc d M tgt ls st μ w P) (kf : ¬ (x ≤ 0) → x_T sc d M (pc + 3) ls st μ w P) : x_T sc d M pc ls (.int x :: st) μ w P := by
  by_cases q : x ≤ 0
  · obtain ⟨r, μ', w', hR, hP⟩ := kt q
    exact ⟨r, μ', w', xr_if_le tgt hd ht (fun _ => hR) (fun z => absurd q (by simpa using z)), hP⟩
  · obtain ⟨r, μ', w', hR, hP⟩ := kf q
    exact ⟨r, μ', w', xr_if_le tgt hd ht (fun z => absurd z q) (fun _ => hR), hP⟩
theorem xt_icmp_le {x y : Int32} {off : Int} (tgt : Nat) (hd : decode M.2.1 pc = .ok (.if_icmp .le off, 3)) (ht : (pc : Int) + off = (tgt : Int))
    (kt : x ≤ y → x_T sc d M tgt ls st μ w P) (kf : ¬ (x ≤ y) → x_T sc d M (pc + 3) ls st μ w P) : x_T sc d M pc ls (.int y :: .int x :: st) μ w P := by
  by_cases q : x ≤ y
  · obtain ⟨r, μ', w', hR, hP⟩ := kt q
    exact ⟨r, μ', w', xr_icmp_le tgt hd ht (fun _ => hR) (fun z => absurd q (by simpa using z)), hP⟩
  · obtain ⟨r, μ', w', hR, hP⟩ := kf q
    exact ⟨r, μ', w', xr_icmp_le tgt hd ht (fun z => absurd z q) (fun _ => hR), hP⟩
theorem xt_goto {off : Int} (tgt : Nat) (hd : decode M.2.1 pc = .ok (.goto off, 3)) (ht : (pc : Int) + off = (tgt : Int))
    (K1 : x_T sc d M tgt ls st μ w P) : x_T sc d M pc ls (st) μ w P := by
  obtain ⟨r, μ', w', hR, hP⟩ := K1
  exact ⟨r, μ', w', xr_goto tgt hd ht hR, hP⟩
theorem xt_ifnull_r {a : Nat} {off : Int} (hd : decode M.2.1 pc = .ok (.ifnull off, 3))
    (K1 : x_T sc d M (pc + 3) ls st μ w P) : x_T sc d M pc ls (.ref a :: st) μ w P := by
  obtain ⟨r, μ', w', hR, hP⟩ := K1
  exact ⟨r, μ', w', xr_ifnull_r hd hR, hP⟩
theorem xt_ifnonnull_r {a : Nat} {off : Int} (tgt : Nat) (hd : decode M.2.1 pc = .ok (.ifnonnull off, 3)) (ht : (pc : Int) + off = (tgt : Int))
    (K1 : x_T sc d M tgt ls st μ w P) : x_T sc d M pc ls (.ref a :: st) μ w P := by
  obtain ⟨r, μ', w', hR, hP⟩ := K1
  exact ⟨r, μ', w', xr_ifnonnull_r tgt hd ht hR, hP⟩
theorem xt_ifnull_n {off : Int} (tgt : Nat) (hd : decode M.2.1 pc = .ok (.ifnull off, 3)) (ht : (pc : Int) + off = (tgt : Int))
    (K1 : x_T sc d M tgt ls st μ w P) : x_T sc d M pc ls (.null :: st) μ w P := by
  obtain ⟨r, μ', w', hR, hP⟩ := K1
  exact ⟨r, μ', w', xr_ifnull_n tgt hd ht hR, hP⟩
theorem xt_ifnonnull_n {off : Int} (hd : decode M.2.1 pc = .ok (.ifnonnull off, 3))
    (K1 : x_T sc d M (pc + 3) ls st μ w P) : x_T sc d M pc ls (.null :: st) μ w P := by
  obtain ⟨r, μ', w', hR, hP⟩ := K1
  exact ⟨r, μ', w', xr_ifnonnull_n hd hR, hP⟩
theorem xt_tabOut {dflt lo hi : Int} {offs : Array Int} {len : Nat} {x : Int32} (tgt : Nat) (hd : decode M.2.1 pc = .ok (.tableswitch dflt lo hi offs, len)) (hx : x.toInt < lo ∨ hi < x.toInt) (ht : (pc : Int) + dflt = (tgt : Int))
    (K1 : x_T sc d M tgt ls st μ w P) : x_T sc d M pc ls (.int x :: st) μ w P := by
  obtain ⟨r, μ', w', hR, hP⟩ := K1
  exact ⟨r, μ', w', xr_tabOut tgt hd hx ht hR, hP⟩
theorem xt_tabIn {dflt lo hi : Int} {offs : Array Int} {len : Nat} {x : Int32} {off : Int} (tgt : Nat) (hd : decode M.2.1 pc = .ok (.tableswitch dflt lo hi offs, len)) (h1 : ¬ x.toInt < lo) (h2 : ¬ hi < x.toInt) (ho : offs[(x.toInt - lo).toNat]? = some off) (ht : (pc : Int) + off = (tgt : Int))
    (K1 : x_T sc d M tgt ls st μ w P) : x_T sc d M pc ls (.int x :: st) μ w P := by
  obtain ⟨r, μ', w', hR, hP⟩ := K1
  exact ⟨r, μ', w', xr_tabIn tgt hd h1 h2 ho ht hR, hP⟩
theorem xt_lookup {dflt : Int} {ps : Array (Int × Int)} {len : Nat} {x : Int32} {off : Int} (tgt : Nat) (hd : decode M.2.1 pc = .ok (.lookupswitch dflt ps, len)) (hp : (ps.toList.zip (ps.toList.drop 1)).all (fun (a, next) => a.1 < next.1) = true) (ho : Op.lookupswitch.offset ps.toList dflt x.toInt = off) (ht : (pc : Int) + off = (tgt : Int))
    (K1 : x_T sc d M tgt ls st μ w P) : x_T sc d M pc ls (.int x :: st) μ w P := by
  obtain ⟨r, μ', w', hR, hP⟩ := K1
  exact ⟨r, μ', w', xr_lookup tgt hd hp ho ht hR, hP⟩
theorem xt_iload {i : Nat} (x : Int32) (hd : decode M.2.1 pc = .ok (.iload i, 2)) (hl : ls[i]? = some (.int x))
    (K1 : x_T sc d M (pc + 2) ls (.int x :: st) μ w P) : x_T sc d M pc ls (st) μ w P := by
  obtain ⟨r, μ', w', hR, hP⟩ := K1
  exact ⟨r, μ', w', xr_iload x hd hl hR, hP⟩
theorem xt_iload_n {i : Fin 4} (x : Int32) (hd : decode M.2.1 pc = .ok (.iload_n i, 1)) (hl : ls[(i : Nat)]? = some (.int x))
    (K1 : x_T sc d M (pc + 1) ls (.int x :: st) μ w P) : x_T sc d M pc ls (st) μ w P := by
  obtain ⟨r, μ', w', hR, hP⟩ := K1
  exact ⟨r, μ', w', xr_iload_n x hd hl hR, hP⟩
theorem xt_lload {i : Nat} (x : Int64) (hd : decode M.2.1 pc = .ok (.lload i, 2)) (hl : ls[i]? = some (.long x))
    (K1 : x_T sc d M (pc + 2) ls (.long x :: st) μ w P) : x_T sc d M pc ls (st) μ w P := by
  obtain ⟨r, μ', w', hR, hP⟩ := K1
  exact ⟨r, μ', w', xr_lload x hd hl hR, hP⟩
theorem xt_lload_n {i : Fin 4} (x : Int64) (hd : decode M.2.1 pc = .ok (.lload_n i, 1)) (hl : ls[(i : Nat)]? = some (.long x))
    (K1 : x_T sc d M (pc + 1) ls (.long x :: st) μ w P) : x_T sc d M pc ls (st) μ w P := by
  obtain ⟨r, μ', w', hR, hP⟩ := K1
  exact ⟨r, μ', w', xr_lload_n x hd hl hR, hP⟩
theorem xt_aload {i : Nat} (x : Nat) (hd : decode M.2.1 pc = .ok (.aload i, 2)) (hl : ls[i]? = some (.ref x))
    (K1 : x_T sc d M (pc + 2) ls (.ref x :: st) μ w P) : x_T sc d M pc ls (st) μ w P := by
  obtain ⟨r, μ', w', hR, hP⟩ := K1
  exact ⟨r, μ', w', xr_aload x hd hl hR, hP⟩
theorem xt_aload_n {i : Fin 4} (x : Nat) (hd : decode M.2.1 pc = .ok (.aload_n i, 1)) (hl : ls[(i : Nat)]? = some (.ref x))
    (K1 : x_T sc d M (pc + 1) ls (.ref x :: st) μ w P) : x_T sc d M pc ls (st) μ w P := by
  obtain ⟨r, μ', w', hR, hP⟩ := K1
  exact ⟨r, μ', w', xr_aload_n x hd hl hR, hP⟩
theorem xt_aload0 {i : Nat} (hd : decode M.2.1 pc = .ok (.aload i, 2)) (hl : ls[i]? = some .null)
    (K1 : x_T sc d M (pc + 2) ls (.null :: st) μ w P) : x_T sc d M pc ls (st) μ w P := by
  obtain ⟨r, μ', w', hR, hP⟩ := K1
  exact ⟨r, μ', w', xr_aload0 hd hl hR, hP⟩
theorem xt_aload_n0 {i : Fin 4} (hd : decode M.2.1 pc = .ok (.aload_n i, 1)) (hl : ls[(i : Nat)]? = some .null)
    (K1 : x_T sc d M (pc + 1) ls (.null :: st) μ w P) : x_T sc d M pc ls (st) μ w P := by
  obtain ⟨r, μ', w', hR, hP⟩ := K1
  exact ⟨r, μ', w', xr_aload_n0 hd hl hR, hP⟩
theorem xt_istore {i : Nat} {x : Int32} (hd : decode M.2.1 pc = .ok (.istore i, 2)) (hi : i < M.2.2.1) (ho : x_ok1 ls i = true)
    (K1 : x_T sc d M (pc + 2) (ls.set i (.int x)) (st) μ w P) : x_T sc d M pc ls (.int x :: st) μ w P := by
  obtain ⟨r, μ', w', hR, hP⟩ := K1
  exact ⟨r, μ', w', xr_istore hd hi ho hR, hP⟩
theorem xt_istore_n {i : Fin 4} {x : Int32} (hd : decode M.2.1 pc = .ok (.istore_n i, 1)) (hi : (i : Nat) < M.2.2.1) (ho : x_ok1 ls i = true)
    (K1 : x_T sc d M (pc + 1) (ls.set i (.int x)) (st) μ w P) : x_T sc d M pc ls (.int x :: st) μ w P := by
  obtain ⟨r, μ', w', hR, hP⟩ := K1
  exact ⟨r, μ', w', xr_istore_n hd hi ho hR, hP⟩
theorem xt_astore {i : Nat} {x : Nat} (hd : decode M.2.1 pc = .ok (.astore i, 2)) (hi : i < M.2.2.1) (ho : x_ok1 ls i = true)
    (K1 : x_T sc d M (pc + 2) (ls.set i (.ref x)) (st) μ w P) : x_T sc d M pc ls (.ref x :: st) μ w P := by
  obtain ⟨r, μ', w', hR, hP⟩ := K1
  exact ⟨r, μ', w', xr_astore hd hi ho hR, hP⟩
theorem xt_astore_n {i : Fin 4} {x : Nat} (hd : decode M.2.1 pc = .ok (.astore_n i, 1)) (hi : (i : Nat) < M.2.2.1) (ho : x_ok1 ls i = true)
    (K1 : x_T sc d M (pc + 1) (ls.set i (.ref x)) (st) μ w P) : x_T sc d M pc ls (.ref x :: st) μ w P := by
  obtain ⟨r, μ', w', hR, hP⟩ := K1
  exact ⟨r, μ', w', xr_astore_n hd hi ho hR, hP⟩
theorem xt_astore0 {i : Nat} (hd : decode M.2.1 pc = .ok (.astore i, 2)) (hi : i < M.2.2.1) (ho : x_ok1 ls i = true)
    (K1 : x_T sc d M (pc + 2) (ls.set i .null) (st) μ w P) : x_T sc d M pc ls (.null :: st) μ w P := by
  obtain ⟨r, μ', w', hR, hP⟩ := K1
  exact ⟨r, μ', w', xr_astore0 hd hi ho hR, hP⟩
theorem xt_astore_n0 {i : Fin 4} (hd : decode M.2.1 pc = .ok (.astore_n i, 1)) (hi : (i : Nat) < M.2.2.1) (ho : x_ok1 ls i = true)
    (K1 : x_T sc d M (pc + 1) (ls.set i .null) (st) μ w P) : x_T sc d M pc ls (.null :: st) μ w P := by
  obtain ⟨r, μ', w', hR, hP⟩ := K1
  exact ⟨r, μ', w', xr_astore_n0 hd hi ho hR, hP⟩
theorem xt_lstore {i : Nat} {x : Int64} (hd : decode M.2.1 pc = .ok (.lstore i, 2)) (hi : i + 1 < M.2.2.1) (ho : x_ok1 ls i = true)
    (K1 : x_T sc d M (pc + 2) ((ls.set i (.long x)).set (i + 1) (.retAddr 0)) (st) μ w P) : x_T sc d M pc ls (.long x :: st) μ w P := by
  obtain ⟨r, μ', w', hR, hP⟩ := K1
  exact ⟨r, μ', w', xr_lstore hd hi ho hR, hP⟩
theorem xt_lstore_n {i : Fin 4} {x : Int64} (hd : decode M.2.1 pc = .ok (.lstore_n i, 1)) (hi : (i : Nat) + 1 < M.2.2.1) (ho : x_ok1 ls i = true)
    (K1 : x_T sc d M (pc + 1) ((ls.set i (.long x)).set (i + 1) (.retAddr 0)) (st) μ w P) : x_T sc d M pc ls (.long x :: st) μ w P := by
  obtain ⟨r, μ', w', hR, hP⟩ := K1
  exact ⟨r, μ', w', xr_lstore_n hd hi ho hR, hP⟩
theorem xt_iinc {i : Nat} {n : Int} (x : Int32) (v : Int32) (hd : decode M.2.1 pc = .ok (.iinc i n, 3)) (hl : ls[i]? = some (.int x)) (hv : x + Int32.ofInt n = v) (hi : i < M.2.2.1) (ho : x_ok1 ls i = true)
    (K1 : x_T sc d M (pc + 3) (ls.set i (.int v)) (st) μ w P) : x_T sc d M pc ls (st) μ w P := by
  obtain ⟨r, μ', w', hR, hP⟩ := K1
  exact ⟨r, μ', w', xr_iinc x v hd hl hv hi ho hR, hP⟩
theorem xt_gets {idx : Nat} (q : String × String × Nat × List Int32) (hd : decode M.2.1 pc = .ok (.getstatic idx, 3)) (hq : q ∈ x_stat) (hq1 : ¬ q.2.2.1 < 1000000) (hw : Cond.fieldLink M.1.cls idx q.1 q.2.1 "[I" ∈ x_WS)
    (K1 : x_T sc d M (pc + 3) ls (.ref q.2.2.1 :: st) μ w P) : x_T sc d M pc ls st μ w P := by
  obtain ⟨r, μ', w', hR, hP⟩ := K1
  exact ⟨r, μ', w', xr_gets q hd hq hq1 hw hR, hP⟩
theorem xt_ialdT {k N : Nat} {f : Nat → Int32} {i : Int32} (hd : decode M.2.1 pc = .ok (.iaload, 1)) (hr : x_row sc k N f) (hi : vp_in i N)
    (K1 : x_T sc d M (pc + 1) ls (.int (f i.toNatClampNeg) :: st) μ w P) : x_T sc d M pc ls (.int i :: .ref k :: st) μ w P := by
  obtain ⟨r, μ', w', hR, hP⟩ := K1
  exact ⟨r, μ', w', xr_ialdT hd hr hi hR, hP⟩
theorem xt_alenT {k N : Nat} {f : Nat → Int32} (v : Int32) (hd : decode M.2.1 pc = .ok (.arraylength, 1)) (hr : x_row sc k N f) (hv : Int32.ofNat N = v)
    (K1 : x_T sc d M (pc + 1) ls (.int v :: st) μ w P) : x_T sc d M pc ls (.ref k :: st) μ w P := by
  obtain ⟨r, μ', w', hR, hP⟩ := K1
  exact ⟨r, μ', w', xr_alenT v hd hr hv hR, hP⟩
theorem xt_inc {i : Nat} {n : Int} (x c : Int32) (hd : decode M.2.1 pc = .ok (.iinc i n, 3)) (hl : ls[i]? = some (.int x)) (hc : Int32.ofInt n = c) (hi : i < M.2.2.1) (ho : x_ok1 ls i = true)
    (k : x_T sc d M (pc + 3) (ls.set i (.int (x + c))) st μ w P) : x_T sc d M pc ls st μ w P := xt_iinc x _ hd hl (by rw [hc]) hi ho k
theorem xt_geti {idx ci k j : Nat} {tm : List (Option (Option Value))} (hd : decode M.2.1 pc = .ok (.getfield idx, 3)) (hf : x_fl M.1.cls idx ci j) (hs : x_shape[k]? = some (.inl (ci, tm))) (hj : tm[j]? = some none)
    (K : x_T sc d M (pc + 3) ls (.int (μ k j) :: st) μ w P) : x_T sc d M pc ls (.ref k :: st) μ w P := by
  obtain ⟨r, μ', w', hR, hP⟩ := K
  exact ⟨r, μ', w', xr_getf j _ hd (x_hp_get hs) (x_k0 hs) hf (by simp [hj, x_fld]) hR, hP⟩
theorem xt_getr {idx ci k j : Nat} {tm : List (Option (Option Value))} (v : Value) (hd : decode M.2.1 pc = .ok (.getfield idx, 3)) (hf : x_fl M.1.cls idx ci j) (hs : x_shape[k]? = some (.inl (ci, tm))) (hj : tm[j]? = some (some (some v)))
    (K : x_T sc d M (pc + 3) ls (v :: st) μ w P) : x_T sc d M pc ls (.ref k :: st) μ w P := by
  obtain ⟨r, μ', w', hR, hP⟩ := K
  exact ⟨r, μ', w', xr_getf j _ hd (x_hp_get hs) (x_k0 hs) hf (by simp [hj, x_fld]) hR, hP⟩
theorem xt_getl {idx ci k j : Nat} {tm : List (Option (Option Value))} (hd : decode M.2.1 pc = .ok (.getfield idx, 3)) (hf : x_fl M.1.cls idx ci j) (hs : x_shape[k]? = some (.inl (ci, tm))) (hj : tm[j]? = some (some none))
    (K : x_T sc d M (pc + 3) ls (.long w :: st) μ w P) : x_T sc d M pc ls (.ref k :: st) μ w P := by
  obtain ⟨r, μ', w', hR, hP⟩ := K
  exact ⟨r, μ', w', xr_getf j _ hd (x_hp_get hs) (x_k0 hs) hf (by simp [hj, x_fld]) hR, hP⟩
theorem xt_puti {idx ci k j : Nat} {tm : List (Option (Option Value))} {v : Int32} {ty : FieldType} (hd : decode M.2.1 pc = .ok (.putfield idx, 3)) (hf : x_fp M.1.cls idx ci j ty false) (hs : x_shape[k]? = some (.inl (ci, tm))) (hj : tm[j]? = some none) (hn : narrow ty (.int v) = .int v) (hfit : fits ty (.int v) = true)
    (K : x_T sc d M (pc + 3) ls st (x_u μ k (upd (μ k) j v)) w P) : x_T sc d M pc ls (.int v :: .ref k :: st) μ w P := by
  obtain ⟨r, μ', w', hR, hP⟩ := K
  have hl : j < tm.length := (List.getElem?_eq_some_iff.mp hj).1
  refine ⟨r, μ', w', xr_putf (fs := tm.mapIdx (fun j o => x_fld (μ k) w j o)) j ty hd (x_hp_get hs) (x_k0 hs) hf (fun _ => hn) (fun _ => hfit) (by simpa using hl) ?_, hP⟩
  rw [x_fld_upd _ _ _ _ _ hj]
  have e := x_hp_set (μ := μ) (w := w) hs (upd (μ k) j v)
  rw [← e] at hR
  exact hR
theorem xt_ald {k n : Nat} {i : Int32} (hd : decode M.2.1 pc = .ok (.iaload, 1)) (hs : x_shape[k]? = some (.inr (.inl (0, n)))) (hi : vp_in i n)
    (K : x_T sc d M (pc + 1) ls (.int (μ k i.toNatClampNeg) :: st) μ w P) : x_T sc d M pc ls (.int i :: .ref k :: st) μ w P := by
  obtain ⟨r, μ', w', hR, hP⟩ := K
  exact ⟨r, μ', w', xr_iald hd (x_hp_get hs) (x_k0 hs) hi hR, hP⟩
theorem xt_bald {k n : Nat} {i : Int32} (hd : decode M.2.1 pc = .ok (.baload, 1)) (hs : x_shape[k]? = some (.inr (.inl (1, n)))) (hi : vp_in i n)
    (K : x_T sc d M (pc + 1) ls (.int (μ k i.toNatClampNeg) :: st) μ w P) : x_T sc d M pc ls (.int i :: .ref k :: st) μ w P := by
  obtain ⟨r, μ', w', hR, hP⟩ := K
  exact ⟨r, μ', w', xr_bald hd (x_hp_get hs) (x_k0 hs) hi hR, hP⟩
theorem xt_zald {k n : Nat} {i : Int32} (hd : decode M.2.1 pc = .ok (.baload, 1)) (hs : x_shape[k]? = some (.inr (.inl (2, n)))) (hi : vp_in i n)
    (K : x_T sc d M (pc + 1) ls (.int (μ k i.toNatClampNeg) :: st) μ w P) : x_T sc d M pc ls (.int i :: .ref k :: st) μ w P := by
  obtain ⟨r, μ', w', hR, hP⟩ := K
  exact ⟨r, μ', w', xr_zald hd (x_hp_get hs) (x_k0 hs) hi hR, hP⟩
theorem xt_ast {k n : Nat} {i x : Int32} (hd : decode M.2.1 pc = .ok (.iastore, 1)) (hs : x_shape[k]? = some (.inr (.inl (0, n)))) (hi : vp_in i n)
    (K : x_T sc d M (pc + 1) ls st (x_u μ k (upd (μ k) i.toNatClampNeg x)) w P) : x_T sc d M pc ls (.int x :: .int i :: .ref k :: st) μ w P := by
  obtain ⟨r, μ', w', hR, hP⟩ := K
  refine ⟨r, μ', w', xr_iast hd (x_hp_get hs) (x_k0 hs) hi ?_, hP⟩
  rw [← x_hp_set hs] at hR
  exact hR
theorem xt_bast {k n : Nat} {i x : Int32} (hd : decode M.2.1 pc = .ok (.bastore, 1)) (hs : x_shape[k]? = some (.inr (.inl (1, n)))) (hi : vp_in i n)
    (K : x_T sc d M (pc + 1) ls st (x_u μ k (upd (μ k) i.toNatClampNeg (vp_nar .byte x))) w P) : x_T sc d M pc ls (.int x :: .int i :: .ref k :: st) μ w P := by
  obtain ⟨r, μ', w', hR, hP⟩ := K
  refine ⟨r, μ', w', xr_bast hd (x_hp_get hs) (x_k0 hs) hi ?_, hP⟩
  rw [← x_hp_set hs] at hR
  exact hR
theorem xt_zast {k n : Nat} {i x : Int32} (hd : decode M.2.1 pc = .ok (.bastore, 1)) (hs : x_shape[k]? = some (.inr (.inl (2, n)))) (hi : vp_in i n)
    (K : x_T sc d M (pc + 1) ls st (x_u μ k (upd (μ k) i.toNatClampNeg (vp_nar .boolean x))) w P) : x_T sc d M pc ls (.int x :: .int i :: .ref k :: st) μ w P := by
  obtain ⟨r, μ', w', hR, hP⟩ := K
  refine ⟨r, μ', w', xr_zast hd (x_hp_get hs) (x_k0 hs) hi ?_, hP⟩
  rw [← x_hp_set hs] at hR
  exact hR
theorem xt_alen {k t n : Nat} (v : Int32) (hd : decode M.2.1 pc = .ok (.arraylength, 1)) (hs : x_shape[k]? = some (.inr (.inl (t, n)))) (ht : t < 7) (hv : Int32.ofNat n = v)
    (K : x_T sc d M (pc + 1) ls (.int v :: st) μ w P) : x_T sc d M pc ls (.ref k :: st) μ w P := by
  obtain ⟨r, μ', w', hR, hP⟩ := K
  exact ⟨r, μ', w', xr_alen v hd (x_hp_get hs) (x_k0 hs) ht hv hR, hP⟩
theorem xt_aald {k t n : Nat} {f : Nat → Option Nat} {i : Int32} (v : Value) (hd : decode M.2.1 pc = .ok (.aaload, 1)) (hs : x_shape[k]? = some (.inr (.inr (t, n, f)))) (ht : 3 ≤ t ∧ t < 7) (hi : vp_in i n) (hv : x_rf (f i.toNatClampNeg) = v)
    (K : x_T sc d M (pc + 1) ls (v :: st) μ w P) : x_T sc d M pc ls (.int i :: .ref k :: st) μ w P := by
  obtain ⟨r, μ', w', hR, hP⟩ := K
  exact ⟨r, μ', w', xr_aald v hd (x_hp_get hs) (x_k0 hs) ht hi hv hR, hP⟩
theorem xt_copy {idx k1 k2 n1 n2 t : Nat} {sp dp n : Int32} {rest : List Value} (ty : FieldType) (hd : decode M.2.1 pc = .ok (.invokestatic idx, 3)) (hl : Cond.methodLink M.1.cls idx arraycopyName ∈ x_WS ∧ Cond.native arraycopyName ∈ x_WS ∧ Cond.static arraycopyName ∈ x_WS ∧ Cond.initialized "java/lang/System" ∈ x_WS)
    (hs1 : x_shape[k1]? = some (.inr (.inl (t, n1)))) (hs2 : x_shape[k2]? = some (.inr (.inl (t, n2)))) (hty : ∀ E : x_Env, (x_Ty E)[t]? = some (E.2.1 t, ty)) (hp : refKind ty = false)
    (h1 : ¬ sp < 0) (h2 : ¬ dp < 0) (h3 : ¬ n < 0) (h4 : sp.toNatClampNeg + n.toNatClampNeg ≤ n1) (h5 : dp.toNatClampNeg + n.toNatClampNeg ≤ n2) (hfit : ∀ i, i < n.toNatClampNeg → fits ty (.int (μ k1 (sp.toNatClampNeg + i))) = true) (hc : (rest.map fun v => v.category).sum ≤ 8)
    (K : x_T sc (d + 1) M (pc + 3) ls rest (x_u μ k2 (va_cpy (μ k1) (μ k2) sp.toNatClampNeg dp.toNatClampNeg n.toNatClampNeg)) w P) : x_T sc (d + 1) M pc ls (.int n :: .int dp :: .ref k2 :: .int sp :: .ref k1 :: rest) μ w P := by
  obtain ⟨r, μ', w', hR, hP⟩ := K
  refine ⟨r, μ', w', xr_copy ty hd hl (x_hp_get hs1) (x_k0 hs1) (x_hp_get hs2) (x_k0 hs2) hty hp h1 h2 h3 h4 h5 hfit hc ?_, hP⟩
  rw [← x_hp_set hs2] at hR
  exact hR
theorem xt_iret {v : Int32} (ty : FieldType) (hd : decode M.2.1 pc = .ok (.ireturn, 1)) (hr : M.2.2.2 = some ty) (hn : narrow ty (.int v) = .int v) (hP : P (some (.int v)) μ w) : x_T sc d M pc ls [.int v] μ w P := ⟨_, μ, w, xr_iret ty hd hr hn, hP⟩
theorem xt_lret {v : Int64} (hd : decode M.2.1 pc = .ok (.lreturn, 1)) (hr : M.2.2.2 = some .long) (hP : P (some (.long v)) μ w) : x_T sc d M pc ls [.long v] μ w P := ⟨_, μ, w, xr_lret hd hr, hP⟩
theorem xt_aret {k : Nat} (n : String) (hd : decode M.2.1 pc = .ok (.areturn, 1)) (hr : M.2.2.2 = some (.object n)) (hP : P (some (.ref k)) μ w) : x_T sc d M pc ls [.ref k] μ w P := ⟨_, μ, w, xr_aret n hd hr, hP⟩
theorem xt_aret0 (n : String) (hd : decode M.2.1 pc = .ok (.areturn, 1)) (hr : M.2.2.2 = some (.object n)) (hP : P (some .null) μ w) : x_T sc d M pc ls [.null] μ w P := ⟨_, μ, w, xr_aret0 n hd hr, hP⟩
theorem xt_ret (hd : decode M.2.1 pc = .ok (.return_, 1)) (hr : M.2.2.2 = none) (hP : P none μ w) : x_T sc d M pc ls [] μ w P := ⟨_, μ, w, xr_ret hd hr, hP⟩
theorem xt_callS {idx n : Nat} {as : List Value} (rest : List Value) (hd : decode M.2.1 pc = .ok (.invokestatic idx, 3)) (hl : x_lkS M.1.cls idx M' n) (hM : x_K sc d M' as μ w P1) (hn : as.length = n) (hst : st = as.reverse ++ rest) (hc : (rest.map fun v => v.category).sum ≤ 8)
    (k : ∀ r1 μ1 w1, P1 r1 μ1 w1 → x_T sc (d + 1) M (pc + 3) ls (r1.toList ++ rest) μ1 w1 P) : x_T sc (d + 1) M pc ls st μ w P := by
  obtain ⟨r1, μ1, w1, hM1, hP1⟩ := hM
  obtain ⟨r, μ', w', hR, hP⟩ := k r1 μ1 w1 hP1
  exact ⟨r, μ', w', xr_callS hd hl hn hst hc hM1 hR, hP⟩
theorem xt_callV {idx n ci k0 : Nat} {as : List Value} {tm : List (Option (Option Value))} (rest : List Value) (hd : decode M.2.1 pc = .ok (.invokevirtual idx, 3)) (hl : x_lkV M.1.cls idx M' n ci) (hM : x_K sc d M' (.ref k0 :: as) μ w P1) (hs : x_shape[k0]? = some (.inl (ci, tm))) (hn : as.length = n) (hst : st = as.reverse ++ .ref k0 :: rest) (hc : (rest.map fun v => v.category).sum ≤ 8)
    (k : ∀ r1 μ1 w1, P1 r1 μ1 w1 → x_T sc (d + 1) M (pc + 3) ls (r1.toList ++ rest) μ1 w1 P) : x_T sc (d + 1) M pc ls st μ w P := by
  obtain ⟨r1, μ1, w1, hM1, hP1⟩ := hM
  obtain ⟨r, μ', w', hR, hP⟩ := k r1 μ1 w1 hP1
  exact ⟨r, μ', w', xr_callV hd hl hn hst hc (x_hp_get hs) (x_k0 hs) hM1 hR, hP⟩
end XT
