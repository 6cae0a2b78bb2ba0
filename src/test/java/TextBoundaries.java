/** The edges of promises 1 to 5 and 35 to 37, and of what a text may be (Terms, 1). */
public final class TextBoundaries {
    private static final int NONE = UprightFair.NONE;
    private static final int LEAST = Integer.MIN_VALUE;
    private static final int GREATEST = Integer.MAX_VALUE;
    private static final int BLANKS = 0x20202020;
    private static final Check check = new Check();

    private static void due(String call, long got, long want) {
        check.due(call, got, want);
    }

    private static void due(String call, boolean got, boolean want) {
        check.due(call, got, want);
    }

    private static int feedBlanks(UprightFair x) {
        return x.feed(BLANKS, BLANKS, BLANKS, BLANKS, BLANKS);
    }

    /** The tape has as many bytes, no more and no fewer. */
    private static void tapeHas(String when, UprightFair x, int bytes) {
        due(when + ": the tape has " + bytes, x.end(bytes), bytes);
        due(when + ": the tape has no more than " + bytes, x.end(bytes + 1), NONE);
    }

    private static void fault(int sort, String text, int fault, int place) {
        UprightFair x = new UprightFair();
        String shown = text.length() > 60 ? text.substring(0, 60) + ".." : text;
        due("4 text of '" + shown + "'", Check.tell(x, sort, text), fault == 0 ? 0 : NONE);
        due("5 fault of '" + shown + "'", x.fault(0), fault);
        due("5 place of '" + shown + "'", x.fault(1), place);
        due("35 count after '" + shown + "'", x.count(sort), fault == 0 ? 1 : 0);
        tapeHas("4 after '" + shown + "'", x, 0);
    }

    private static void newObject() {
        UprightFair x = new UprightFair();
        tapeHas("1", x, 0);
        due("1 no FAULT", x.fault(0), 0);
        due("1 no place", x.fault(1), NONE);
        for (int sort = 0; sort < 3; sort++) {
            due("1 none of sort " + sort, x.count(sort), 0);
            due("1 none in whose place", x.text(sort, 0), -2);
            due("1 no image " + sort, x.again(sort), false);
        }
        UprightFair full = Check.full();
        due("1 another object has nothing of it", new UprightFair().count(0), 0);
        due("1 another object has no image of it", full.image(0) && new UprightFair().again(0), false);
        tapeHas("1 another object", new UprightFair(), 0);
    }

    private static void feed() {
        UprightFair x = new UprightFair();
        // "stan" "d 7 " "3;sl" "ant " "8;\n "
        due("2 twenty bytes", x.feed(0x7374616e, 0x64203720, 0x333b736c, 0x616e7420, 0x383b0a20), 20);
        due("2 of each number the highest first", x.text(0, NONE), 0);
        due("2 X", x.fair(0, 0), 7);
        due("2 Y", x.fair(0, 1), 3);
        due("2 SLANT", x.fair(0, 2), 8);
        due("2 the least int", x.feed(LEAST, LEAST, LEAST, LEAST, LEAST), 20);
        due("2 80 is no byte of a text", x.text(0, NONE), NONE);
        due("2 80 is no byte of a text", x.fault(1), 0);
        due("2 the greatest int", x.feed(GREATEST, GREATEST, GREATEST, GREATEST, GREATEST), 20);
        due("2 7f is no byte of a text", x.text(0, NONE), NONE);
        due("2 all bits", x.feed(-1, -1, -1, -1, -1), 20);
        due("2 all bits behind", x.feed(-1, -1, -1, -1, -1), 40);
        due("2 ff is no byte of a text", x.text(0, NONE), NONE);
        due("2 ff is no byte of a text", x.fault(0), 1);
        // The last byte of the last number alone is not a blank.
        x.feed(BLANKS, BLANKS, BLANKS, BLANKS, 0x2020203b);
        due("2 the lowest byte last", x.text(0, NONE), NONE);
        due("2 the lowest byte last", x.fault(1), 19);
    }

    private static void fullTape() {
        int[] room = {580, 579, 1, 0};
        for (int had : room) {
            UprightFair x = filled(had);
            due("2 up to 600 behind " + had, feedBlanks(x), had + 20);
            tapeHas("2 behind " + had, x, had + 20);
        }
        int[] tooFull = {581, 582, 599, 600};
        for (int had : tooFull) {
            UprightFair x = filled(had);
            due("2 beyond 600 behind " + had, x.feed(-1, -1, -1, -1, -1), NONE);
            tapeHas("2 nothing came behind " + had, x, had);
            due("2 nothing came behind " + had, x.text(1, NONE), 0);
            due("2 it is as it was behind " + had, x.deed(0, NONE, 0), 1);
        }
        UprightFair x = filled(600);
        due("2 refused", x.feed(-1, -1, -1, -1, -1), NONE);
        due("3 twenty fewer", x.end(580), 580);
        // "fit;"
        due("2 in their place", x.feed(0x6669743b, BLANKS, BLANKS, BLANKS, BLANKS), 600);
        due("2 what came, not what was refused", x.text(1, NONE), 0);
        due("2 the first", x.deed(0, 0, 0), 0);
        due("2 the one that came", x.deed(0, 1, 0), 1);
        due("2 no others", x.deed(0, NONE, 0), 2);
        due("2 empty behind a full one", feedBlanks(x), 20);
    }

    /** A tape that begins with a tune, so many bytes long, blanks behind. */
    private static UprightFair filled(int bytes) {
        UprightFair x = new UprightFair();
        x.feed(0x74756e65, 0x3b202020, BLANKS, BLANKS, BLANKS);
        for (int fed = 20; fed < bytes; fed += 20) {
            feedBlanks(x);
        }
        x.end(bytes);
        return x;
    }

    private static void end() {
        UprightFair x = new UprightFair();
        due("3 nothing of nothing", x.end(0), 0);
        int[] refused = {1, -1, 20, 600, 601, LEAST, GREATEST};
        for (int n : refused) {
            due("3 an empty tape has not " + n, x.end(n), NONE);
        }
        tapeHas("3 still empty", x, 0);
        Check.tape(x, "slant 3;slant 4;");
        int[] beyond = {17, 20, 600, 601, -1, LEAST, GREATEST};
        for (int n : beyond) {
            due("3 not so many as " + n, x.end(n), NONE);
        }
        tapeHas("3 as it was", x, 16);
        due("3 the first alone", x.end(8), 8);
        due("3 the rest does not come back", x.end(9), NONE);
        due("3 none of it comes back", x.end(16), NONE);
        due("4 what is left", x.text(0, NONE), 0);
        due("4 what is left", x.fair(0, 2), 3);
        Check.tape(x, "slant 7;");
        due("3 one byte fewer", x.end(7), 7);
        // ";" comes behind the first seven.
        due("2 behind what is left", x.feed(0x3b202020, BLANKS, BLANKS, BLANKS, BLANKS), 27);
        due("2 behind what is left", x.text(0, 0), 0);
        due("2 behind what is left", x.fair(0, 2), 7);
        Check.tape(x, "slant 10;");
        due("3 to nothing", x.end(0), 0);
        due("4 nothing is a text", x.text(0, 0), 0);
        due("4 nothing is a text", x.fair(0, 2), 0);
    }

    private static void whereATextGoes() {
        for (int sort = 0; sort < 3; sort++) {
            UprightFair x = new UprightFair();
            refused(x, sort, 0, 0, 1, 2, -2, LEAST, GREATEST);
            due("4 the first", Check.tell(x, sort, " "), 0);
            refused(x, sort, 1, 1, 2, -2, LEAST, GREATEST);
            due("4 in the place of the only one", Check.tellAt(x, sort, 0, " "), 0);
            due("35 no more by that", x.count(sort), 1);
            due("4 the second", Check.tell(x, sort, " "), 1);
            refused(x, sort, 2, NONE, 2, 3, -2, LEAST, GREATEST);
            due("4 in the place of the first", Check.tellAt(x, sort, 0, " "), 0);
            due("4 in the place of the second", Check.tellAt(x, sort, 1, " "), 1);
            due("35 no more by that", x.count(sort), 2);
            due("35 of the next sort none", x.count((sort + 1) % 3), 0);
            due("35 of the last sort none", x.count((sort + 2) % 3), 0);
        }
        int[] noSorts = {-1, 3, -2, LEAST, GREATEST};
        for (int sort : noSorts) {
            UprightFair x = Check.full();
            refused(x, sort, -2, NONE, 0, 1, LEAST, GREATEST);
            refused(new UprightFair(), sort, -2, NONE, 0, 1, LEAST, GREATEST);
        }
    }

    /** -2 for each place, the tape taken, no FAULT, and so many of the sort as before. */
    private static void refused(UprightFair x, int sort, int had, int... places) {
        for (int at : places) {
            due("4 a FAULT before", Check.tellAt(x, 0, x.count(0) > 0 ? 0 : NONE, "slant 10;"), NONE);
            due("5 a FAULT before", x.fault(0), 2);
            String before = Check.print(x, false);
            Check.tape(x, "stand 1 1;tune;lies 1;");
            due("4 sort " + sort + " at " + at, x.text(sort, at), -2);
            tapeHas("4 sort " + sort + " at " + at, x, 0);
            due("5 FAULT 0 then", x.fault(0), 0);
            due("5 no place then", x.fault(1), NONE);
            due("35 as many as before", x.count(sort), had);
            due("4 all else as it was", Check.print(x, false).equals(before), true);
        }
    }

    private static void inThePlaceOfOne() {
        UprightFair x = Check.full();
        due("4 a FAIR in the place", Check.tellAt(x, 0, 0, ""), 0);
        due("4 a DAY in the place", Check.tellAt(x, 1, 0, ""), 0);
        due("4 a LOG in the place", Check.tellAt(x, 2, 0, ""), 0);
        int[] atFirst = {5, 5, 0, 0, 0, 0, 0};
        for (int what = 0; what < 300; what++) {
            due("4 nothing of the old FAIR, what " + what, x.fair(0, what), what < 7 ? atFirst[what] : NONE);
        }
        due("4 nothing of the old DAY", x.deed(0, NONE, 0), 0);
        due("4 nothing of the old DAY", x.deed(0, 0, 0), -2);
        due("4 nothing of the old LOG", x.log(0, 0), 0);
        due("4 nothing of the old LOG", x.log(0, 1), 0);
        due("4 the other FAIR stays", x.fair(1, 4), 8);
        due("4 the other DAY stays", x.deed(1, NONE, 0), 40);
        due("4 the other LOG stays", x.log(1, 1), 8);
        due("4 a GOER without WRONGS again", Check.tellAt(x, 0, 1, "goer 1 2;".repeat(8)), 1);
        for (int what = 100; what < 180; what++) {
            due("4 no WRONGS of old, what " + what, x.fair(1, what), what % 10 < 6 ? 0 : NONE);
        }
        String before = Check.print(x, false);
        String[] spoilt = {"slant 1;goer 0 0;minds", "tune;do 0 0 0;", "lies 8;".repeat(3) + "stopped 0;".repeat(9)};
        for (int sort = 0; sort < 3; sort++) {
            due("4 a FAULT in the place", Check.tellAt(x, sort, 1, spoilt[sort]), NONE);
            due("4 all is as it was", Check.print(x, false).equals(before), true);
        }
        UprightFair y = new UprightFair();
        due("4 a FAULT of a further one", Check.tell(y, 0, "slant 1;goer 0 0;minds"), NONE);
        due("4 the spoilt one leaves nothing", Check.tell(y, 0, "goer 3 4;"), 0);
        due("4 the spoilt one leaves nothing", y.fair(0, 2), 0);
        due("4 the spoilt one leaves nothing", y.fair(0, 4), 1);
        due("4 the spoilt one leaves nothing", y.fair(0, 40), 3);
    }

    private static void stays(UprightFair x) {
        due("5 it stays until the next text()", x.fault(0), 2);
        due("5 its place stays", x.fault(1), 6);
    }

    private static void faultOfTheLatest() {
        UprightFair x = new UprightFair();
        Check.tell(x, 0, "slant 10;");
        int[] others = {-1, 2, 3, LEAST, GREATEST};
        for (int what : others) {
            due("5 another what", x.fault(what), NONE);
        }
        feedBlanks(x);
        x.end(3);
        x.image(0);
        x.count(0);
        x.fair(0, 0);
        stays(x);
        for (int i = 0; i < 30; i++) {
            feedBlanks(x);
        }
        due("2 refused", feedBlanks(x), NONE);
        stays(x);
        due("3 refused", x.end(-1), NONE);
        due("37 refused", x.again(1), false);
        stays(x);
        due("3 nothing is left", x.end(0), 0);
        stays(x);
        due("4 a text", x.text(0, NONE), 0);
        due("5 none then", x.fault(0), 0);
        due("5 no place then", x.fault(1), NONE);
        for (int what : others) {
            due("5 another what", x.fault(what), NONE);
        }
        fault(0, ";" + " ".repeat(599), 1, 0);
        fault(0, " ".repeat(599) + ";", 1, 599);
        fault(0, " ".repeat(600), 0, NONE);
        fault(0, "slant 5" + " ".repeat(593), 1, 600);
        fault(0, " ".repeat(592) + "slant 5;", 0, NONE);
        fault(0, " ".repeat(591) + "slant 10;", 2, 597);
        fault(0, "wrong 0 0 1;" + "\n".repeat(588), 4, 600);
        fault(0, "z".repeat(600), 1, 0);
        fault(0, "slant " + "0".repeat(594), 1, 6);
        fault(0, "slant 4294967301;", 1, 6);
    }

    /** Each byte that may be, alone, behind a word, behind a NUMBER. */
    private static void bytes() {
        for (int b = 0; b < 256; b++) {
            boolean blank = b == 10 || b == 32;
            boolean letter = b >= 'a' && b <= 'z';
            boolean digit = b >= '0' && b <= '9';
            String s = String.valueOf((char) b);
            fault(b % 3, s, blank ? 0 : 1, blank ? NONE : 0);
            if (blank || b == '0') {
                fault(0, "slant" + s + "3;", 0, NONE);
            } else {
                fault(0, "slant" + s + "3;", digit ? 2 : 1, letter ? 0 : 5);
            }
            if (blank) {
                fault(0, "slant 3" + s + ";", 0, NONE);
            } else if (b == ';') {
                fault(0, "slant 3;;", 1, 8);
            } else {
                fault(0, "slant 3" + s + ";", digit ? 2 : 1, digit ? 6 : 7);
            }
        }
    }

    private static void tokens() {
        fault(1, "tunefit;", 1, 0);
        fault(1, "tunes;", 1, 0);
        fault(1, "tun;", 1, 0);
        fault(1, "fit;tun;", 1, 4);
        fault(1, "ttune;", 1, 0);
        fault(1, "tune;fit;ask 0;", 0, NONE);
        fault(1, "tune\n;\nfit ;ask\n0\n;\n", 0, NONE);
        fault(1, "ask0;walk1 2 3;", 0, NONE);
        fault(1, "walk 1 23;", 1, 9);
        fault(1, "walk 123;", 1, 5);
        fault(1, "a", 1, 0);
        fault(1, "a sk 0;", 1, 0);
        fault(2, "lies 0;", 0, NONE);
        fault(2, "lies 00;", 0, NONE);
        fault(2, "lies 08;", 0, NONE);
        fault(2, "lies 000;", 1, 5);
        fault(2, "lies 008;", 1, 5);
        fault(2, "lies 0 8;", 1, 7);
        fault(2, "lies;", 1, 4);
        fault(2, "lies", 1, 4);
        fault(2, "lies\n", 1, 5);
        fault(2, "lies 8", 1, 6);
        fault(2, "lies 8\n ", 1, 8);
        fault(2, "lies stopped 1;", 1, 5);
        fault(2, "8 lies;", 1, 0);
        fault(2, "lies 8;8", 1, 7);
        fault(2, "lies -1;", 1, 5);
        String[][] words = {
            {"stand 1 1", "goer 1 1", "slant 1", "minds 1 1 1", "wrong 1 1 1", "confess 1 1", "town 1 1 1 1"},
            {"tune", "fit", "ask 1", "walk 1 1 1", "mend 1 1 1", "do 1 1 1"},
            {"lies 1", "stopped 1", "played 1"}};
        for (int sort = 0; sort < 3; sort++) {
            for (int of = 0; of < 3; of++) {
                for (String line : words[of]) {
                    // A FAIR without GOERS has none that wrong could tell of.
                    int right = line.startsWith("wrong") ? 4 : 0;
                    fault(sort, line + ";", sort == of ? right : 1, sort == of ? right == 4 ? 12 : NONE : 0);
                    fault(of, line, 1, line.length());
                    misspelt(of, line);
                    fault(of, line + " 1;", 1, line.length() + 1);
                    fault(of, line + " x;", 1, line.length() + 1);
                    if (line.indexOf(' ') > 0) {
                        String short1 = line.substring(0, line.length() - 2);
                        fault(of, short1 + ";", 1, short1.length());
                        fault(of, short1 + " ", 1, short1.length() + 1);
                    }
                }
            }
        }
    }

    /** A word of which one letter is another; a row of three digits where each token was. */
    private static void misspelt(int sort, String line) {
        String[] parts = (line + " ;").split(" ");
        for (int i = 0; i < parts[0].length(); i++) {
            fault(sort, line.substring(0, i) + "q" + line.substring(i + 1) + ";", 1, 0);
        }
        int place = 0;
        for (int i = 0; i < parts.length; i++) {
            String[] spoilt = parts.clone();
            spoilt[i] = "100";
            fault(sort, String.join(" ", spoilt), 1, place);
            place += parts[i].length() + 1;
        }
        fault(sort, "100 " + line + ";", 1, 0);
        fault(sort, line + " 100;", 1, line.length() + 1);
        fault(sort, line + " 100 " + line + ";", 1, line.length() + 1);
    }

    /** Each NUMBER of each line: the least and the greatest that can be, and one beyond. */
    private static void numbers() {
        String[] lines = {
            "stand 0-9 0-9", "goer 0-9 0-9", "slant 0-9", "minds 0-5 0-18 1-9", "wrong 0-7 0-5 0-9", "confess 1-63 0-20",
            "town 0-9 0-9 0-30 0-10", "ask 0-7", "walk 0-7 0-9 0-9", "mend 0-7 0-5 1-9", "do 0-7 0-5 1-9", "lies 0-8",
            "stopped 0-63", "played 0-63"};
        for (String line : lines) {
            String[] parts = line.split(" ");
            int sort = line.matches("(ask|walk|mend|do).*") ? 1 : line.matches("(lies|stopped|played).*") ? 2 : 0;
            for (int i = 1; i < parts.length; i++) {
                int low = Integer.parseInt(parts[i].split("-")[0]);
                int high = Integer.parseInt(parts[i].split("-")[1]);
                number(sort, parts, i, low, true);
                number(sort, parts, i, high, true);
                number(sort, parts, i, high + 1, false);
                number(sort, parts, i, 99, false);
                if (low > 0) {
                    number(sort, parts, i, low - 1, false);
                }
            }
        }
    }

    private static void number(int sort, String[] parts, int nth, int value, boolean can) {
        String goers = parts[0].equals("wrong") ? "goer 1 1;".repeat(8) : "";
        StringBuilder b = new StringBuilder(goers + parts[0]);
        int place = NONE;
        for (int i = 1; i < parts.length; i++) {
            b.append(' ');
            place = i == nth ? b.length() : place;
            b.append(i == nth ? String.valueOf(value) : parts[i].split("-")[0]);
        }
        fault(sort, b + ";", can ? 0 : 2, can ? NONE : place);
        if (can && sort == 0) {
            UprightFair x = Check.with(0, b + ";");
            int[] from = parts[0].equals("stand") ? new int[] {0, 1} : parts[0].equals("goer") ? new int[] {40, 50}
                : parts[0].equals("slant") ? new int[] {2} : parts[0].equals("minds") ? new int[] {10, 20, 30}
                : parts[0].equals("confess") ? new int[] {60, 70} : parts[0].equals("town") ? new int[] {200, 201, 202, 203} : null;
            int what = from != null ? from[nth - 1] : nth == 1 ? 100 + 10 * value : nth == 2 ? 100 + value : 100;
            due("6 told by " + b, x.fair(0, what), from == null && nth < 3 ? 0 : value);
        } else if (can && sort == 1) {
            due("7 told by " + b, Check.with(1, b + ";").deed(0, 0, nth), value);
        } else if (can) {
            due("16 told by " + b, Check.with(2, b + ";").log(0, parts[0].equals("lies") ? 0 : 20), value);
        }
    }

    /** As many as may be, and one more, at its first token; one with a NUMBER that can't be is one all the same. */
    private static void tooMany() {
        tooMany(0, "minds 0 0 1;", "minds 9 0 1;", 6, 6);
        tooMany(0, "goer 0 0;", "goer 0 99;", 7, 8);
        tooMany(0, "confess 1 0;", "confess 1 21;", 10, 6);
        tooMany(0, "town 0 0 0 0;", "town 0 0 0 11;", 11, 6);
        tooMany(1, "tune;", "ask 8;", 4, 40);
        tooMany(1, "fit;", "walk 0 0 10;", 9, 40);
        tooMany(1, "ask 0;", "mend 0 0 0;", 9, 40);
        tooMany(1, "walk 0 0 0;", "do 0 0 0;", 7, 40);
        tooMany(1, "mend 0 0 1;", "do 0 6 1;", 5, 40);
        tooMany(1, "do 0 0 1;", "ask 99;", 4, 40);
        tooMany(2, "stopped 0;", "played 64;", 7, 8);
        tooMany(2, "played 0;", "stopped 64;", 8, 8);
        for (String unbounded : new String[] {"stand 0 0;", "slant 0;"}) {
            fault(0, unbounded.repeat(50), 0, NONE);
        }
        fault(0, "goer 0 0;" + "wrong 0 0 1;".repeat(49), 0, NONE);
        fault(2, "lies 0;".repeat(85), 0, NONE);
        fault(2, "played 0;".repeat(8) + "lies 0;".repeat(9), 0, NONE);
        fault(1, "tune;fit;ask 0;walk 0 0 0;mend 0 0 1;do 0 0 1;tune;fit;".repeat(5), 0, NONE);
        fault(1, "tune;fit;ask 0;walk 0 0 0;mend 0 0 1;do 0 0 1;tune;fit;".repeat(5) + "fit;", 3, 275);
        fault(2, "played 0;stopped 1;".repeat(4) + "stopped 0;", 3, 76);
        // Of one sort as many as may be leave room for those of another.
        fault(0, "minds 0 0 1;".repeat(6) + "goer 0 0;".repeat(8) + "confess 1 0;".repeat(6) + "town 0 0 0 0;".repeat(6), 0, NONE);
    }

    /** The spoilt line has its NUMBER that can't be at bad. */
    private static void tooMany(int sort, String line, String spoilt, int bad, int most) {
        int wide = line.length();
        int word = spoilt.indexOf(' ');
        fault(sort, line.repeat(most - 1), 0, NONE);
        fault(sort, line.repeat(most), 0, NONE);
        fault(sort, line.repeat(most + 1), 3, most * wide);
        fault(sort, line.repeat(most) + " \n " + line, 3, most * wide + 3);
        fault(sort, line.repeat(most - 1) + spoilt, 2, (most - 1) * wide + bad);
        fault(sort, line.repeat(most) + spoilt, 3, most * wide);
        fault(sort, line.repeat(most + 1) + spoilt, 3, most * wide);
        fault(sort, spoilt + line.repeat(most), 2, bad);
        fault(sort, line.repeat(most + 1) + "?", 1, (most + 1) * wide);
        fault(sort, line.repeat(most + 1) + spoilt.substring(0, word), 1, (most + 1) * wide + word);
    }

    private static void whichFault() {
        fault(0, "slant 10;stand 10 10;", 2, 6);
        fault(0, "stand 10 10;slant 10;", 2, 6);
        fault(0, "stand 9 10;slant 10;", 2, 8);
        fault(0, "slant 10;x", 1, 9);
        fault(0, "slant 10", 1, 8);
        fault(0, "wrong 7 0 0;x", 1, 12);
        fault(0, "wrong 7 0 0;slant 10;", 2, 18);
        fault(0, "wrong 8 0 0;", 2, 6);
        fault(0, "wrong 7 0 0;" + "goer 0 0;".repeat(9), 3, 84);
        fault(0, "wrong 7 0 0;" + "goer 0 0;".repeat(8), 0, NONE);
        fault(0, "goer 0 0;".repeat(8) + "wrong 7 0 0;", 0, NONE);
        for (int g = 0; g < 8; g++) {
            fault(0, "goer 0 0;".repeat(g) + "wrong " + g + " 0 0;", 4, 9 * g + 12);
            fault(0, "wrong " + g + " 0 0;" + "goer 0 0;".repeat(g) + " \n", 4, 9 * g + 14);
            fault(0, "wrong " + g + " 0 0;" + "goer 0 0;".repeat(g + 1), 0, NONE);
        }
        fault(0, "goer 0 0;wrong 1 0 0;wrong 0 0 1;", 4, 33);
        fault(0, "wrong 0 0 1;wrong 0 1 1;", 4, 24);
        fault(0, "goer 0 0;wrong 1 0 1;wrong 1 0 1;", 4, 33);
    }

    private static void struck() {
        UprightFair x = Check.with(0, "stand 1 2;slant 9;stand 3 4;slant 0;stand 0 9;goer 1 1;goer 1 1;wrong 0 5 9;wrong 0 5 0;wrong 0 4 1;"
            + "wrong 1 5 2;wrong 1 5 3;minds 0 0 1;minds 0 0 1;confess 1 1;confess 1 1;town 1 1 1 1;town 1 1 1 1;");
        int[][] want = {{0, 0}, {1, 9}, {2, 0}, {3, 2}, {4, 2}, {5, 2}, {6, 2}, {105, 0}, {104, 1}, {115, 3}, {114, 0}, {100, 0}};
        for (int[] w : want) {
            due("6 later ones strike, others are further ones, what " + w[0], x.fair(0, w[0]), w[1]);
        }
        x = Check.with(2, "lies 8;stopped 1;lies 0;stopped 1;lies 3;");
        due("16 later LIES strike", x.log(0, 0), 3);
        due("16 FACTS are further ones", x.log(0, 1), 2);
        x = Check.with(1, "ask 0;ask 0;tune;tune;");
        due("7 DEEDS are further ones", x.deed(0, NONE, 0), 4);
    }

    private static void counts() {
        UprightFair x = new UprightFair();
        int[] others = {-1, 3, -2, LEAST, GREATEST};
        for (int many = 0; many < 3; many++) {
            for (int sort = 0; sort < 3; sort++) {
                due("35 of sort " + sort, x.count(sort), many);
            }
            for (int sort : others) {
                due("35 no sort " + sort, x.count(sort), -2);
            }
            for (int sort = 0; sort < 3; sort++) {
                due("4 one more", Check.tell(x, sort, ""), many < 2 ? many : -2);
            }
        }
    }

    private static void images() {
        UprightFair x = new UprightFair();
        int[] others = {-1, 3, -2, LEAST, GREATEST};
        for (int k : others) {
            due("36 no image " + k, x.image(k), false);
            due("37 no image " + k, x.again(k), false);
        }
        for (int k = 0; k < 3; k++) {
            due("36 none by a refused one", x.again(k), false);
        }
        due("36 of an empty object", x.image(0), true);
        due("37 others are not there by that", x.again(1) || x.again(2), false);
        Check.fill(x);
        Check.tell(x, 0, "slant 10;");
        Check.tellAt(x, 2, 0, "lies 9;");
        for (int i = 0; i < 30; i++) {
            feedBlanks(x);
        }
        String full = Check.print(x, true);
        due("36 of a full object", x.image(2), true);
        for (int k : others) {
            due("37 refused", x.again(k), false);
            due("36 refused", x.image(k), false);
        }
        due("37 none such", x.again(1), false);
        due("37 refused ones change nothing", Check.print(x, true).equals(full), true);
        due("37 the empty one", x.again(0), true);
        for (int sort = 0; sort < 3; sort++) {
            due("37 of sort " + sort, x.count(sort), 0);
        }
        tapeHas("37 the empty one", x, 0);
        due("37 no FAULT", x.fault(0), 0);
        due("37 no place", x.fault(1), NONE);
        due("37 no FAIR", x.fair(0, 0), NONE);
        due("37 the full one", x.again(2), true);
        due("37 the full one", Check.print(x, true).equals(full), true);
        due("37 its FAULT", x.fault(0), 2);
        due("37 its place", x.fault(1), 5);
        tapeHas("37 the full one", x, 600);
        for (int sort = 0; sort < 3; sort++) {
            Check.tellAt(x, sort, 0, "");
            Check.tellAt(x, sort, 1, "");
        }
        due("37 it is as it was then, whatever came since", x.again(2) && Check.print(x, true).equals(full), true);
        due("37 once more", x.again(2) && Check.print(x, true).equals(full), true);
        due("36 anew over an old one", x.image(0), true);
        Check.tellAt(x, 0, 0, "");
        due("37 the new one", x.again(0) && Check.print(x, true).equals(full), true);
    }

    /** The object is used for 512 calls: the last of them answers as the first did. */
    private static void lastCall() {
        UprightFair x = new UprightFair();
        x.feed(0x6c696573, 0x20353b20, BLANKS, BLANKS, BLANKS);
        x.text(2, NONE);
        x.image(1);
        for (int call = 4; call <= 511; call++) {
            x.again(1);
        }
        due("the 512th call", x.log(0, 0), 5);
    }

    public static void main(String[] args) {
        newObject();
        feed();
        fullTape();
        end();
        whereATextGoes();
        inThePlaceOfOne();
        faultOfTheLatest();
        bytes();
        tokens();
        numbers();
        tooMany();
        whichFault();
        struck();
        counts();
        images();
        lastCall();
        check.end("TextBoundaries");
    }
}
