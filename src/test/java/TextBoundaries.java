/** Texts at the edges: an empty buffer and a full one, each character, each number of a part and the one behind. */
final class TextBoundaries {
    private static final String COURSE = "A course as a text is one or more parts with \";\" between them: \"s\", \"g\""
        + " or \"r\" and a guest, 0 to 11 (who seeks, leaves, or asks for more time); \"d\" or \"x\" and a place, 0 to"
        + " 59 (a message is delivered, or lost); or \"t\" and 1 to 100 (so many ticks go by).";
    private static final String ERROR = "The buffer is read from left to right; a character is a syntax error if no"
        + " course as a text, of any length, begins with the characters before it and this character.";
    private static final String FIRST_ERROR = "Returns the index of the first character that is a syntax error; the"
        + " length of the buffer if there is none.";
    private static final String DIGITS = "0123456789";

    private TextBoundaries() {
    }

    static void all() {
        leastAndGreatestCode();
        emptyAndFullBuffer();
        clearBuffer();
        oneOrMoreParts();
        numbersOfGuests();
        numbersOfPlaces();
        numbersOfTicks();
        leadingZeros();
        eachCharacter();
        ofAnyLength();
        theFirstErrorOfMore();
        noErrorInAnEmptyBuffer();
        playEachLetter();
        playTheLastPlace();
        playOneAndAHundredTicks();
        playTheLongest();
        playNoneAndAll();
        playTakesTheBuffer();
    }

    private static void dueError(String text, int place) {
        KeyLeases x = Inns.typed(text);
        Check.due("firstError of '" + text + "'", x.firstError(), place);
        Check.due("length of '" + text + "', as before", x.clearBuffer(), text.length());
    }

    private static void dueFine(String text) {
        dueError(text, text.length());
    }

    // ---- promises 16 and 17

    private static void leastAndGreatestCode() {
        Doc.says(16, "- `code`: the character code, 33 to 126");
        for (int code = 33; code <= 126; code++) {
            KeyLeases x = new KeyLeases();
            Check.due("append(" + code + ")", x.append(code), 1);
            Check.due("its digest", x.digest(), new KeyLeases().digest() * 31 + 31 + code);
        }
    }

    private static void emptyAndFullBuffer() {
        Doc.says(Doc.TERMS, "The buffer has at most 60 characters.");
        Doc.says(16, "Returns the new length of the buffer.");
        KeyLeases x = new KeyLeases();
        for (int length = 1; length <= 60; length++) {
            Check.due("append", x.append(length % 2 == 0 ? 33 : 126), length);
        }
        Check.dueThrows("append to 60", Check.NOT_NOW, x, () -> x.append(33));
        Check.due("60 are there", x.clearBuffer(), 60);
        Check.due("append once it is empty", x.append(126), 1);
    }

    private static void clearBuffer() {
        Doc.says(17, "Returns the length that it had.");
        KeyLeases x = new KeyLeases();
        Check.due("empty", x.clearBuffer(), 0);
        x.append('s');
        Check.due("one character", x.clearBuffer(), 1);
        Check.due("empty again", x.clearBuffer(), 0);
        Inns.type(x, Inns.LONGEST);
        Check.due("60 characters", x.clearBuffer(), 60);
        Check.due("as a new one", x.digest(), new KeyLeases().digest());
    }

    // ---- courses

    private static void oneOrMoreParts() {
        Doc.says(Doc.TERMS, COURSE);
        dueFine("t1");
        dueFine("t1;s0");
        dueFine("t1;s0;s1");
        dueFine("s0;s1;s2;s3;s4;s5;s6;s7;s8;s9;g0;g1;g2;g3;g4;g5;g6;g7;g8;g9");
        dueFine("t1;");
        dueError(";", 0);
        dueError(";t1", 0);
        dueError("t1;;", 3);
        dueError("t1;;s0", 3);
        dueError("t1,s0", 2);
        dueError("t1:s0", 2);
    }

    private static void numbersOfGuests() {
        Doc.says(Doc.TERMS, COURSE);
        for (String letter : new String[] {"s", "g", "r"}) {
            for (int guest = 0; guest <= 11; guest++) {
                dueFine(letter + guest);
                dueError(letter + guest + "x", (letter + guest).length());
            }
            for (int guest = 12; guest <= 99; guest++) {
                dueError(letter + guest, 2);
            }
            dueError(letter + "100", 3);
            dueError(letter + "110", 3);
            dueError(letter + "-1", 1);
        }
    }

    private static void numbersOfPlaces() {
        Doc.says(Doc.TERMS, COURSE);
        for (String letter : new String[] {"d", "x"}) {
            for (int place = 0; place <= 59; place++) {
                dueFine(letter + place);
                dueError(letter + place + "s", (letter + place).length());
            }
            for (int place = 60; place <= 99; place++) {
                dueError(letter + place, 2);
            }
            dueError(letter + "100", 3);
            dueError(letter + "590", 3);
            dueError(letter + "-1", 1);
        }
    }

    private static void numbersOfTicks() {
        Doc.says(Doc.TERMS, COURSE);
        for (int ticks = 1; ticks <= 100; ticks++) {
            dueFine("t" + ticks);
            dueError("t" + ticks + "t", ("t" + ticks).length());
        }
        dueError("t0", 1);
        for (int ticks = 101; ticks <= 999; ticks++) {
            dueError("t" + ticks, 3);
        }
        dueError("t1000", 4);
        dueError("t100000000000000000000000000001", 4);
        dueError("t-1", 1);
    }

    private static void leadingZeros() {
        Doc.says(Doc.TERMS, "Numbers are without leading zeros.");
        for (String letter : new String[] {"s", "g", "r", "d", "x"}) {
            dueFine(letter + "0");
            dueFine(letter + "10");
            for (int digit = 0; digit <= 9; digit++) {
                dueError(letter + "0" + digit, 2);
            }
        }
        dueFine("t10");
        dueError("t01", 1);
        dueError("t00", 1);
        dueError("t1;t0100", 4);
    }

    /** Behind these characters just those that are listed are no error. */
    private static void dueNext(String before, String fine) {
        for (char sign = 33; sign <= 126; sign++) {
            dueError(before + sign, before.length() + (fine.indexOf(sign) < 0 ? 0 : 1));
        }
    }

    private static void eachCharacter() {
        Doc.says(Doc.TERMS, ERROR);
        dueNext("", "sgrdxt");
        for (String letter : new String[] {"s", "g", "r", "d", "x"}) {
            dueNext(letter, DIGITS);
            dueNext(letter + "0", ";");
            dueNext("t9;" + letter, DIGITS);
        }
        for (String letter : new String[] {"s", "g", "r"}) {
            dueNext(letter + "1", ";01");
            dueNext(letter + "2", ";");
            dueNext(letter + "9", ";");
            dueNext(letter + "10", ";");
            dueNext(letter + "11", ";");
        }
        for (String letter : new String[] {"d", "x"}) {
            dueNext(letter + "1", ";" + DIGITS);
            dueNext(letter + "5", ";" + DIGITS);
            dueNext(letter + "6", ";");
            dueNext(letter + "9", ";");
            dueNext(letter + "59", ";");
        }
        dueNext("t", "123456789");
        dueNext("t1", ";" + DIGITS);
        dueNext("t9", ";" + DIGITS);
        dueNext("t10", ";0");
        dueNext("t11", ";");
        dueNext("t99", ";");
        dueNext("t100", ";");
        dueNext("t100;", "sgrdxt");
    }

    private static void ofAnyLength() {
        Doc.says(Doc.TERMS, ERROR);
        String before = Inns.LONGEST.substring(0, 55);
        dueFine(before + "t100;");
        dueFine(before + "s1;d5");
        dueFine(before + "s10;x");
        dueFine(before + "d59;t");
        dueError(before + "s10;;", 59);
        dueError(before + "s100;", 58);
        dueError(before + "t1001", 59);
    }

    // ---- promise 18

    private static void theFirstErrorOfMore() {
        Doc.says(18, FIRST_ERROR);
        dueError("!!!!", 0);
        dueError("s!0!", 1);
        dueError("s12;s12", 2);
        dueError("s0;!;!", 3);
        dueError("~" + Inns.LONGEST.substring(1), 0);
        dueError(Inns.LONGEST.substring(0, 59) + "~", 59);
    }

    private static void noErrorInAnEmptyBuffer() {
        Doc.says(18, FIRST_ERROR);
        dueFine("");
        dueFine("s");
        dueFine(Inns.LONGEST);
        KeyLeases x = Inns.typed("s!");
        x.clearBuffer();
        Check.due("once it is cleared", x.firstError(), 0);
        x.append('t');
        Check.due("and typed anew", x.firstError(), 1);
    }

    // ---- promise 19

    private static void playEachLetter() {
        Doc.says(19, "Plays the course of the buffer as seek(), leave(), renew(), deliver(), lose() and tick() do, one"
            + " after the other, all or nothing, and clears the buffer.");
        for (int guest : new int[] {0, 11}) {
            int each = guest;
            Inns.Maker housed = () -> {
                KeyLeases x = new KeyLeases();
                Inns.houseIn(x, each, 15);
                x.tick(3);
                return x;
            };
            duePlayed("s" + guest, KeyLeases::new, x -> x.seek(each));
            duePlayed("g" + guest, housed, x -> x.leave(each));
            duePlayed("r" + guest, housed, x -> x.renew(each));
        }
        duePlayed("d0", Inns::busy, x -> x.deliver(0));
        duePlayed("x0", Inns::busy, x -> x.lose(0));
        duePlayed("t1", Inns::busy, x -> x.tick(1));
    }

    private static void duePlayed(String text, Inns.Maker maker, Aftermath.Call call) {
        Aftermath.dueSame("play of " + text, () -> {
            KeyLeases x = maker.make();
            Inns.type(x, text);
            return x;
        }, x -> x.play(), x -> {
            x.clearBuffer();
            return call.on(x);
        });
    }

    private static void playTheLastPlace() {
        Doc.says(Doc.TERMS, COURSE);
        duePlayed("d59", Inns::crowded, x -> x.deliver(59));
        duePlayed("x59", Inns::crowded, x -> x.lose(59));
        duePlayed("d0", Inns::crowded, x -> x.deliver(0));
        duePlayed("s3", Inns::crowded, x -> x.seek(3));
        KeyLeases x = Inns.withFullRow();
        Inns.type(x, "x59;x58");
        x.play();
        Check.due("x59;x58: messages", x.messages(), 58);
    }

    private static void playOneAndAHundredTicks() {
        Doc.says(Doc.TERMS, COURSE);
        for (int ticks : new int[] {1, 9, 10, 99, 100}) {
            duePlayed("t" + ticks, Inns::booked, x -> x.tick(ticks));
        }
    }

    private static void playTheLongest() {
        Doc.says(Doc.TERMS, "The buffer has at most 60 characters.");
        String text = "t1;t1;t1;t1;t1;t1;t1;t1;t1;t1;t1;t1;t1;t1;t1;t1;t1;t1;t1;t10";
        Check.due("its length", text.length(), 60);
        KeyLeases x = Inns.typed(text);
        Check.due("play", x.play(), 0);
        Check.due("time", x.time(), 29);
        Check.due("one call", x.savedStates(), 1);
    }

    private static void playNoneAndAll() {
        Doc.says(19, "Returns how many guests have rooms then.");
        KeyLeases none = Inns.typed("t100");
        Check.due("none", none.play(), 0);
        KeyLeases all = Inns.booked();
        Inns.type(all, "t59");
        Check.due("all", all.play(), 12);
        Inns.type(all, "t1");
        Check.due("none then", all.play(), 0);
    }

    private static void playTakesTheBuffer() {
        Doc.says(19, "all or nothing, and clears the buffer.");
        KeyLeases x = Inns.typed("s0");
        x.play();
        Check.due("empty then", x.clearBuffer(), 0);
        Check.due("no error then", x.firstError(), 0);
        Check.dueThrows("nothing to play", Check.BAD, x, () -> x.play());
        x.append('t');
        Check.due("typed anew", x.append('1'), 2);
        x.play();
        Check.due("played", x.time(), 1);
    }
}
