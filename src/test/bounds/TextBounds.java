/** The texts of accents and of people; promises 1 to 7. */
final class TextBounds {
    private TextBounds() {
    }

    static void run() {
        accentBytes();
        peopleBytes();
        eightAccents();
        eightPeople();
        accentForm();
        peopleForm();
        firstByteThatCannotGoOn();
        emptyIsWell();
        notEnded();
        ninth();
        withAFault();
        newObject();
        typed();
        wiped();
        undone();
        faultTold();
        accentTold();
        personTold();
    }

    private static void dueRoom(int text, int room) {
        AccentShop x = new AccentShop();
        for (int n = 1; n <= room; n++) {
            Doc.due("byte " + n, x.type(text, '0'), n);
        }
        Doc.due("a byte more", x.type(text, '0'), Doc.FULL);
        Doc.due("it did not come", x.count(2 + text), room);
        Doc.due("one is undone", x.undo(text), room - 1);
        Doc.due("there is room for one", x.type(text, '0'), room);
        Doc.due("and for no more", x.type(text, '0'), Doc.FULL);
        Doc.due("the other text has its own room", x.type(1 - text, '0'), 1);
        Doc.due("all are wiped", x.wipe(text), room);
        Doc.due("there is room again", x.type(text, '0'), 1);
    }

    private static void accentBytes() {
        Doc.says(0, "ACCENTS are a text of up to 55 bytes (text 0)");
        dueRoom(0, 55);
        Doc.due("the 55th byte is read", Doc.shop(Doc.EIGHT, "").accent(7, 5), 7);
    }

    private static void peopleBytes() {
        Doc.says(0, "PEOPLE are a text of up to 23 bytes (text 1)");
        dueRoom(1, 23);
        Doc.due("the 23rd byte is read", Doc.shop("", Doc.EVERYBODY).person(7, 1), 7);
    }

    private static void eightAccents() {
        Doc.says(0, "8 at most (0 on, drawer by drawer)");
        for (int n = 0; n <= 8; n++) {
            AccentShop x = Doc.shop(n == 0 ? "" : Doc.EIGHT.substring(0, 7 * n - 1), "");
            Doc.due("of " + n, x.count(0), n);
            for (int a = 0; a < n; a++) {
                Doc.due("drawer " + a + " of " + n, Doc.marks(x, 0, a), "" + a + a + a + a + a);
            }
            Doc.due("behind the last of " + n, x.drawer(0, n, 0), Doc.BAD);
            Doc.due("behind the last of " + n, x.accent(n, 0), Doc.BAD);
        }
    }

    private static void eightPeople() {
        Doc.says(0, "8 at most (0 on), with");
        for (int n = 0; n <= 8; n++) {
            AccentShop x = Doc.shop("", n == 0 ? "" : Doc.EVERYBODY.substring(0, 3 * n - 1));
            Doc.due("of " + n, x.count(1), n);
            for (int p = 0; p < n; p++) {
                Doc.due("person " + p + " of " + n, x.at(0, p, 5), p);
            }
            Doc.due("behind the last of " + n, x.at(0, n, 5), Doc.BAD);
            Doc.due("behind the last of " + n, x.person(n, 1), Doc.BAD);
        }
    }

    /** Each of the 256 bytes in one place of a text that is else well: a fault there, but for those that fit. */
    private static void dueByte(int text, String ahead, String behind, String fitting) {
        for (int b = 0; b < 256; b++) {
            String bytes = ahead + (char) b + behind;
            dueFault(text, bytes, fitting.indexOf(b) >= 0 ? Doc.NONE : ahead.length());
        }
    }

    private static void dueFault(int text, String bytes, int want) {
        AccentShop x = new AccentShop();
        Doc.typeAll(x, text, bytes);
        Doc.due("fault(" + text + ") of " + bytes, x.fault(text), want);
    }

    private static void accentForm() {
        Doc.says(0, "with ; between them: k");
        dueByte(0, "k00000", "y00000", ";");
        dueByte(0, "k00000;g99999", "y00000", ";");
        dueFault(0, ";k00000", 0);
        dueFault(0, "k00000;;y00000", 7);
        dueFault(0, "k00000;", 7);
        Doc.says(0, "k (keeps to itself), y (yields) or g (a gossip)");
        dueByte(0, "", "00000", "kyg");
        dueByte(0, "k00000;", "00000", "kyg");
        dueByte(0, Doc.EIGHT.substring(0, 49), "77777", "kyg");
        Doc.says(0, "and five figures 0 to 9, its MARKS");
        for (int place = 1; place <= 5; place++) {
            dueByte(0, "k00000".substring(0, place), "00000".substring(place), "0123456789");
        }
        dueByte(0, Doc.EIGHT.substring(0, 54), "", "0123456789");
        dueFault(0, "k0000", 5);
        dueFault(0, "k0000;k00000", 5);
        dueFault(0, "k000000;k00000", 6);
        Doc.says(0, "one for each of SOUNDS 0 to 4.");
        AccentShop x = Doc.shop("k05678;g90123", "p0;p1");
        Doc.due("as told", Doc.marks(x, 0, 0) + Doc.marks(x, 0, 1), "0567890123");
        Doc.due("as told", Doc.speech(x, 0, 0) + Doc.speech(x, 0, 1), "0567890123");
        Doc.due("a sound 5 is none: how many wear it", x.drawer(0, 0, 5), 1);
    }

    private static void peopleForm() {
        Doc.says(0, "with ; between them: p");
        dueByte(1, "p0", "c1", ";");
        dueByte(1, "p0;l7", "c1", ";");
        dueFault(1, ";p0", 0);
        dueFault(1, "p0;;p0", 3);
        dueFault(1, "p0;", 3);
        Doc.says(0, "p (plain), c (a child) or l (a lord)");
        dueByte(1, "", "0", "pcl");
        dueByte(1, "p0;", "0", "pcl");
        dueByte(1, Doc.EVERYBODY.substring(0, 21), "7", "pcl");
        Doc.says(0, "and a figure 0 to 7, its OWN ACCENT.");
        dueByte(1, "p", "", "01234567");
        dueByte(1, "p0;c", ";p0", "01234567");
        dueByte(1, Doc.EVERYBODY.substring(0, 22), "", "01234567");
        dueFault(1, "p;p0", 1);
        dueFault(1, "p00;p0", 2);
    }

    private static void firstByteThatCannotGoOn() {
        Doc.says(0, "The FAULT of a text is the place of the first byte with which it cannot go on");
        for (int place = 0; place < 55; place++) {
            dueFault(0, Doc.EIGHT.substring(0, place) + "?" + Doc.EIGHT.substring(place + 1), place);
            dueFault(0, Doc.EIGHT.substring(0, place) + "?".repeat(55 - place), place);
        }
        for (int place = 0; place < 23; place++) {
            dueFault(1, Doc.EVERYBODY.substring(0, place) + "?" + Doc.EVERYBODY.substring(place + 1), place);
            dueFault(1, Doc.EVERYBODY.substring(0, place) + "?".repeat(23 - place), place);
        }
    }

    private static void emptyIsWell() {
        Doc.says(0, "(an empty one is well;");
        for (int text = 0; text < 2; text++) {
            AccentShop x = new AccentShop();
            Doc.due("at first", x.fault(text), Doc.NONE);
            x.type(text, '?');
            Doc.due("a byte", x.fault(text), 0);
            x.undo(text);
            Doc.due("undone", x.fault(text), Doc.NONE);
            x.type(text, '?');
            x.type(text, '?');
            x.wipe(text);
            Doc.due("wiped", x.fault(text), Doc.NONE);
        }
    }

    private static void notEnded() {
        Doc.says(0, "of one that is not ended, its end)");
        for (int n = 1; n <= 55; n++) {
            dueFault(0, Doc.EIGHT.substring(0, n), n % 7 == 6 ? Doc.NONE : n);
        }
        for (int n = 1; n <= 23; n++) {
            dueFault(1, Doc.EVERYBODY.substring(0, n), n % 3 == 2 ? Doc.NONE : n);
        }
    }

    /** Eight fill either text to its last byte: a ninth's ; and its first byte are FULL, and so never a fault. */
    private static void ninth() {
        Doc.says(0, "here also of the first byte of a ninth.");
        AccentShop x = Doc.shop(Doc.EIGHT, Doc.EVERYBODY);
        for (int text = 0; text < 2; text++) {
            Doc.due("the ; ahead of a ninth", x.type(text, ';'), Doc.FULL);
            Doc.due("the first byte of a ninth", x.type(text, "kp".charAt(text)), Doc.FULL);
            Doc.due("eight are well", x.fault(text), Doc.NONE);
            Doc.due("eight", x.count(text), 8);
        }
        dueFault(0, Doc.EIGHT.substring(0, 49), 49);
        dueFault(1, Doc.EVERYBODY.substring(0, 21), 21);
    }

    private static void withAFault() {
        Doc.says(0, "With a FAULT a text is as if it was empty.");
        AccentShop x = Doc.shop(Doc.EIGHT, Doc.EVERYBODY, 0, 0, 1);
        x.undo(0);
        Doc.due("the last accent is not ended", x.count(0), 0);
        Doc.due("not the first", x.accent(0, 0), Doc.BAD);
        Doc.due("no drawer", x.drawer(0, 0, 0), Doc.BAD);
        Doc.due("as if there was none", Doc.speech(x, 29, 0), "55555");
        Doc.due("taken for none", x.at(29, 0, 6), Doc.NONE);
        Doc.due("no two to change", x.tray(0), Doc.NONE);
        Doc.due("none to be told", x.dress(0, 0, 0, 0), Doc.NONE);
        Doc.due("its bytes are there", x.count(2), 54);
        Doc.due("people are not", x.count(1), 8);
        x.type(0, '7');
        Doc.due("all eight again", x.count(0), 8);
        Doc.due("as they were", Doc.speech(x, 29, 7), "77777");
        x.undo(1);
        Doc.due("the last person is not ended", x.count(1), 0);
        Doc.due("not the first", x.person(0, 0), Doc.BAD);
        Doc.due("not the first", x.at(0, 0, 0), Doc.BAD);
        Doc.due("nobody wears it", x.drawer(0, 1, 5), 0);
        Doc.due("nobody is astray", x.astray(), 0);
        Doc.due("its bytes are there", x.count(3), 22);
        Doc.due("accents are too", x.count(0), 8);
        x.type(1, '7');
        Doc.due("two wear it", x.drawer(0, 1, 5), 2);
        AccentShop first = Doc.shop("?00000;k00000", "?0;p0");
        Doc.due("a fault in the first", first.count(0), 0);
        Doc.due("a fault in the first", first.count(1), 0);
    }

    private static void newObject() {
        Doc.says(1, "No ACCENTS, no PEOPLE, no HIRINGS;");
        AccentShop x = new AccentShop();
        for (int what = 0; what <= 8; what++) {
            Doc.due("count(" + what + ")", x.count(what), 0);
        }
        Doc.due("accent(0, 0)", x.accent(0, 0), Doc.BAD);
        Doc.due("person(0, 0)", x.person(0, 0), Doc.BAD);
        Doc.due("back()", x.back(), Doc.NOT);
        Doc.shop(Doc.EIGHT, Doc.EVERYBODY, 0, 0, 1).sheet(0, 0, 1);
        Doc.due("another object's are not its own", x.count(0) + x.count(1) + x.count(4), 0);
        Doc.says(1, "all SHEETS are LOST.");
        for (int s = 0; s < 4; s++) {
            Doc.due("lose(" + s + ")", x.lose(s), Doc.NULL);
        }
    }

    private static void typed() {
        Doc.says(2, "A byte (0 to 255) comes behind a text: how many.");
        for (int text = 0; text < 2; text++) {
            AccentShop x = new AccentShop();
            Doc.due("-1", x.type(text, -1), Doc.BAD);
            Doc.due("0", x.type(text, 0), 1);
            Doc.due("255", x.type(text, 255), 2);
            Doc.due("256", x.type(text, 256), Doc.BAD);
            Doc.due("the least", x.type(text, Doc.LEAST), Doc.BAD);
            Doc.due("the most", x.type(text, Doc.MOST), Doc.BAD);
            Doc.due("256 and a k", x.type(text, 256 + 'k'), Doc.BAD);
            Doc.due("two came", x.count(2 + text), 2);
        }
        Doc.says(2, "BAD; FULL.");
        AccentShop x = Doc.shop(Doc.EIGHT.substring(0, 54), Doc.EVERYBODY.substring(0, 22));
        Doc.due("the 55th", x.type(0, '7'), 55);
        Doc.due("a 56th", x.type(0, '7'), Doc.FULL);
        Doc.due("the 23rd", x.type(1, '7'), 23);
        Doc.due("a 24th", x.type(1, '7'), Doc.FULL);
        Doc.due("a byte that is none, though it is full", x.type(0, 256), Doc.BAD);
        AccentShop y = new AccentShop();
        Doc.edges("text", 0, 1, t -> y.type(t, 'k'));
    }

    private static void wiped() {
        Doc.says(3, "A text is empty: how many bytes it had.");
        for (int n = 0; n <= 55; n++) {
            AccentShop x = Doc.shop(Doc.EIGHT.substring(0, n), Doc.EVERYBODY.substring(0, Math.min(n, 23)));
            Doc.due("accents of " + n, x.wipe(0), n);
            Doc.due("it is empty", x.count(2), 0);
            Doc.due("none", x.count(0), 0);
            Doc.due("people of " + n, x.wipe(1), Math.min(n, 23));
            Doc.due("it is empty", x.count(3), 0);
            Doc.due("again", x.wipe(0) + x.wipe(1), 0);
        }
        Doc.says(3, "BAD.");
        AccentShop x = Doc.shop(Doc.EIGHT, Doc.EVERYBODY);
        Doc.edges("text", 0, 1, x::wipe);
        AccentShop y = Doc.shop(Doc.EIGHT, Doc.EVERYBODY);
        y.wipe(2);
        y.wipe(-1);
        Doc.due("nothing is wiped", y.count(2) + y.count(3), 78);
    }

    private static void undone() {
        Doc.says(4, "The last byte of a text is undone: how many are left.");
        AccentShop x = Doc.shop(Doc.EIGHT, Doc.EVERYBODY);
        for (int left = 54; left >= 0; left--) {
            Doc.due("undo(0)", x.undo(0), left);
            Doc.due("whole ones", x.count(0), left % 7 == 6 ? (left + 1) / 7 : 0);
        }
        for (int left = 22; left >= 0; left--) {
            Doc.due("undo(1)", x.undo(1), left);
            Doc.due("whole ones", x.count(1), left % 3 == 2 ? (left + 1) / 3 : 0);
        }
        Doc.says(4, "BAD; NOT: it is empty.");
        Doc.due("empty", x.undo(0), Doc.NOT);
        Doc.due("empty", x.undo(1), Doc.NOT);
        Doc.due("empty still", x.count(2) + x.count(3), 0);
        x.type(0, 0);
        Doc.due("one byte", x.undo(0), 0);
        Doc.due("empty again", x.undo(0), Doc.NOT);
        AccentShop y = Doc.shop(Doc.EIGHT, Doc.EVERYBODY);
        Doc.edges("text", 0, 1, y::undo);
    }

    private static void faultTold() {
        Doc.says(5, "The FAULT of a text; NONE.");
        AccentShop x = Doc.shop("k00000;y", "p0;c");
        Doc.due("of accents", x.fault(0), 8);
        Doc.due("of people", x.fault(1), 4);
        x.undo(0);
        x.undo(0);
        Doc.due("of accents that are well", x.fault(0), Doc.NONE);
        Doc.due("of people still", x.fault(1), 4);
        x.type(1, '7');
        Doc.due("of people that are well", x.fault(1), Doc.NONE);
        Doc.says(5, "BAD.");
        Doc.edges("text", 0, 1, x::fault);
    }

    private static void accentTold() {
        AccentShop x = Doc.shop("k01234;y56789;g90909", "");
        Doc.says(6, "Its sort (what = 0: 0 k, 1 y, 2 g)");
        for (int a = 0; a < 3; a++) {
            Doc.due("accent(" + a + ", 0)", x.accent(a, 0), a);
        }
        Doc.says(6, "its MARKS as told (1 to 5) of an ACCENT.");
        for (int a = 0; a < 3; a++) {
            for (int what = 1; what <= 5; what++) {
                Doc.due("accent(" + a + ", " + what + ")", x.accent(a, what), "012345678990909".charAt(5 * a + what - 1) - '0');
            }
        }
        Doc.due("it goes on in its drawer", Doc.marks(x, 29, 1), "65879");
        Doc.due("as told it does not", x.accent(1, 1), 5);
        Doc.says(6, "BAD.");
        Doc.edges("accent", 0, 2, a -> x.accent(a, 0));
        Doc.edges("what", 0, 5, what -> x.accent(0, what));
        AccentShop eight = Doc.shop(Doc.EIGHT, "");
        Doc.edges("accent of eight", 0, 7, a -> eight.accent(a, 5));
        Doc.due("of none", new AccentShop().accent(0, 0), Doc.BAD);
    }

    private static void personTold() {
        AccentShop x = Doc.shop("", "p7;c0;l3");
        Doc.says(7, "Its sort (what = 0: 0 p, 1 c, 2 l)");
        for (int p = 0; p < 3; p++) {
            Doc.due("person(" + p + ", 0)", x.person(p, 0), p);
        }
        Doc.says(7, "its OWN ACCENT (1) of a PERSON.");
        for (int p = 0; p < 3; p++) {
            Doc.due("person(" + p + ", 1)", x.person(p, 1), "703".charAt(p) - '0');
        }
        Doc.says(7, "BAD.");
        Doc.edges("person", 0, 2, p -> x.person(p, 0));
        Doc.edges("what", 0, 1, what -> x.person(0, what));
        AccentShop eight = Doc.shop("", Doc.EVERYBODY);
        Doc.edges("person of eight", 0, 7, p -> eight.person(p, 1));
        Doc.due("of none", new AccentShop().person(0, 0), Doc.BAD);
    }
}
