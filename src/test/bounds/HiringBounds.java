/** Hirings as they are told, undone and read; promises 8 to 10. */
final class HiringBounds {
    private HiringBounds() {
    }

    static void run() {
        eightHirings();
        peopleAndAccentsOfHirings();
        hired();
        back();
        threeForEach();
        asManyAsAreWhole();
        asLongAsEachMayBe();
        eightWithThoseTold();
        readRefusals();
    }

    private static void eightHirings() {
        Doc.says(0, "HIRINGS, 8 at most (0 on):");
        AccentShop x = Doc.shop(Doc.EIGHT, "p0");
        for (int n = 1; n <= 8; n++) {
            Doc.due("hiring " + n, x.hire(3, 0, n - 1), n);
            Doc.due("it is done", x.at(3, 0, 5), n - 1);
        }
        Doc.due("a ninth", x.hire(3, 0, 0), Doc.FULL);
        Doc.due("it did not come", x.count(4), 8);
        Doc.due("the eighth is done", x.at(3, 0, 5), 7);
        Doc.due("the eighth is undone", x.back(), 7);
        Doc.due("the seventh is done", x.at(3, 0, 5), 6);
        Doc.due("room for one", x.hire(3, 0, 0), 8);
        Doc.due("and for no more", x.hire(3, 0, 7), Doc.FULL);
        Doc.due("the last one told is done", x.at(3, 0, 5), 0);
        AccentShop first = Doc.shop(Doc.TWO, "c0", 0, 0, 1);
        Doc.due("the first has number 0", first.refuse(0), 0);
        AccentShop last = Doc.shop(Doc.TWO, "c0", 9, 7, 0, 9, 7, 0, 9, 7, 0, 9, 7, 0, 9, 7, 0, 9, 7, 0, 9, 7, 0, 0, 0, 1);
        Doc.due("the eighth has number 7", last.refuse(0), 7);
    }

    private static void peopleAndAccentsOfHirings() {
        Doc.says(0, "from a DAY on a PERSON (0 to 7) WEARS an ACCENT (0 to 7).");
        AccentShop x = Doc.shop(Doc.EIGHT, Doc.EVERYBODY);
        Doc.edges("person", 0, 7, p -> x.hire(9, p, 3));
        Doc.edges("accent", 0, 7, a -> x.hire(19, 4, a));
        Doc.due("ahead of that day", x.at(8, 0, 5), 0);
        Doc.due("from that day on", x.at(9, 0, 5), 3);
        Doc.due("to the last", x.at(29, 0, 5), 3);
        Doc.due("ahead of that day", x.at(8, 7, 5), 7);
        Doc.due("from that day on", x.at(9, 7, 5), 3);
        Doc.due("accent 7, told last", x.at(19, 4, 5), 7);
        AccentShop none = new AccentShop();
        Doc.due("of a person and an accent that are not there", none.hire(0, 7, 7), 1);
    }

    private static void hired() {
        Doc.says(8, "A HIRING more: how many.");
        AccentShop x = Doc.shop(Doc.TWO, "c0");
        for (int n = 1; n <= 8; n++) {
            Doc.due("hire", x.hire(n, 0, 1), n);
            Doc.due("count(4)", x.count(4), n);
        }
        Doc.says(8, "BAD; FULL.");
        Doc.due("a ninth", x.hire(0, 0, 0), Doc.FULL);
        Doc.due("a ninth that may not be", x.hire(30, 0, 0), Doc.BAD);
        Doc.due("a ninth that may not be", x.hire(0, 8, 0), Doc.BAD);
        Doc.due("a ninth that may not be", x.hire(0, 0, 8), Doc.BAD);
        AccentShop y = Doc.shop(Doc.TWO, "c0");
        Doc.edges("day", 0, 29, day -> y.hire(day, 0, 0));
        Doc.edges("person", 0, 7, p -> y.hire(0, p, 0));
        Doc.edges("accent", 0, 7, a -> y.hire(0, 0, a));
        Doc.due("six came", y.count(4), 6);
    }

    private static void back() {
        Doc.says(9, "The last HIRING is undone: how many are left.");
        AccentShop x = Doc.shop(Doc.EIGHT, "p0");
        for (int n = 0; n < 8; n++) {
            x.hire(3, 0, 7 - n);
        }
        for (int left = 7; left >= 0; left--) {
            Doc.due("back", x.back(), left);
            Doc.due("the last of those left is done", x.at(3, 0, 5), left == 0 ? 0 : 8 - left);
        }
        Doc.says(9, "NOT: there is none.");
        Doc.due("none is left", x.back(), Doc.NOT);
        Doc.due("none is left", x.count(4), 0);
        Doc.due("one more", x.hire(0, 0, 1), 1);
        Doc.due("is undone", x.back(), 0);
        Doc.due("none is left", x.back(), Doc.NOT);
        Doc.due("none was there", new AccentShop().back(), Doc.NOT);
    }

    private static void threeForEach() {
        Doc.says(10, "HIRINGS from a SHEET: its items, three for each,");
        AccentShop x = Doc.shop(Doc.TWO, "c0;c0", 5, 0, 0);
        x.sheet(3, 2, 6);
        Doc.layAll(x, 3, 2, 5, 0, 1, 29, 1, 7);
        Doc.due("home until then", x.at(29, 0, 5) + x.astray() + x.custom(16, 0, 0), 0);
        Doc.due("two", x.read(3), 2);
        Doc.due("the day", x.at(4, 0, 5), 0);
        Doc.due("the day, behind the one told", x.at(5, 0, 5), 1);
        Doc.due("the last day", x.at(28, 1, 5), 0);
        Doc.due("the last day", x.at(29, 1, 5), 7);
        Doc.due("out of its own since", x.at(29, 0, 5) + x.astray() + x.custom(16, 0, 0), 3);
        Doc.due("the sheet has its items", Doc.items(x, 3, 2, 6), "5 0 1 29 1 7");
    }

    private static void asManyAsAreWhole() {
        Doc.says(10, "as many as are whole,");
        for (int form = 0; form < 3; form++) {
            for (int n = 0; n <= 60; n++) {
                AccentShop x = Doc.shop(Doc.TWO, "c0");
                x.sheet(0, form, n);
                int whole = Math.min(8, n / 3);
                Doc.due("of " + n + " items", x.read(0), whole);
                Doc.due("of " + n + " items", x.count(4), whole);
            }
        }
    }

    private static void dueRead(int[] first, int[] second, int want) {
        AccentShop x = Doc.shop(Doc.TWO, "c0", 0, 0, 0);
        x.sheet(1, 2, 9);
        Doc.layAll(x, 1, 2, first);
        for (int i = 0; i < 3; i++) {
            x.lay(1, 2, 3 + i, second[i]);
        }
        String what = java.util.Arrays.toString(first) + java.util.Arrays.toString(second);
        Doc.due("read of " + what, x.read(1), want);
        Doc.due("hirings behind " + what, x.count(4), 1 + want);
    }

    private static void asLongAsEachMayBe() {
        Doc.says(10, "as long as each may be: how many.");
        int[] highest = {29, 7, 7};
        int[] well = {0, 0, 0};
        dueRead(well, well, 3);
        dueRead(highest, highest, 3);
        for (int i = 0; i < 3; i++) {
            for (int outside : new int[] {-1, highest[i] + 1, Doc.LEAST, Doc.MOST}) {
                int[] bad = well.clone();
                bad[i] = outside;
                dueRead(bad, well, 0);
                dueRead(well, bad, 1);
                dueRead(highest, bad, 1);
            }
        }
        for (int stop = 0; stop <= 8; stop++) {
            AccentShop x = Doc.shop(Doc.TWO, "c0");
            x.sheet(2, 0, 27);
            x.lay(2, 0, 3 * stop, 30);
            Doc.due("the one at " + stop + " may not be", x.read(2), stop);
            Doc.due("the one at " + stop + " may not be", x.count(4), stop);
        }
        AccentShop bytes = Doc.shop(Doc.TWO, "c0");
        bytes.sheet(2, 0, 3);
        bytes.lay(2, 0, 0, 256 + 29);
        Doc.due("by the bits that a byte has", bytes.read(2), 1);
    }

    private static void eightWithThoseTold() {
        Doc.says(10, "HIRINGS from a SHEET");
        for (int told = 0; told <= 8; told++) {
            for (int n = 0; n <= 30; n += 3) {
                AccentShop x = Doc.shop(Doc.TWO, "c0");
                for (int k = 0; k < told; k++) {
                    x.hire(0, 0, 0);
                }
                x.sheet(0, 0, n);
                int come = Math.min(8 - told, n / 3);
                Doc.due(n / 3 + " behind " + told, x.read(0), come);
                Doc.due(n / 3 + " behind " + told, x.count(4), told + come);
                Doc.due("no finding", x.count(8), 0);
            }
        }
    }

    private static void readRefusals() {
        Doc.says(10, "BAD; NULL.");
        AccentShop x = Doc.shop(Doc.TWO, "c0", 0, 0, 1);
        Doc.edges("sheet", 0, 3, x::read);
        for (int s = 0; s < 4; s++) {
            Doc.due("a lost one", x.read(s), Doc.NULL);
            Doc.due("the finding", x.count(8), 1);
            x.sheet(s, s % 3, 3);
            Doc.due("one that is there", x.read(s), 1);
            x.lose(s);
            Doc.due("lost again", x.read(s), Doc.NULL);
        }
        Doc.due("those told and read", x.count(4), 5);
        for (int k = 0; k < 3; k++) {
            x.hire(0, 0, 0);
        }
        Doc.due("a lost one, though there are eight", x.read(0), Doc.NULL);
    }
}
