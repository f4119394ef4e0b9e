import java.math.BigInteger;
import java.util.function.Supplier;

/** Sheets, findings, counts and the digest; promises 27 to 34. */
final class SheetBounds {
    private static final int[] LOWEST = {-128, -32768, Doc.LEAST + 1};
    private static final int[] HIGHEST = {127, 32767, Doc.MOST};

    private SheetBounds() {
    }

    static void run() {
        fourSheets();
        lostAtFirst();
        forms();
        sixtyItems();
        noughtAtFirst();
        findings();
        findingNull();
        findingIndex();
        findingCast();
        findingStore();
        findingSize();
        sheetTold();
        loseTold();
        layTold();
        getTold();
        copied();
        copyUponItself();
        copyTold();
        written();
        writeTold();
        counted();
        digested();
    }

    private static void fourSheets() {
        Doc.says(0, "SHEETS 0 .. 3");
        AccentShop x = Doc.shop(Doc.TWO, "c0");
        Doc.edges("sheet", 0, 3, s -> x.sheet(s, 0, 3));
        Doc.edges("lay", 0, 3, s -> x.lay(s, 0, 0, 1));
        Doc.edges("get", 0, 3, Doc.LEAST, s -> x.get(s, 0, 0));
        Doc.edges("copy from", 0, 3, s -> x.copy(s, 0, 0, 0, 1));
        Doc.edges("copy to", 0, 3, t -> x.copy(0, 0, t, 0, 1));
        Doc.edges("write", 0, 3, s -> x.write(0, s));
        Doc.edges("read", 0, 3, x::read);
        Doc.edges("lose", 0, 3, x::lose);
        for (int s = 0; s < 4; s++) {
            x.sheet(s, 2, s + 1);
            x.lay(s, 2, s, 10 + s);
        }
        for (int s = 0; s < 4; s++) {
            Doc.due("each has its own items", x.get(s, 2, s), 10 + s);
            Doc.due("each has its own size", x.lose(s), s + 1);
        }
    }

    private static void lostAtFirst() {
        Doc.says(0, "are LOST (at first)");
        for (int s = 0; s < 4; s++) {
            AccentShop x = new AccentShop();
            Doc.due("sheet " + s, x.lay(s, 0, 0, 0), Doc.NULL);
            Doc.due("sheet " + s, x.read(s), Doc.NULL);
            Doc.due("sheet " + s, x.lose(s), Doc.NULL);
            x.sheet(s, 0, 0);
            Doc.due("an empty one is not lost", x.lose(s), 0);
            Doc.due("lost again", x.lose(s), Doc.NULL);
        }
    }

    private static void forms() {
        Doc.says(0, "or a row of a FORM: 0 bytes, 1 shorts, 2 ints,");
        AccentShop x = new AccentShop();
        Doc.edges("sheet", 0, 2, form -> x.sheet(0, form, 1));
        x.sheet(0, 0, 1);
        Doc.edges("lay", 0, 2, form -> x.lay(0, form, 0, 0));
        for (int form = 0; form < 3; form++) {
            x.sheet(0, form, 2);
            x.lay(0, form, 0, HIGHEST[form]);
            x.lay(0, form, 1, LOWEST[form]);
            Doc.due("what it holds", Doc.items(x, 0, form, 2), HIGHEST[form] + " " + LOWEST[form]);
            x.lay(0, form, 0, HIGHEST[form] + 1);
            Doc.due("beyond it", x.get(0, form, 0), form == 2 ? Doc.LEAST : LOWEST[form]);
            for (int other = 0; other < 3; other++) {
                Doc.due("treated as of form " + other, x.lay(0, other, 0, 1), other == form ? 1 : Doc.CAST);
            }
        }
    }

    private static void sixtyItems() {
        Doc.says(0, "of 0 to 60 items");
        AccentShop x = new AccentShop();
        for (int form = 0; form < 3; form++) {
            Doc.due("-1", x.sheet(form, form, -1), Doc.SIZE);
            Doc.due("0", x.sheet(form, form, 0), 0);
            Doc.due("there is none", x.lay(form, form, 0, 1), Doc.INDEX);
            Doc.due("1", x.sheet(form, form, 1), 1);
            Doc.due("the only one", x.lay(form, form, 0, 1), 1);
            Doc.due("no second", x.lay(form, form, 1, 1), Doc.INDEX);
            Doc.due("59", x.sheet(form, form, 59), 59);
            Doc.due("no 60th", x.lay(form, form, 59, 1), Doc.INDEX);
            Doc.due("60", x.sheet(form, form, 60), 60);
            Doc.due("the 60th", x.lay(form, form, 59, 7), 1);
            Doc.due("no 61st", x.lay(form, form, 60, 1), Doc.INDEX);
            Doc.due("61", x.sheet(form, form, 61), Doc.BAD);
            Doc.due("it is as it was", x.get(form, form, 59), 7);
        }
    }

    private static void noughtAtFirst() {
        Doc.says(0, "(0 at first).");
        AccentShop x = new AccentShop();
        for (int form = 0; form < 3; form++) {
            x.sheet(0, form, 60);
            Doc.due("sixty", Doc.items(x, 0, form, 60), "0 ".repeat(59) + "0");
            for (int i = 0; i < 60; i++) {
                x.lay(0, form, i, 9);
            }
            x.sheet(0, form, 2);
            Doc.due("two anew", Doc.items(x, 0, form, 2), "0 0");
            x.sheet(0, form, 60);
            Doc.due("the last anew", x.get(0, form, 59), 0);
            x.lay(0, form, 59, 9);
            x.lose(0);
            x.sheet(0, form, 60);
            Doc.due("lost and made anew", x.get(0, form, 59), 0);
        }
    }

    private static void findings() {
        Doc.says(0, "FINDINGS (answers -10 less the number; they change nothing but count() 8):");
        AccentShop x = new AccentShop();
        Doc.due("before any", x.count(8), 0);
        x.sheet(0, 0, 2);
        x.sheet(1, 1, 2);
        x.lay(0, 0, 1, 5);
        int[] answers = {x.lose(3), x.count(8), x.lay(0, 0, 2, 1), x.count(8), x.lay(0, 1, 1, 1), x.count(8),
            x.copy(0, 0, 1, 0, 1), x.count(8), x.sheet(0, 0, -1), x.count(8)};
        for (int number = 1; number <= 5; number++) {
            Doc.due("the answer of finding " + number, answers[2 * number - 2], -10 - number);
            Doc.due("count(8) of finding " + number, answers[2 * number - 1], number);
        }
        Doc.due("items are as they were", Doc.items(x, 0, 0, 2) + " " + Doc.items(x, 1, 1, 2), "0 5 0 0");
        Doc.due("one that is no finding", x.lay(0, 0, 0, 3), 1);
        Doc.due("the latest still", x.count(8), 5);
    }

    private static void findingNull() {
        Doc.says(0, "1 NULL: the SHEET is LOST;");
        for (int s = 0; s < 4; s++) {
            AccentShop x = Doc.shop(Doc.TWO, "c0");
            for (int t = 0; t < 4; t++) {
                if (t != s) {
                    x.sheet(t, 0, 3);
                }
            }
            int other = s == 0 ? 1 : 0;
            Doc.due("lay", x.lay(s, 0, 0, 0), -11);
            Doc.due("get", x.get(s, 0, 0), Doc.LEAST);
            Doc.due("get: count(8)", x.count(8), 1);
            Doc.due("read", x.read(s), -11);
            Doc.due("write", x.write(0, s), -11);
            Doc.due("copy from it", x.copy(s, 0, other, 0, 0), -11);
            Doc.due("copy to it", x.copy(other, 0, s, 0, 0), -11);
            Doc.due("lose", x.lose(s), -11);
            Doc.due("another is not", x.lose(other), 3);
        }
    }

    private static void findingIndex() {
        Doc.says(0, "2 INDEX: there is no such item;");
        AccentShop x = new AccentShop();
        for (int n = 0; n <= 60; n += 20) {
            x.sheet(0, 1, n);
            for (int i : new int[] {-1, n, n + 1, Doc.LEAST, Doc.MOST}) {
                Doc.due("lay at " + i + " of " + n, x.lay(0, 1, i, 1), -12);
                Doc.due("get at " + i + " of " + n, x.get(0, 1, i), Doc.LEAST);
                Doc.due("count(8)", x.count(8), 2);
            }
            if (n > 0) {
                Doc.due("the first of " + n, x.lay(0, 1, 0, 1), 1);
                Doc.due("the last of " + n, x.lay(0, 1, n - 1, 4), 1);
                Doc.due("the last of " + n, x.get(0, 1, n - 1), 4);
            }
        }
    }

    private static void findingCast() {
        Doc.says(0, "3 CAST: it has another FORM;");
        AccentShop x = new AccentShop();
        for (int form = 0; form < 3; form++) {
            x.sheet(0, form, 1);
            x.lay(0, form, 0, 6);
            for (int as = 0; as < 3; as++) {
                Doc.due("lay of form " + form + " as " + as, x.lay(0, as, 0, 6), as == form ? 1 : -13);
                Doc.due("get of form " + form + " as " + as, x.get(0, as, 0), as == form ? 6 : Doc.LEAST);
                x.lose(1);
                x.get(0, as, 0);
                Doc.due("count(8)", x.count(8), as == form ? 1 : 3);
            }
        }
    }

    private static void findingStore() {
        Doc.says(0, "4 STORE: unlike FORMS;");
        for (int from = 0; from < 3; from++) {
            for (int to = 0; to < 3; to++) {
                AccentShop x = new AccentShop();
                x.sheet(0, from, 2);
                x.sheet(1, to, 2);
                Doc.due("from form " + from + " to " + to, x.copy(0, 0, 1, 0, 1), from == to ? 1 : -14);
                Doc.due("count(8)", x.count(8), from == to ? 0 : 4);
                Doc.due("none from form " + from + " to " + to, x.copy(0, 0, 1, 0, 0), from == to ? 1 : -14);
            }
        }
    }

    private static void findingSize() {
        Doc.says(0, "5 SIZE: below 0.");
        AccentShop x = new AccentShop();
        for (int n : new int[] {-1, -2, -60, Doc.LEAST}) {
            Doc.due("sheet of " + n, x.sheet(2, 1, n), -15);
            Doc.due("count(8)", x.count(8), 5);
            Doc.due("it is lost still", x.lose(2), -11);
        }
        Doc.due("of 0", x.sheet(2, 1, 0), 0);
        Doc.due("it is there", x.lose(2), 0);
    }

    private static void sheetTold() {
        Doc.says(27, "A SHEET is a new row of a FORM with n items: n.");
        AccentShop x = new AccentShop();
        for (int n = 0; n <= 60; n++) {
            Doc.due("of " + n, x.sheet(1, n % 3, n), n);
            Doc.due("no such item", x.lay(1, n % 3, n, 1), Doc.INDEX);
            if (n > 0) {
                Doc.due("anew", x.get(1, n % 3, n - 1), 0);
                Doc.due("the last", x.lay(1, n % 3, n - 1, 8), 1);
            }
        }
        for (int n = 60; n >= 0; n--) {
            Doc.due("of " + n, x.sheet(1, n % 3, n), n);
            Doc.due("no such item", x.lay(1, n % 3, n, 1), Doc.INDEX);
        }
        Doc.due("as many as told last", x.lose(1), 0);
        Doc.says(27, "BAD: SHEET, FORM, above 60; SIZE.");
        Doc.edges("sheet", 0, 3, s -> x.sheet(s, 0, 1));
        Doc.edges("form", 0, 2, form -> x.sheet(0, form, 1));
        Doc.due("60", x.sheet(0, 0, 60), 60);
        Doc.due("61", x.sheet(0, 0, 61), Doc.BAD);
        Doc.due("the most", x.sheet(0, 0, Doc.MOST), Doc.BAD);
        Doc.due("no finding of these", x.count(8), 2);
        Doc.due("below 0", x.sheet(0, 0, -1), Doc.SIZE);
        Doc.due("no sheet, below 0", x.sheet(4, 0, -1), Doc.BAD);
        Doc.due("no form, below 0", x.sheet(0, 3, -1), Doc.BAD);
        Doc.due("sixty still", x.lose(0), 60);
    }

    private static void loseTold() {
        Doc.says(28, "It is LOST: how many items it had.");
        AccentShop x = new AccentShop();
        for (int n = 0; n <= 60; n++) {
            x.sheet(n % 4, n % 3, n);
            Doc.due("of " + n, x.lose(n % 4), n);
            Doc.due("lost", x.lose(n % 4), Doc.NULL);
        }
        Doc.says(28, "BAD; NULL.");
        for (int s = 0; s < 4; s++) {
            x.sheet(s, 0, 1);
        }
        Doc.edges("sheet", 0, 3, x::lose);
        Doc.due("lost", x.lose(0), Doc.NULL);
        Doc.due("lost", x.lose(3), Doc.NULL);
        Doc.due("not lost", x.lose(1), 1);
    }

    private static void dueLaid(int form, int v, int want) {
        AccentShop x = new AccentShop();
        x.sheet(0, form, 3);
        Doc.layAll(x, 0, form, 1, 1, 1);
        Doc.due("lay " + v, x.lay(0, form, 1, v), 1);
        Doc.due("form " + form + " of " + v, Doc.items(x, 0, form, 3), "1 " + want + " 1");
    }

    private static void layTold() {
        Doc.says(29, "Item i, treated as of a FORM, becomes v (the lowest bits that it has): 1.");
        int[][] bytes = {{0, 0}, {127, 127}, {128, -128}, {255, -1}, {256, 0}, {257, 1}, {-1, -1}, {-128, -128}, {-129, 127},
            {-256, 0}, {Doc.MOST, -1}, {Doc.LEAST, 0}};
        for (int[] b : bytes) {
            dueLaid(0, b[0], b[1]);
        }
        int[][] shorts = {{255, 255}, {32767, 32767}, {32768, -32768}, {65535, -1}, {65536, 0}, {65537, 1}, {-32768, -32768},
            {-32769, 32767}, {Doc.MOST, -1}, {Doc.LEAST, 0}};
        for (int[] s : shorts) {
            dueLaid(1, s[0], s[1]);
        }
        for (int v : new int[] {65536, Doc.MOST, -65537, Doc.LEAST + 1, Doc.LEAST}) {
            dueLaid(2, v, v);
        }
        Doc.says(29, "BAD; NULL; CAST; INDEX.");
        AccentShop x = new AccentShop();
        Doc.due("no form, lost, no item", x.lay(0, 3, -1, 0), Doc.BAD);
        Doc.due("lost, no item", x.lay(0, 0, -1, 0), Doc.NULL);
        x.sheet(0, 1, 3);
        Doc.due("another form, no item", x.lay(0, 0, 3, 0), Doc.CAST);
        Doc.due("another form", x.lay(0, 2, 0, 0), Doc.CAST);
        Doc.due("no item", x.lay(0, 1, 3, 0), Doc.INDEX);
        Doc.due("no item", x.lay(0, 1, -1, 0), Doc.INDEX);
        Doc.due("the last", x.lay(0, 1, 2, 0), 1);
        Doc.due("the first", x.lay(0, 1, 0, 0), 1);
        for (int s = 0; s < 4; s++) {
            x.sheet(s, 2, 1);
        }
        Doc.edges("sheet", 0, 3, s -> x.lay(s, 2, 0, 0));
        Doc.edges("form", 0, 2, form -> x.lay(0, form, 0, 0));
    }

    private static void getTold() {
        Doc.says(30, "Item i of it.");
        AccentShop x = new AccentShop();
        x.sheet(3, 1, 60);
        for (int i = 0; i < 60; i++) {
            x.lay(3, 1, i, 100 * i);
        }
        for (int i = 0; i < 60; i++) {
            Doc.due("item " + i, x.get(3, 1, i), 100 * i);
        }
        Doc.says(30, "BAD: the least int; so are NULL, CAST, INDEX (count() 8 tells).");
        AccentShop y = new AccentShop();
        for (int[] bad : new int[][] {{-1, 0}, {4, 0}, {0, -1}, {0, 3}}) {
            Doc.due("BAD", y.get(bad[0], bad[1], 0), Doc.LEAST);
            Doc.due("BAD is no finding", y.count(8), 0);
        }
        Doc.due("lost", y.get(0, 0, -1), Doc.LEAST);
        Doc.due("NULL", y.count(8), 1);
        y.sheet(0, 1, 2);
        Doc.due("another form, no item", y.get(0, 2, 2), Doc.LEAST);
        Doc.due("CAST", y.count(8), 3);
        for (int i : new int[] {-1, 2, Doc.LEAST, Doc.MOST}) {
            y.lose(3);
            Doc.due("no item", y.get(0, 1, i), Doc.LEAST);
            Doc.due("INDEX", y.count(8), 2);
        }
        y.lose(3);
        Doc.due("the first and the last", y.get(0, 1, 0) + y.get(0, 1, 1), 0);
        Doc.due("no finding more", y.count(8), 1);
        Doc.due("BAD", y.get(0, 3, 5), Doc.LEAST);
        Doc.due("no finding more", y.count(8), 1);
        y.sheet(1, 2, 1);
        y.lay(1, 2, 0, Doc.LEAST);
        Doc.due("an item that is the least int", y.get(1, 2, 0), Doc.LEAST);
        Doc.due("is no finding", y.count(8), 1);
    }

    private static AccentShop twoRows() {
        AccentShop x = new AccentShop();
        x.sheet(0, 2, 5);
        x.sheet(1, 2, 4);
        Doc.layAll(x, 0, 2, 1, 2, 3, 4, 5);
        Doc.layAll(x, 1, 2, 6, 7, 8, 9);
        return x;
    }

    private static void dueCopy(int i, int j, int n, String want) {
        AccentShop x = twoRows();
        Doc.due(n + " from " + i + " to " + j, x.copy(0, i, 1, j, n), 1);
        Doc.due(n + " from " + i + " to " + j, Doc.items(x, 1, 2, 4), want);
        Doc.due("those copied stay", Doc.items(x, 0, 2, 5), "1 2 3 4 5");
    }

    private static void copied() {
        Doc.says(31, "n items of SHEET s, from i on, come to SHEET t");
        dueCopy(0, 0, 0, "6 7 8 9");
        dueCopy(5, 4, 0, "6 7 8 9");
        dueCopy(0, 0, 1, "1 7 8 9");
        dueCopy(4, 3, 1, "6 7 8 5");
        dueCopy(0, 0, 4, "1 2 3 4");
        dueCopy(1, 0, 4, "2 3 4 5");
        dueCopy(2, 1, 3, "6 3 4 5");
        for (int form = 0; form < 3; form++) {
            AccentShop x = new AccentShop();
            x.sheet(0, form, 60);
            x.sheet(1, form, 60);
            for (int i = 0; i < 60; i++) {
                x.lay(0, form, i, -i);
            }
            Doc.due("sixty", x.copy(0, 0, 1, 0, 60), 1);
            Doc.due("sixty", Doc.items(x, 1, form, 60), Doc.items(x, 0, form, 60));
            Doc.due("the last", x.get(1, form, 59), -59);
            Doc.due("sixty-one", x.copy(0, 0, 1, 0, 61), Doc.INDEX);
        }
    }

    private static void dueUponItself(int i, int j, int n, String want) {
        AccentShop x = twoRows();
        Doc.due(n + " from " + i + " to " + j, x.copy(0, i, 0, j, n), 1);
        Doc.due(n + " from " + i + " to " + j, Doc.items(x, 0, 2, 5), want);
    }

    private static void copyUponItself() {
        Doc.says(31, "(perhaps s, as they were), from j on: 1.");
        dueUponItself(0, 1, 4, "1 1 2 3 4");
        dueUponItself(1, 0, 4, "2 3 4 5 5");
        dueUponItself(0, 2, 3, "1 2 1 2 3");
        dueUponItself(2, 0, 3, "3 4 5 4 5");
        dueUponItself(0, 0, 5, "1 2 3 4 5");
        dueUponItself(0, 4, 1, "1 2 3 4 1");
        dueUponItself(5, 5, 0, "1 2 3 4 5");
    }

    private static void copyTold() {
        Doc.says(31, "BAD: the SHEETS; NULL: s, t; STORE;");
        AccentShop x = new AccentShop();
        Doc.due("no sheet s, t lost", x.copy(4, -1, 0, -1, -1), Doc.BAD);
        Doc.due("s lost, no sheet t", x.copy(0, -1, 4, -1, -1), Doc.BAD);
        Doc.due("both lost, below 0", x.copy(0, -1, 1, -1, -1), Doc.NULL);
        x.sheet(0, 0, 2);
        Doc.due("t lost", x.copy(0, 0, 1, 0, 1), Doc.NULL);
        Doc.due("s lost", x.copy(1, 0, 0, 0, 1), Doc.NULL);
        x.sheet(1, 1, 2);
        Doc.due("unlike forms, below 0", x.copy(0, -1, 1, 0, 1), Doc.STORE);
        Doc.due("unlike forms, not so many", x.copy(0, 0, 1, 0, 3), Doc.STORE);
        for (int s = 0; s < 4; s++) {
            x.sheet(s, 0, 1);
        }
        Doc.edges("s", 0, 3, s -> x.copy(s, 0, 0, 0, 1));
        Doc.edges("t", 0, 3, t -> x.copy(0, 0, t, 0, 1));
        Doc.says(31, "INDEX: below 0, not so many.");
        int[][] wrong = {{-1, 0, 1}, {0, -1, 1}, {0, 0, -1}, {5, 0, 1}, {4, 0, 2}, {0, 4, 1}, {0, 3, 2}, {0, 0, 5}, {6, 0, 0},
            {0, 5, 0}, {-1, 0, 0}, {0, -1, 0}, {1, 1, Doc.MOST}, {Doc.MOST, 0, 1}, {0, Doc.MOST, 1}, {Doc.MOST, 0, Doc.MOST},
            {0, Doc.MOST, Doc.MOST}, {Doc.LEAST, 0, 1}, {0, Doc.LEAST, 1}, {0, 0, Doc.LEAST}, {Doc.LEAST, Doc.LEAST, Doc.LEAST},
            {Doc.MOST, Doc.MOST, Doc.LEAST}};
        int[][] right = {{0, 0, 0}, {0, 0, 4}, {1, 0, 4}, {4, 0, 1}, {3, 0, 2}, {0, 3, 1}, {0, 2, 2}, {5, 0, 0}, {0, 4, 0}};
        for (int[] r : right) {
            Doc.due(r[2] + " from " + r[0] + " to " + r[1], twoRows().copy(0, r[0], 1, r[1], r[2]), 1);
        }
        for (int[] w : wrong) {
            AccentShop y = twoRows();
            String what = w[2] + " from " + w[0] + " to " + w[1];
            Doc.due(what, y.copy(0, w[0], 1, w[1], w[2]), Doc.INDEX);
            Doc.due("count(8) of " + what, y.count(8), 2);
            Doc.due("nothing came, of " + what, Doc.items(y, 1, 2, 4), "6 7 8 9");
        }
    }

    private static void written() {
        Doc.says(32, "For which ACCENT a PERSON is TAKEN behind DAYS 0 on (NONE) comes to a SHEET from item 0 on,");
        AccentShop x = Doc.shop("k00000;k80000", "c1;c0", 1, 1, 1, 26, 1, 0);
        for (int form = 0; form < 3; form++) {
            x.sheet(0, form, 60);
            x.write(1, 0);
            String due = "0 0 0 0 0 " + "1 ".repeat(24) + "0";
            Doc.due("of the second", Doc.items(x, 0, form, 30), due);
            x.write(0, 0);
            Doc.due("of the first", Doc.items(x, 0, form, 30), "1 ".repeat(29) + "1");
        }
        AccentShop none = Doc.shop("", "c0");
        for (int form = 0; form < 3; form++) {
            none.sheet(form, form, 31);
            none.write(0, form);
            Doc.due("for none", Doc.items(none, form, form, 31), "-1 ".repeat(30) + "0");
        }
        Doc.says(32, "as many as there are items, 30 at most: how many.");
        for (int n = 0; n <= 60; n++) {
            AccentShop y = Doc.shop("", "c0");
            y.sheet(2, 1, n);
            for (int i = 0; i < n; i++) {
                y.lay(2, 1, i, 9);
            }
            Doc.due("of " + n, y.write(0, 2), Math.min(n, 30));
            if (n > 0) {
                Doc.due("the first of " + n, y.get(2, 1, 0), -1);
                Doc.due("the last of " + n, y.get(2, 1, n - 1), n <= 30 ? -1 : 9);
            }
            if (n > 30) {
                Doc.due("the 30th of " + n, y.get(2, 1, 29), -1);
                Doc.due("the 31st of " + n, y.get(2, 1, 30), 9);
            }
            Doc.due("it has " + n + " still", y.lose(2), n);
        }
    }

    private static void writeTold() {
        Doc.says(32, "BAD; NULL.");
        AccentShop x = Doc.shop(Doc.TWO, "c0;c1");
        Doc.due("nobody, lost", x.write(2, 0), Doc.BAD);
        Doc.due("no sheet", x.write(0, 4), Doc.BAD);
        Doc.due("lost", x.write(0, 0), Doc.NULL);
        for (int s = 0; s < 4; s++) {
            x.sheet(s, 0, 1);
        }
        Doc.edges("person", 0, 1, p -> x.write(p, 0));
        Doc.edges("sheet", 0, 3, s -> x.write(0, s));
        x.lose(3);
        Doc.due("lost", x.write(1, 3), Doc.NULL);
    }

    private static void counted() {
        Doc.says(33, "0 ACCENTS, 1 PEOPLE, 2, 3 bytes of texts, 4 HIRINGS, 5 who is ASTRAY, 6 who BECOME another, 7 HEARD,");
        AccentShop x = Doc.shop("k00000;k99999;k55555", "c0;c1;c7;p0", 0, 0, 1, 9, 1, 7);
        x.hear(0, 0, 0, 0);
        int[] due = {3, 4, 20, 11, 2, 2, 1, 1};
        for (int what = 0; what < 8; what++) {
            Doc.due("count(" + what + ")", x.count(what), due[what]);
        }
        AccentShop full = Doc.shop("k00000;k00001;k00000;k00001;k00000;k00001;k00000;k00001", "p0;p0;p0;p0;p0;p0;p0;p0",
                0, 0, 1, 0, 1, 1, 0, 2, 1, 0, 3, 1, 0, 4, 1, 0, 5, 1, 0, 6, 1, 0, 7, 1);
        int[] most = {8, 8, 55, 23, 8, 8, 8, 8};
        for (int k = 0; k < 9; k++) {
            full.hear(0, 0, 0, 0);
        }
        for (int what = 0; what < 8; what++) {
            Doc.due("count(" + what + ") of as many as can be", full.count(what), most[what]);
        }
        Doc.says(33, "8 the number of the latest FINDING (0 before any).");
        Doc.due("before any", x.count(8), 0);
        x.lose(4);
        x.type(0, 256);
        Doc.due("BAD is none", x.count(8), 0);
        x.lose(0);
        Doc.due("NULL", x.count(8), 1);
        x.sheet(0, 0, -1);
        Doc.due("the latest", x.count(8), 5);
        x.lose(0);
        Doc.due("the latest", x.count(8), 1);
        x.sheet(0, 0, 1);
        Doc.due("the latest still", x.count(8), 1);
        Doc.says(33, "BAD.");
        Doc.edges("what", 0, 8, x::count);
    }

    /** The digest by the document's words: a number that grows without an end, and the lowest 64 bits of it. */
    static BigInteger grown(AccentShop x) {
        return grown(() -> x);
    }

    /** The same, each part by a twin, so that none is asked more than it is good for. */
    static BigInteger grown(Supplier<AccentShop> twins) {
        Row h = new Row();
        AccentShop x = twins.get();
        for (int what = 0; what <= 7; what++) {
            h.and(x.count(what));
        }
        h.and(x.fault(0), x.fault(1));
        int accents = x.count(0);
        int people = x.count(1);
        for (int a = 0; a < accents; a++) {
            for (int what = 0; what <= 5; what++) {
                h.and(x.accent(a, what));
            }
            for (int day : new int[] {6, 20, 29}) {
                for (int what = 0; what <= 5; what++) {
                    h.and(x.drawer(day, a, what));
                }
            }
        }
        for (int p = 0; p < people; p++) {
            x = twins.get();
            h.and(x.person(p, 0), x.person(p, 1));
            for (int day : new int[] {0, 7, 15, 29}) {
                for (int what = 0; what <= 7; what++) {
                    h.and(x.at(day, p, what));
                }
            }
            h.and(x.becomes(p), x.dress(p, 1, 12, 0), x.dress(p, 1, 12, 1), x.home(p), x.was(p, 0), x.was(p, 1), x.ask(p),
                    x.custom(5, p, 0), x.custom(5, p, 1));
        }
        x = twins.get();
        h.and(x.astray(), x.crowd(), x.tray(0), x.tray(1), x.tray(2), x.refuse(Doc.NONE), x.refuse(0), x.never(),
                x.year(7, 6, 0), x.year(7, 6, 1));
        return h.sum;
    }

    private static final class Row {
        BigInteger sum = BigInteger.valueOf(17);

        void and(long... more) {
            for (long m : more) {
                sum = sum.multiply(BigInteger.valueOf(31)).add(BigInteger.valueOf(m));
            }
        }
    }

    private static AccentShop digestible() {
        AccentShop x = Doc.shop("g00000;y55555;g93939;k24680;y99999", "p0;c2;l4;c7", 2, 0, 2, 4, 1, 0, 9, 3, 2);
        x.hear(4, 1, 0, 8);
        return x;
    }

    private static AccentShop full(int hirings) {
        AccentShop x = RefusalBounds.full();
        for (int left = 8; left > hirings; left--) {
            x.back();
        }
        return x;
    }

    private static void digested() {
        Doc.says(34, "h is 17; h becomes 31 h and each of: count() 0 to 7; of texts fault();");
        BigInteger none = grown(new AccentShop());
        Doc.due("of a new object", new AccentShop().digest(), none.longValue());
        Doc.due("of a fault in accents", Doc.shop("k0", "").digest(), grown(Doc.shop("k0", "")).longValue());
        Doc.due("of a fault in people", Doc.shop("", "p").digest(), grown(Doc.shop("", "p")).longValue());
        Doc.says(34, "of ACCENTS accent() 0 to 5, of DAYS 6, 20, 29 drawer(the DAY, it, 0 to 5);");
        for (int n = 1; n <= 8; n++) {
            String accents = "g01234;g98765;y00900;g90009;y12121;g09090;k55555;k01010".substring(0, 7 * n - 1);
            Doc.due("of " + n, Doc.shop(accents, "").digest(), grown(Doc.shop(accents, "")).longValue());
        }
        for (int day : new int[] {0, 5, 6, 7, 19, 20, 21, 28, 29}) {
            AccentShop x = Doc.shop("k00000;k99999", "p7", day, 0, 0);
            Doc.due("one wears it from " + day + " on", x.digest(), grown(x).longValue());
        }
        Doc.says(34, "of PEOPLE person() 0, 1, of DAYS 0, 7, 15, 29 at(the DAY, it, 0 to 7),");
        for (int n = 1; n <= 8; n++) {
            String people = "c1;p0;l1;c7;p3;l2;c0;p1".substring(0, 3 * n - 1);
            int[] hirings = {0, 0, 0, 3, 1, 1, 8, 2, 0, 12, 1, 0};
            Doc.due("of " + n, Doc.shop("g01234;k98765;k55500", people, hirings).digest(),
                    grown(Doc.shop("g01234;k98765;k55500", people, hirings)).longValue());
        }
        Doc.says(34, "then becomes(), dress(it, 1, 12, 0 and 1), home(), was() 0, 1, ask(), custom(5, it), above, below;");
        Doc.due("of some", digestible().digest(), grown(digestible()).longValue());
        AccentShop slow = Doc.shop(Doc.TWO, "p0;l0");
        Doc.due("45 less 18 days for a plain one", slow.dress(0, 1, 12, 1), 27);
        Doc.due("45 less 9 even days for a lord", slow.dress(1, 1, 12, 1), 36);
        Doc.due("of slow ones", slow.digest(), grown(slow).longValue());
        AccentShop late = Doc.shop("k98000;k99000;k00000", "p2");
        Doc.due("a day later the other is as good", late.dress(0, 1, 12, 0) * 10 + late.dress(0, 1, 13, 0), 10);
        Doc.due("of that", late.digest(), grown(late).longValue());
        AccentShop asked = Doc.shop("y00000;k90000;k00000;k99999", "p2;c2", 0, 1, 3);
        asked.hear(0, 0, 1, 0);
        Doc.due("one to ask on day 6", asked.ask(0), 6);
        Doc.due("of one to ask", asked.digest(), grown(asked).longValue());
        Doc.says(34, "astray(), crowd(), tray() 0 to 2, refuse(NONE), refuse(0), never(), year(7, 6, 0 and 1);");
        AccentShop two = Doc.shop(Doc.TWO, "c0;c0;c1", 29, 0, 1, 0, 0, 1, 0, 1, 1);
        Doc.due("the second and the third", two.refuse(Doc.NONE) * 100 + two.refuse(0) * 10 + two.refuse(1), 212);
        Doc.due("of two to refuse", two.digest(), grown(two).longValue());
        Doc.says(34, "as longs that wrap.");
        BigInteger grown = grown(digestible());
        Doc.due("beyond a long", grown.bitLength() > 64 ? 1 : 0, 1);
        Doc.due("its lowest 64 bits", digestible().digest(), grown.longValue());
        Doc.due("even of a new object", none.bitLength() > 64 ? 1 : 0, 1);
        int below = 0;
        for (int n = 1; n <= 8; n++) {
            AccentShop some = Doc.shop(Doc.EIGHT.substring(0, 7 * n - 1), "");
            below += grown(some).longValue() < 0 ? 1 : 0;
            Doc.due("its lowest 64 bits, of " + n, some.digest(), grown(some).longValue());
        }
        Doc.due("some below 0, some not", below > 0 && below < 8 ? 1 : 0, 1);
        for (int hirings = 8; hirings >= 0; hirings--) {
            int left = hirings;
            Doc.due("of as many as can be, with hirings", full(left).digest(), grown(() -> full(left)).longValue());
        }
        AccentShop x = digestible();
        long before = x.digest();
        x.lose(0);
        x.sheet(1, 0, 60);
        Doc.due("findings and sheets are no part of it", x.digest(), before);
        x.forget();
        Doc.dueNot("what was heard is", x.digest(), before);
    }
}
