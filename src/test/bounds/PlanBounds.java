/** What had better be done; promises 16 to 19. Where it can be, a plan is checked by doing it. */
final class PlanBounds {
    private static final int[] NO_HIRINGS = {};

    private PlanBounds() {
    }

    static void run() {
        dressFor();
        dressInOneThatThereIs();
        dressBehindAllOthers();
        dressWhateverRoom();
        dressLeastFar();
        dressForNone();
        dressTold();
        home();
        homeByNone();
        trayOfTwo();
        trayChangesNumbers();
        trayFewest();
        trayLeastRow();
        trayOfLessThanTwo();
        refuseFewest();
        refuseLeastRow();
        refuseTold();
    }

    /** What DRESS is due, by hirings that are told: which and how far. */
    private static void dueDress(String accents, String people, int[] hirings, int told, int day, int which, int how) {
        AccentShop x = Doc.shop(accents, people, hirings);
        String what = " of " + accents + " for " + told + " from " + day + " on";
        Doc.due("which" + what, x.dress(0, told, day, 0), which);
        Doc.due("how far" + what, x.dress(0, told, day, 1), how);
        if (which >= 0 && hirings.length < 24) {
            AccentShop done = Doc.shop(accents, people, Doc.and(hirings, day, 0, which));
            Doc.due("how far when it is done," + what, farFrom(done, told), how);
        }
    }

    private static int farFrom(AccentShop x, int accent) {
        int sum = 0;
        for (int s = 0; s < 5; s++) {
            sum += Math.abs(x.at(29, 0, s) - x.drawer(29, accent, s));
        }
        return sum;
    }

    private static void dressFor() {
        Doc.says(0, "DRESS of a PERSON for an ACCENT (0 to 7), from a DAY on:");
        AccentShop x = Doc.shop(Doc.EIGHT, "c0");
        Doc.edges("accent", 0, 7, a -> x.dress(0, a, 0, 0));
        Doc.edges("day", 0, 29, day -> x.dress(0, 7, day, 0));
        for (int a = 0; a < 8; a++) {
            dueDress(Doc.EIGHT, "c0", NO_HIRINGS, a, 0, a, 0);
        }
        int[] days = {0, 20, 21, 22, 23, 28, 29};
        int[] far = {0, 0, 0, 5, 10, 35, 40};
        for (int i = 0; i < days.length; i++) {
            dueDress(Doc.TWO, "c0", NO_HIRINGS, 1, days[i], 1, far[i]);
        }
    }

    /** In none of those that are not there would the first drawer go on to the lord: it would be better, and is no plan. */
    private static void dressInOneThatThereIs() {
        Doc.says(0, "the ACCENT (that there is) that it had better WEAR from that DAY on");
        int[] frozen = {0, 0, 1, 3, 0, 7};
        AccentShop x = Doc.shop("g00000;k00090", "l0", frozen);
        Doc.due("as it speaks", Doc.speech(x, 29, 0), "00020");
        Doc.due("as the drawer is then", Doc.marks(x, 29, 0), "00020");
        dueDress("g00000;k00090", "l0", frozen, 0, 27, 0, 1);
        dueDress("g00000;k00090", "l0", frozen, 0, 28, 0, 0);
        dueDress("g00000;k00090;k00020", "l0", frozen, 0, 27, 2, 0);
        dueDress(Doc.EIGHT, "c0", NO_HIRINGS, 7, 23, 7, 0);
        dueDress(Doc.EIGHT, "c0", NO_HIRINGS, 7, 24, 6, 5);
    }

    private static void dressBehindAllOthers() {
        Doc.says(0, "(a HIRING more, behind all others of that DAY,");
        int[] told = {9, 0, 0, 9, 0, 7, 9, 0, 0};
        dueDress(Doc.TWO, "c0", told, 1, 8, 0, 45);
        dueDress(Doc.TWO, "c0", told, 1, 9, 1, 0);
        dueDress(Doc.TWO, "c0", told, 1, 10, 1, 0);
        dueDress(Doc.TWO, "c0", new int[] {29, 0, 0}, 1, 20, 1, 5);
        dueDress(Doc.TWO, "c0", new int[] {29, 0, 0}, 1, 28, 0, 45);
        dueDress(Doc.TWO, "c0", new int[] {29, 0, 0}, 1, 29, 1, 40);
    }

    private static void dressWhateverRoom() {
        Doc.says(0, "whatever room),");
        for (int n = 0; n <= 8; n++) {
            AccentShop x = Doc.shop(Doc.TWO, "c0");
            for (int k = 0; k < n; k++) {
                x.hire(9, 0, 0);
            }
            Doc.due("which, behind " + n, x.dress(0, 1, 9, 0), 1);
            Doc.due("how far, behind " + n, x.dress(0, 1, 9, 1), 0);
            Doc.due("no more than " + n + " are told", x.count(4), n);
            Doc.due("a hiring more", x.hire(9, 0, 1), n == 8 ? Doc.FULL : n + 1);
        }
    }

    private static void dressLeastFar() {
        Doc.says(0, "so that behind DAY 29 it is least FAR from the one told, of like ones the least: which; how FAR;");
        dueDress(Doc.TWO, "c0", NO_HIRINGS, 1, 29, 1, 40);
        dueDress(Doc.TWO, "p0", NO_HIRINGS, 1, 29, 1, 44);
        dueDress(Doc.TWO, "l0", NO_HIRINGS, 1, 29, 0, 45);
        dueDress(Doc.TWO, "l0", NO_HIRINGS, 1, 28, 1, 44);
        dueDress(Doc.TWO, "l1", NO_HIRINGS, 0, 29, 0, 45);
        dueDress("k00000;k99999;k99999", "c0", NO_HIRINGS, 2, 29, 1, 40);
        dueDress("k00000;k99999;k22222;k11111", "c0", NO_HIRINGS, 3, 29, 1, 0);
        dueDress("k00000;k99999;k22222;k11111", "c0", NO_HIRINGS, 3, 28, 3, 0);
        dueDress("k00000;k99999;k22222;k11111", "c0", NO_HIRINGS, 2, 28, 1, 0);
    }

    private static void dressForNone() {
        Doc.says(0, "NONE: the one told is not there.");
        for (int n = 0; n <= 8; n++) {
            AccentShop x = Doc.shop(n == 0 ? "" : Doc.EIGHT.substring(0, 7 * n - 1), "c0");
            for (int a = 0; a < 8; a++) {
                Doc.due("which, for " + a + " of " + n, x.dress(0, a, 9, 0), a < n ? a : Doc.NONE);
                Doc.due("how far, for " + a + " of " + n, x.dress(0, a, 9, 1), a >= n ? Doc.NONE : 0);
            }
        }
    }

    private static void dressTold() {
        AccentShop x = Doc.shop(Doc.TWO, "c0;c1");
        Doc.says(16, "DRESS: which (what = 0), how FAR (1); NONE.");
        Doc.due("which", x.dress(1, 0, 25, 0), 0);
        Doc.due("how far", x.dress(1, 0, 25, 1), 20);
        Doc.due("which, of none", x.dress(1, 2, 25, 0), Doc.NONE);
        Doc.due("how far, of none", x.dress(1, 2, 25, 1), Doc.NONE);
        Doc.says(16, "BAD.");
        Doc.edges("person", 0, 1, p -> x.dress(p, 0, 0, 0));
        Doc.edges("accent", 0, 7, a -> x.dress(0, a, 0, 0));
        Doc.edges("day", 0, 29, day -> x.dress(0, 0, day, 0));
        Doc.edges("what", 0, 1, what -> x.dress(0, 0, 0, what));
        Doc.due("wrong, though the one told is not there", x.dress(0, 7, 30, 0), Doc.BAD);
        Doc.due("wrong, though the one told is not there", x.dress(0, 7, 0, 2), Doc.BAD);
        Doc.due("nobody", Doc.shop(Doc.TWO, "").dress(0, 0, 0, 0), Doc.BAD);
    }

    /** What HOME is due, and what it is when each day's hiring is told. */
    private static void dueHome(String accents, String people, int want, int... hirings) {
        int own = people.charAt(1) - '0';
        int latest = Doc.NONE;
        for (int day = 0; day < 30; day++) {
            if (Doc.shop(accents, people, Doc.and(hirings, day, 0, own)).at(29, 0, 6) == own) {
                latest = day;
            }
        }
        Doc.due("the latest by hirings told of " + accents, latest, want);
        Doc.due("home of " + accents, Doc.shop(accents, people, hirings).home(0), want);
    }

    private static void home() {
        Doc.says(0, "HOME of a PERSON: the latest DAY on which it had better WEAR its OWN again (likewise), "
                + "so that behind DAY 29 it is TAKEN for that;");
        dueHome(Doc.TWO, "c0", 29);
        dueHome(Doc.TWO, "c0", 29, 26, 0, 1);
        dueHome(Doc.TWO, "c0", 29, 25, 0, 1);
        dueHome(Doc.TWO, "c0", 29, 24, 0, 1);
        dueHome(Doc.TWO, "c0", 28, 23, 0, 1);
        dueHome(Doc.TWO, "c0", 25, 0, 0, 1);
        dueHome(Doc.TWO, "c1", 25, 0, 0, 0);
        dueHome("k00000;k80000", "c0", 26, 0, 0, 1);
        dueHome("k00000;k80000", "c1", 25, 0, 0, 0);
        dueHome("k10000;y00000;k90000", "p1", 6, 0, 0, 7);
        dueHome("y00000;y00001;g76000", "l1", 0, 18, 0, 0, 1, 0, 2, 0, 0, 0);
        dueHome(Doc.TWO, "c0", 25, 0, 0, 1, 25, 0, 1);
        AccentShop full = Doc.shop(Doc.TWO, "c0", 0, 0, 1, 9, 7, 0, 9, 7, 0, 9, 7, 0, 9, 7, 0, 9, 7, 0, 9, 7, 0, 25, 0, 1);
        Doc.due("whatever room, behind all others of that day", full.home(0), 25);
        AccentShop eighth = Doc.shop(Doc.TWO, "p1;p1;p1;p1;p1;p1;p1;c0", 0, 7, 1);
        Doc.due("of the eighth", eighth.home(7), 25);
    }

    private static void homeByNone() {
        Doc.says(0, "NONE: by none.");
        dueHome("k00000;k00000", "p1", Doc.NONE);
        dueHome("k00000;k00000", "p0", 29);
        dueHome("k00000;k00000;k00001", "c1", Doc.NONE, 0, 0, 2);
        dueHome(Doc.TWO, "c2", Doc.NONE);
        dueHome(Doc.TWO, "c1", 29);
        dueHome("", "c0", Doc.NONE);
        dueHome("k00000", "c0", 29);
        Doc.says(17, "HOME; NONE.");
        AccentShop x = Doc.shop(Doc.TWO, "c0;c2;c1", 0, 2, 0);
        Doc.due("the first", x.home(0), 29);
        Doc.due("the second", x.home(1), Doc.NONE);
        Doc.due("the third", x.home(2), 25);
        Doc.says(17, "BAD.");
        Doc.edges("person", 0, 2, x::home);
        Doc.due("nobody", Doc.shop(Doc.TWO, "").home(0), Doc.BAD);
    }

    private static String row(AccentShop x) {
        return x.tray(0) + " " + x.tray(1) + " " + x.tray(2);
    }

    /** How many are astray when two have changed drawers, in texts and hirings written anew. */
    private static int astrayChanged(String accents, String people, int[] hirings, int a, int b) {
        String[] drawers = accents.split(";");
        String kept = drawers[a];
        drawers[a] = drawers[b];
        drawers[b] = kept;
        StringBuilder others = new StringBuilder(people);
        for (int i = 1; i < people.length(); i += 3) {
            others.setCharAt(i, (char) ('0' + changed(people.charAt(i) - '0', a, b)));
        }
        int[] changed = hirings.clone();
        for (int i = 2; i < changed.length; i += 3) {
            changed[i] = changed(changed[i], a, b);
        }
        return Doc.shop(String.join(";", drawers), others.toString(), changed).count(5);
    }

    private static int changed(int number, int a, int b) {
        return number == a ? b : number == b ? a : number;
    }

    private static void dueTray(String accents, String people, String want, int... hirings) {
        int n = (accents.length() + 1) / 7;
        String best = "-1 -1 -1";
        int fewest = 9;
        for (int a = 0; a < n; a++) {
            for (int b = a + 1; b < n; b++) {
                int lost = astrayChanged(accents, people, hirings, a, b);
                if (lost < fewest) {
                    fewest = lost;
                    best = a + " " + b + " " + lost;
                }
            }
        }
        Doc.due("by texts told of " + accents + " " + people, best, want);
        Doc.due("tray of " + accents + " " + people, row(Doc.shop(accents, people, hirings)), want);
    }

    private static void trayOfTwo() {
        Doc.says(0, "TRAY: the two ACCENTS (the first less) that had better change drawers");
        dueTray(Doc.TWO, "", "0 1 0");
        dueTray("k00000;k00000;k00000", "p2", "0 2 0");
        dueTray("k00000;k00000;k00000", "p1", "0 1 0");
        dueTray("g00000;k80000;k00000", "p2;p1", "0 2 0");
        dueTray("k10000;g30000;k90000;g00000", "p0;p2;p3", "0 1 0");
        dueTray("g12000;k01000;k22000;g02000;g20000;g00000;k00000;y21000", "p0", "2 7 0", 18, 0, 7);
    }

    private static void trayChangesNumbers() {
        Doc.says(0, "(each having the other's number; people's numbers of ACCENTS, HIRINGS go with them),");
        dueTray("k00000;k00000", "p1", "0 1 0");
        dueTray("k99999;k00000", "c1", "0 1 0", 0, 0, 1);
        dueTray(Doc.TWO, "c0", "0 1 1", 0, 0, 1);
        dueTray(Doc.TWO, "c5", "0 1 1");
        dueTray("g00000;k20000", "c0", "0 1 0", 0, 0, 7);
        dueTray("g30000;k20000;g11000;y32000", "l0", "2 3 0", 27, 0, 4, 1, 0, 5);
        AccentShop x = Doc.shop("k00000;k00000", "p1", 3, 0, 1);
        x.tray(0);
        Doc.due("nothing is changed", x.person(0, 1) + x.at(3, 0, 5) + x.at(29, 0, 6), 2);
    }

    private static void trayFewest() {
        Doc.says(0, "so that fewest are ASTRAY,");
        dueTray("k00000;k00000", "p0;p1", "0 1 1");
        dueTray("k00000;k00000", "p1;p1", "0 1 0");
        dueTray("k00000;k00000", "p0;p0", "0 1 2");
        dueTray(Doc.TWO, "p2;p3;p4;p5;p6;p7;p2;p3", "0 1 8");
        dueTray("k00000;k80000;k00009", "c0", "1 2 0", 26, 0, 1);
        dueTray("k00000;k80000;k00009", "c0", "0 1 0", 27, 0, 1);
    }

    private static void trayLeastRow() {
        Doc.says(0, "ASTRAY, of like ones the least row: the first; the other one; how many;");
        dueTray(Doc.EIGHT, "", "0 1 0");
        dueTray(Doc.EIGHT, Doc.EVERYBODY, "0 1 0");
        dueTray("k99999;k00000;k00000", "p2", "0 2 0");
        dueTray("k00000;k00000;k00000", "p1;p2", "0 1 1");
        dueTray("k00000;k00000;k11111;k11111", "p1;p3", "0 3 0");
    }

    private static void trayOfLessThanTwo() {
        Doc.says(0, "NONE: there are less than two.");
        dueTray("", "p0", "-1 -1 -1");
        dueTray("k00000", "p0", "-1 -1 -1");
        dueTray("k00000", "p7", "-1 -1 -1");
        dueTray("k00000;k00000", "p0", "0 1 1");
        AccentShop fault = Doc.shop("k00000;k00000;", "p0");
        Doc.due("two with a fault", row(fault), "-1 -1 -1");
        AccentShop x = Doc.shop(Doc.TWO, "p0;p5;p6;p7");
        Doc.says(18, "TRAY: the first (what = 0), the other one (1), how many (2); NONE.");
        Doc.due("tray(0)", x.tray(0), 0);
        Doc.due("tray(1)", x.tray(1), 1);
        Doc.due("tray(2)", x.tray(2), 3);
        Doc.due("of none", row(new AccentShop()), "-1 -1 -1");
        Doc.says(18, "BAD.");
        Doc.edges("what", 0, 2, x::tray);
        AccentShop none = new AccentShop();
        Doc.due("wrong, though there are none", none.tray(3), Doc.BAD);
        Doc.due("wrong, though there are none", none.tray(-1), Doc.BAD);
    }

    private static String refused(AccentShop x) {
        return x.refuse(Doc.NONE) + " " + x.refuse(0) + " " + x.refuse(1);
    }

    private static void refuseFewest() {
        Doc.says(0, "REFUSE: the fewest HIRINGS (0 to 2) that had better not be, so that nobody is ASTRAY,");
        Doc.due("no hirings", refused(Doc.shop(Doc.TWO, "c0")), "0 -1 -1");
        Doc.due("none need be", refused(Doc.shop(Doc.TWO, "c0", 26, 0, 1)), "0 -1 -1");
        Doc.due("one", refused(Doc.shop(Doc.TWO, "c0", 25, 0, 1)), "1 0 -1");
        Doc.due("one of two", refused(Doc.shop(Doc.TWO, "c0", 26, 0, 1, 0, 0, 1)), "1 1 -1");
        Doc.due("two", refused(Doc.shop(Doc.TWO, "c0;c0", 0, 0, 1, 0, 1, 1)), "2 0 1");
        Doc.due("two of the same", refused(Doc.shop(Doc.TWO, "c0", 0, 0, 1, 1, 0, 1)), "2 0 1");
        Doc.due("three", refused(Doc.shop(Doc.TWO, "c0;c0;c0", 0, 0, 1, 0, 1, 1, 0, 2, 1)), "-1 -1 -1");
        Doc.due("three of the same", refused(Doc.shop(Doc.TWO, "c0", 0, 0, 1, 1, 0, 1, 2, 0, 1)), "-1 -1 -1");
        Doc.due("astray without a hiring", refused(Doc.shop(Doc.TWO, "c7", 0, 0, 1)), "-1 -1 -1");
        Doc.due("the last two of eight", refused(Doc.shop(Doc.TWO, "c0;c0",
                9, 7, 0, 9, 7, 0, 9, 7, 0, 9, 7, 0, 9, 7, 0, 9, 7, 0, 0, 0, 1, 0, 1, 1)), "2 6 7");
        Doc.due("the first and the last of eight", refused(Doc.shop(Doc.TWO, "c0;c0",
                0, 0, 1, 9, 7, 0, 9, 7, 0, 9, 7, 0, 9, 7, 0, 9, 7, 0, 9, 7, 0, 0, 1, 1)), "2 0 7");
    }

    /** Out from day 0 on; kept from going home on day 20 by the hiring that follows: without either it is home. */
    private static void refuseLeastRow() {
        Doc.says(0, "of like ones the least row (each more than the one ahead):");
        int[] early = {20, 0, 0, 20, 0, 7, 0, 0, 1};
        Doc.due("the second or the third", refused(Doc.shop(Doc.TWO, "c0", early)), "1 1 -1");
        int[] late = {0, 0, 1, 20, 0, 0, 20, 0, 7};
        Doc.due("the first or the third", refused(Doc.shop(Doc.TWO, "c0", late)), "1 0 -1");
        int[] both = Doc.and(early, 20, 1, 0, 20, 1, 7, 0, 1, 1);
        Doc.due("a second or third, a fifth or sixth", refused(Doc.shop(Doc.TWO, "c0;c0", both)), "2 1 4");
        Doc.due("without the second and the fifth", Doc.shop(Doc.TWO, "c0;c0",
                20, 0, 0, 0, 0, 1, 20, 1, 0, 0, 1, 1).astray(), 0);
        Doc.due("without the third and the sixth", Doc.shop(Doc.TWO, "c0;c0",
                20, 0, 0, 20, 0, 7, 20, 1, 0, 20, 1, 7).astray(), 0);
    }

    private static void refuseTold() {
        Doc.says(0, "how many; the i-th; NONE.");
        AccentShop two = Doc.shop(Doc.TWO, "c0;c0", 29, 0, 1, 0, 0, 1, 0, 1, 1);
        Doc.due("two", refused(two), "2 1 2");
        two.back();
        Doc.due("one, and no second", refused(two), "1 1 -1");
        two.back();
        Doc.due("none, and no first", refused(two), "0 -1 -1");
        Doc.says(19, "REFUSE: how many (i = NONE), the i-th (0, 1; NONE); NONE.");
        AccentShop x = Doc.shop(Doc.TWO, "c0;c0", 0, 0, 1, 0, 1, 1);
        Doc.due("how many", x.refuse(-1), 2);
        Doc.due("the first", x.refuse(0), 0);
        Doc.due("the second", x.refuse(1), 1);
        Doc.due("by none", refused(Doc.shop(Doc.TWO, "c7")), "-1 -1 -1");
        Doc.says(19, "BAD.");
        Doc.edges("i", -1, 1, x::refuse);
        Doc.due("wrong, though by none", Doc.shop(Doc.TWO, "c7").refuse(2), Doc.BAD);
    }
}
