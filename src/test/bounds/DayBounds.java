/** What the days do, and what is told of them; promises 11 to 15. */
final class DayBounds {
    private DayBounds() {
    }

    static void run() {
        days();
        sundays();
        soundOfASunday();
        atFirst();
        noneSuch();
        hiringsAsTold();
        hiringOfNobody();
        hiringsAheadOfTalk();
        oneBehindTheOther();
        nobodyWears();
        nextNumber();
        nobodyWearsTheNext();
        bySort();
        noFarther();
        towardsWhatItWears();
        child();
        plain();
        lord();
        far();
        taken();
        ofAPerson();
        ofAnAccent();
        becomes();
        astray();
        crowd();
    }

    private static void days() {
        Doc.says(0, "DAYS are 0 to 29;");
        AccentShop x = Doc.shop(Doc.TWO, "c0");
        Doc.edges("hire", 0, 29, day -> x.hire(day, 0, 1));
        Doc.edges("at", 0, 29, day -> x.at(day, 0, 0));
        Doc.edges("drawer", 0, 29, day -> x.drawer(day, 0, 0));
        Doc.edges("dress", 0, 29, day -> x.dress(0, 0, day, 0));
        Doc.edges("hear", 0, 29, day -> x.hear(day, 0, 0, 0));
        Doc.due("done on the first", Doc.speech(Doc.shop(Doc.TWO, "c0", 0, 0, 1), 0, 0), "11111");
        Doc.due("not ahead of the last", Doc.speech(Doc.shop(Doc.TWO, "c0", 29, 0, 1), 28, 0), "00000");
        Doc.due("done on the last", Doc.speech(Doc.shop(Doc.TWO, "c0", 29, 0, 1), 29, 0), "11111");
    }

    private static void sundays() {
        Doc.says(0, "SUNDAYS are 6, 13, 20, 27.");
        AccentShop x = Doc.shop("g00000;k99999", "");
        StringBuilder changed = new StringBuilder();
        String before = "00000";
        for (int day = 0; day <= 29; day++) {
            String now = Doc.marks(x, day, 0);
            changed.append(now.equals(before) ? "" : day + " ");
            before = now;
        }
        Doc.due("days on which it goes on", changed.toString(), "6 13 20 27 ");
    }

    private static void soundOfASunday() {
        Doc.says(0, "of the SOUND that is the DAY by 7 (cut):");
        AccentShop x = Doc.shop("g00000;k99999", "");
        int[] days = {0, 5, 6, 7, 12, 13, 14, 19, 20, 21, 26, 27, 28, 29};
        String[] due = {"00000", "00000", "20000", "20000", "20000", "22000", "22000", "22000", "22200", "22200", "22200",
            "22220", "22220", "22220"};
        for (int i = 0; i < days.length; i++) {
            Doc.due("behind day " + days[i], Doc.marks(x, days[i], 0), due[i]);
        }
    }

    private static void atFirst() {
        Doc.says(0, "At first each PERSON WEARS its OWN ACCENT, and its SPEECH is as that is marked");
        AccentShop x = Doc.shop("k01234;k98765;k33333;k44444;k55555;k66666;k77777;k90909", Doc.EVERYBODY);
        for (int p = 0; p < 8; p++) {
            Doc.due("wears", x.at(0, p, 5), p);
        }
        Doc.due("the first", Doc.speech(x, 0, 0), "01234");
        Doc.due("the second", Doc.speech(x, 0, 1), "98765");
        Doc.due("the eighth", Doc.speech(x, 0, 7), "90909");
        AccentShop away = Doc.shop("k01234;k98765", "c0", 1, 0, 1);
        Doc.due("behind day 0 still", Doc.speech(away, 0, 0), "01234");
        Doc.due("from there it goes", Doc.speech(away, 1, 0), "12345");
    }

    private static void noneSuch() {
        Doc.says(0, "(5 for each SOUND, if there is none such).");
        for (int n = 0; n <= 8; n++) {
            AccentShop x = Doc.shop(n == 0 ? "" : Doc.EIGHT.substring(0, 7 * n - 1), Doc.EVERYBODY);
            for (int p = 0; p < 8; p++) {
                int mark = p < n ? p : 5;
                Doc.due("person " + p + " where there are " + n, Doc.speech(x, 0, p), ("" + mark).repeat(5));
                Doc.due("and behind the last day", Doc.speech(x, 29, p), ("" + mark).repeat(5));
                Doc.due("it wears that still", x.at(29, p, 5), p);
            }
        }
    }

    private static void hiringsAsTold() {
        Doc.says(0, "On each DAY first its HIRINGS are done, as told");
        AccentShop x = Doc.shop(Doc.EIGHT, "p0", 9, 0, 1, 4, 0, 2, 4, 0, 3, 4, 0, 2, 0, 0, 5, 29, 0, 6, 29, 0, 7);
        int[] days = {0, 3, 4, 5, 8, 9, 28, 29};
        int[] due = {5, 5, 2, 2, 2, 1, 1, 7};
        for (int i = 0; i < days.length; i++) {
            Doc.due("behind day " + days[i], x.at(days[i], 0, 5), due[i]);
        }
        Doc.due("ahead of that day's speech", Doc.speech(Doc.shop(Doc.TWO, "c0", 4, 0, 1), 4, 0), "11111");
        Doc.due("ahead of that day's speech", Doc.speech(Doc.shop(Doc.TWO, "c0", 4, 0, 1), 3, 0), "00000");
        Doc.due("the last of a day alone", Doc.speech(Doc.shop(Doc.TWO, "c0", 4, 0, 1, 4, 0, 0), 29, 0), "00000");
    }

    private static void hiringOfNobody() {
        Doc.says(0, "(one of a PERSON that is not there is nothing).");
        AccentShop x = Doc.shop("y00000;k99999", "c5;c5", 0, 2, 0, 0, 7, 1);
        Doc.due("nobody wears it", x.drawer(0, 0, 5), 0);
        Doc.due("nobody wears that", x.drawer(0, 1, 5), 0);
        Doc.due("and so they talk", Doc.marks(x, 6, 0), "10000");
        Doc.typeAll(x, 1, ";c5");
        Doc.due("there is a third now", x.at(0, 2, 5), 0);
        Doc.due("one wears it", x.drawer(0, 0, 5), 1);
        Doc.due("it does not talk", Doc.marks(x, 6, 0), "00000");
        AccentShop last = Doc.shop("y00000;k99999", "c5;c5", 0, 1, 0);
        Doc.due("the last that is there", last.at(0, 1, 5), 0);
        Doc.due("one wears it", last.drawer(0, 0, 5), 1);
    }

    private static void hiringsAheadOfTalk() {
        Doc.says(0, "Then, on a SUNDAY, ACCENTS talk,");
        Doc.due("taken out ahead of it", Doc.marks(Doc.shop("y00000;k99999", "p7", 5, 0, 0), 6, 0), "00000");
        Doc.due("taken out on it", Doc.marks(Doc.shop("y00000;k99999", "p7", 6, 0, 0), 6, 0), "00000");
        Doc.due("taken out behind it", Doc.marks(Doc.shop("y00000;k99999", "p7", 7, 0, 0), 6, 0), "10000");
        Doc.due("put by ahead of it", Doc.marks(Doc.shop("y00000;k99999", "p0", 5, 0, 7), 6, 0), "10000");
        Doc.due("put by on it", Doc.marks(Doc.shop("y00000;k99999", "p0", 6, 0, 7), 6, 0), "10000");
        Doc.due("put by behind it", Doc.marks(Doc.shop("y00000;k99999", "p0", 7, 0, 7), 6, 0), "00000");
    }

    private static void oneBehindTheOther() {
        Doc.says(0, "one behind the other by numbers,");
        AccentShop x = Doc.shop("g00000;g20000;g00000;g20000;k00000", "");
        Doc.due("each goes to the next as that still is", x.drawer(6, 0, 0), 2);
        Doc.due("then that goes on", x.drawer(6, 1, 0), 0);
        Doc.due("and the next", x.drawer(6, 2, 0), 2);
        Doc.due("and the next", x.drawer(6, 3, 0), 0);
        Doc.due("the last stays", x.drawer(6, 4, 0), 0);
    }

    private static void nobodyWears() {
        Doc.says(0, "each that nobody WEARS,");
        Doc.due("nobody", Doc.marks(Doc.shop("y00000;k99999", ""), 6, 0), "10000");
        Doc.due("one", Doc.marks(Doc.shop("y00000;k99999", "p0"), 6, 0), "00000");
        Doc.due("two", Doc.marks(Doc.shop("y00000;k99999", "p0;p0"), 6, 0), "00000");
        Doc.due("the eighth person alone", Doc.marks(Doc.shop("y00000;k99999", "p2;p3;p4;p5;p6;p7;p7;p0"), 6, 0), "00000");
        Doc.due("others wear what is not there", Doc.marks(Doc.shop("y00000;k99999", "p2;p3"), 6, 0), "10000");
        Doc.due("another is worn", Doc.marks(Doc.shop("y00000;k99999;k00000", "p2"), 6, 0), "10000");
    }

    private static void nextNumber() {
        Doc.says(0, "if there is one with the next number,");
        Doc.due("one alone", Doc.marks(Doc.shop("g00000", ""), 29, 0), "00000");
        Doc.due("the first of two", Doc.marks(Doc.shop("g00000;g99999", ""), 29, 0), "22220");
        Doc.due("the second of two", Doc.marks(Doc.shop("g00000;g99999", ""), 29, 1), "99999");
        AccentShop eight = Doc.shop("k55555;k55555;k55555;k55555;k55555;k55555;g00000;g99999", "");
        Doc.due("the seventh of eight", Doc.marks(eight, 29, 6), "22220");
        Doc.due("the eighth of eight", Doc.marks(eight, 29, 7), "99999");
        AccentShop seven = Doc.shop("k55555;k55555;k55555;k55555;k55555;k55555;g00000", "");
        Doc.due("the seventh of seven", Doc.marks(seven, 29, 6), "00000");
    }

    private static void nobodyWearsTheNext() {
        Doc.says(0, "and nobody WEARS that either,");
        Doc.due("nobody", Doc.marks(Doc.shop("y00000;k99999;k00000", ""), 6, 0), "10000");
        Doc.due("one", Doc.marks(Doc.shop("y00000;k99999;k00000", "p1"), 6, 0), "00000");
        Doc.due("two", Doc.marks(Doc.shop("y00000;k99999;k00000", "p1;p1"), 6, 0), "00000");
        Doc.due("one has the next but one", Doc.marks(Doc.shop("y00000;k99999;k00000", "p2"), 6, 0), "10000");
        Doc.due("one has the one ahead", Doc.marks(Doc.shop("k00000;y00000;k99999", "p0"), 6, 1), "10000");
        Doc.due("put by on that day", Doc.marks(Doc.shop("y00000;k99999", "p1", 6, 0, 7), 6, 0), "10000");
        Doc.due("put by a day late", Doc.marks(Doc.shop("y00000;k99999", "p1", 7, 0, 7), 6, 0), "00000");
    }

    private static void bySort() {
        Doc.says(0, "goes towards that by its MARK of this SOUND: one that keeps to itself not at all, "
                + "one that yields by 1, a gossip by 2,");
        String[] up = {"00000", "11110", "22220"};
        String[] down = {"99999", "88889", "77779"};
        for (int sort = 0; sort < 3; sort++) {
            char c = "kyg".charAt(sort);
            Doc.due(c + " goes up", Doc.marks(Doc.shop(c + "00000;k99999", ""), 29, 0), up[sort]);
            Doc.due(c + " goes down", Doc.marks(Doc.shop(c + "99999;k00000", ""), 29, 0), down[sort]);
            Doc.due("whatever sort the next is", Doc.marks(Doc.shop(c + "00000;g99999", ""), 29, 0), up[sort]);
        }
    }

    private static void noFarther() {
        Doc.says(0, "but no farther than it is there.");
        String gossip = "3333456777";
        String yields = "4444456666";
        for (int next = 0; next <= 9; next++) {
            AccentShop g = Doc.shop("g55555;k" + ("" + next).repeat(5), "");
            Doc.due("a gossip from 5 to " + next, g.drawer(6, 0, 0), gossip.charAt(next) - '0');
            Doc.due("a gossip from 5 to " + next, g.drawer(27, 0, 3), gossip.charAt(next) - '0');
            AccentShop y = Doc.shop("y55555;k" + ("" + next).repeat(5), "");
            Doc.due("one that yields from 5 to " + next, y.drawer(6, 0, 0), yields.charAt(next) - '0');
            Doc.due("one that yields from 5 to " + next, y.drawer(20, 0, 2), yields.charAt(next) - '0');
        }
        Doc.due("a gossip from 8 to 9", Doc.shop("g80000;k90000", "").drawer(6, 0, 0), 9);
        Doc.due("a gossip from 1 to 0", Doc.shop("g10000;k00000", "").drawer(6, 0, 0), 0);
        Doc.due("a gossip at 9", Doc.shop("g90000;k90000", "").drawer(6, 0, 0), 9);
        Doc.due("a gossip at 0", Doc.shop("g00000;k00000", "").drawer(6, 0, 0), 0);
    }

    private static void towardsWhatItWears() {
        Doc.says(0, "Then each PERSON's SPEECH goes towards the ACCENT that it WEARS, if there is one:");
        String sorts = "pcl";
        String[] due = {"10000", "11111", "10000"};
        for (int sort = 0; sort < 3; sort++) {
            String one = sorts.charAt(sort) + "0";
            Doc.due("the last that there is", Doc.speech(Doc.shop(Doc.TWO, one, 0, 0, 1), 0, 0), due[sort]);
            Doc.due("one behind it", Doc.speech(Doc.shop(Doc.TWO, one, 0, 0, 2), 29, 0), "00000");
            Doc.due("the eighth number", Doc.speech(Doc.shop(Doc.TWO, one, 0, 0, 7), 29, 0), "00000");
            Doc.due("none at all", Doc.speech(Doc.shop("", one, 0, 0, 1), 29, 0), "55555");
        }
        Doc.due("the eighth", Doc.speech(Doc.shop(Doc.EIGHT, "c0", 0, 0, 7), 6, 0), "77777");
        Doc.due("behind six days", Doc.speech(Doc.shop(Doc.EIGHT, "c0", 0, 0, 7), 5, 0), "66666");
        Doc.due("as its drawer is then", Doc.speech(Doc.shop("y00000;k90000", "c7", 7, 0, 0), 29, 0), "10000");
        AccentShop all = Doc.shop(Doc.TWO, "c0;c0;c0;c0;c0;c0;c0;c0", 0, 0, 1, 0, 7, 1);
        Doc.due("each by itself", Doc.speech(all, 2, 0) + Doc.speech(all, 2, 6) + Doc.speech(all, 2, 7), "333330000033333");
    }

    private static void dueSpeeches(String what, AccentShop x, int person, String... days) {
        for (int day = 0; day < days.length; day++) {
            Doc.due(what + " behind day " + day, Doc.speech(x, day, person), days[day]);
        }
    }

    private static void child() {
        Doc.says(0, "a child's by 1 in each SOUND in which they differ;");
        dueSpeeches("a child", Doc.shop("k44444;k34569", "c0", 0, 0, 1), 0,
                "34555", "34566", "34567", "34568", "34569", "34569", "34569");
        dueSpeeches("a child", Doc.shop("k90909;k09090", "c0", 0, 0, 1), 0, "81818", "72727", "63636", "54545", "45454",
                "36363", "27272", "18181", "09090", "09090");
    }

    private static void plain() {
        AccentShop x = Doc.shop("k44444;k34569", "p0", 0, 0, 1);
        Doc.says(0, "a plain one's by 1 in the SOUND in which they differ most,");
        dueSpeeches("a plain one", x, 0, "44445", "44446", "44447");
        for (int s = 0; s < 5; s++) {
            String goal = "11111".substring(0, s) + "2" + "11111".substring(s + 1);
            String due = "00000".substring(0, s) + "1" + "00000".substring(s + 1);
            Doc.due("most in sound " + s, Doc.speech(Doc.shop("k00000;k" + goal, "p0", 0, 0, 1), 0, 0), due);
            String low = "88888".substring(0, s) + "7" + "88888".substring(s + 1);
            String down = "99999".substring(0, s) + "8" + "99999".substring(s + 1);
            Doc.due("most in sound " + s, Doc.speech(Doc.shop("k99999;k" + low, "p0", 0, 0, 1), 0, 0), down);
        }
        Doc.says(0, "of like ones the least, if");
        dueSpeeches("a plain one", x, 0, "44445", "44446", "44447", "44457", "44458", "34458", "34558", "34568", "34569");
        dueSpeeches("all alike", Doc.shop("k00000;k11111", "p0", 0, 0, 1), 0, "10000", "11000", "11100", "11110", "11111");
        dueSpeeches("up and down alike", Doc.shop("k55555;k57355", "p0", 0, 0, 1), 0, "56555", "56455", "57455", "57355");
        Doc.says(0, "if they differ;");
        Doc.due("no more", Doc.speech(x, 9, 0) + Doc.speech(x, 29, 0), "3456934569");
        Doc.due("by 1 in the last", Doc.speech(Doc.shop("k00000;k00001", "p0", 0, 0, 1), 0, 0), "00001");
        Doc.due("by 1 in the last", Doc.speech(Doc.shop("k00000;k00001", "p0", 0, 0, 1), 1, 0), "00001");
        Doc.due("not at all", Doc.speech(Doc.shop("k09090;k09090", "p0", 0, 0, 1), 0, 0), "09090");
    }

    private static void lord() {
        Doc.says(0, "a lord's likewise, but on even DAYS alone.");
        String[] steps = {"44445", "44446", "44447", "44457", "44458", "34458", "34558", "34568", "34569", "34569", "34569",
            "34569", "34569", "34569", "34569"};
        AccentShop x = Doc.shop("k44444;k34569", "l0", 0, 0, 1);
        for (int day = 0; day < 30; day++) {
            Doc.due("behind day " + day, Doc.speech(x, day, 0), steps[day / 2]);
        }
        Doc.due("from an odd day on", Doc.speech(Doc.shop(Doc.TWO, "l0", 1, 0, 1), 1, 0), "00000");
        Doc.due("from an odd day on", Doc.speech(Doc.shop(Doc.TWO, "l0", 1, 0, 1), 2, 0), "10000");
        Doc.due("from day 28 on", Doc.speech(Doc.shop(Doc.TWO, "l0", 28, 0, 1), 29, 0), "10000");
        Doc.due("from day 29 on", Doc.speech(Doc.shop(Doc.TWO, "l0", 29, 0, 1), 29, 0), "00000");
    }

    private static void far() {
        Doc.says(0, "FAR from SPEECH to an ACCENT is by how much their MARKS differ, all five together.");
        Doc.due("not at all", Doc.shop("k55555", "p7").at(0, 0, 7), 0);
        for (int s = 0; s < 5; s++) {
            Doc.due("one more", Doc.shop("k" + "55555".substring(0, s) + "6" + "55555".substring(s + 1), "p7").at(0, 0, 7), 1);
            Doc.due("one less", Doc.shop("k" + "55555".substring(0, s) + "4" + "55555".substring(s + 1), "p7").at(0, 0, 7), 1);
        }
        Doc.due("more and less do not cancel", Doc.shop("k46464", "p7").at(0, 0, 7), 5);
        Doc.due("all five", Doc.shop("k00000", "p7").at(0, 0, 7), 25);
        Doc.due("all five", Doc.shop("k99999", "p7").at(0, 0, 7), 20);
        Doc.due("as far as can be", Doc.shop(Doc.TWO, "l0").dress(0, 1, 29, 1), 45);
    }

    private static void taken() {
        Doc.says(0, "One is TAKEN for the ACCENT to which it is least FAR,");
        Doc.due("the first by 1", Doc.shop("k55556;k55557", "p7").at(0, 0, 6), 0);
        Doc.due("the second by 1", Doc.shop("k55557;k55556", "p7").at(0, 0, 6), 1);
        Doc.due("the eighth by 1", Doc.shop(
                "k77777;k77777;k77777;k77777;k77777;k77777;k77777;k77776", "p7").at(0, 0, 6), 7);
        Doc.due("as drawers are then", Doc.shop("y55555;k95555;k55555", "p7").at(5, 0, 6), 0);
        Doc.due("as drawers are then", Doc.shop("y55555;k95555;k55555", "p7").at(6, 0, 6), 2);
        Doc.says(0, "least FAR, of like ones the least (NONE");
        Doc.due("alike", Doc.shop("k55556;k55554", "p7").at(0, 0, 6), 0);
        Doc.due("the last two alike", Doc.shop("k55557;k55556;k55554", "p7").at(0, 0, 6), 1);
        Doc.due("all eight alike", Doc.shop(
                "k55555;k55555;k55555;k55555;k55555;k55555;k55555;k55555", "p7").at(29, 0, 6), 0);
        Doc.says(0, "(NONE: there are none).");
        Doc.due("none", Doc.shop("", "p0").at(0, 0, 6), Doc.NONE);
        Doc.due("none on the last day", Doc.shop("", "p0").at(29, 0, 6), Doc.NONE);
        Doc.due("far from none", Doc.shop("", "p0").at(0, 0, 7), Doc.NONE);
        Doc.due("one", Doc.shop("k00000", "p7").at(0, 0, 6), 0);
    }

    private static void ofAPerson() {
        AccentShop x = Doc.shop("k01234;k98765", "c0;p1", 1, 0, 1);
        Doc.says(0, "Behind a DAY: of a PERSON its SPEECH, SOUND by SOUND; which ACCENT it WEARS; for which it is TAKEN; "
                + "how FAR it is from that.");
        Doc.due("behind day 0", Doc.speech(x, 0, 0), "01234");
        Doc.due("behind day 1", Doc.speech(x, 1, 0), "12345");
        Doc.due("behind day 0 again", Doc.speech(x, 0, 0), "01234");
        Doc.due("behind the last", Doc.speech(x, 29, 0), "98765");
        Doc.says(11, "Its SPEECH (what = 0 to 4)");
        for (int s = 0; s < 5; s++) {
            Doc.due("sound " + s, x.at(1, 0, s), 1 + s);
        }
        Doc.says(11, "which ACCENT it WEARS (5)");
        Doc.due("behind day 0", x.at(0, 0, 5), 0);
        Doc.due("behind day 1", x.at(1, 0, 5), 1);
        Doc.due("one that is not there", Doc.shop("", "p7").at(0, 0, 5), 7);
        Doc.says(11, "for which it is TAKEN (6; NONE)");
        Doc.due("behind day 2", x.at(2, 0, 6), 0);
        Doc.due("behind the last", x.at(29, 0, 6), 1);
        Doc.due("for none", Doc.shop("", "p0").at(29, 0, 6), Doc.NONE);
        Doc.says(11, "how FAR (7; NONE).");
        Doc.due("behind day 0", x.at(0, 0, 7), 0);
        Doc.due("behind day 1", x.at(1, 0, 7), 5);
        Doc.due("behind day 29", x.at(29, 0, 7), 0);
        Doc.due("from none", Doc.shop("", "p0").at(29, 0, 7), Doc.NONE);
        Doc.says(11, "BAD.");
        Doc.edges("day", 0, 29, day -> x.at(day, 0, 0));
        Doc.edges("person", 0, 1, p -> x.at(0, p, 0));
        Doc.edges("what", 0, 7, what -> x.at(0, 0, what));
        AccentShop eight = Doc.shop(Doc.EIGHT, Doc.EVERYBODY);
        Doc.edges("person of eight", 0, 7, p -> eight.at(29, p, 4));
        Doc.due("nobody", Doc.shop(Doc.TWO, "").at(0, 0, 0), Doc.BAD);
        Doc.due("wrong, though there are none", Doc.shop("", "p0").at(0, 0, 8), Doc.BAD);
    }

    private static void ofAnAccent() {
        AccentShop x = Doc.shop("g01234;k98765;k00000", "c2;c2", 13, 0, 0);
        Doc.says(0, "Of an ACCENT its MARKS; how many WEAR it.");
        Doc.due("ahead of the first sunday", Doc.marks(x, 5, 0), "01234");
        Doc.due("behind it", Doc.marks(x, 6, 0), "21234");
        Doc.due("worn on the second", Doc.marks(x, 29, 0), "21234");
        Doc.says(12, "Its MARKS (what = 0 to 4)");
        for (int s = 0; s < 5; s++) {
            Doc.due("mark " + s, x.drawer(29, 1, s), 9 - s);
        }
        Doc.says(12, "how many WEAR it (5).");
        Doc.due("nobody", x.drawer(12, 0, 5), 0);
        Doc.due("one", x.drawer(13, 0, 5), 1);
        Doc.due("two", x.drawer(12, 2, 5), 2);
        Doc.due("one of them", x.drawer(13, 2, 5), 1);
        Doc.due("eight", Doc.shop("k00000", "p0;p0;p0;p0;p0;p0;p0;p0").drawer(29, 0, 5), 8);
        Doc.due("the eighth", Doc.shop(Doc.EIGHT, "p7;p7").drawer(0, 7, 5), 2);
        Doc.due("nobody of eight", Doc.shop("k00000", "p1;p2;p3;p4;p5;p6;p7;p7").drawer(29, 0, 5), 0);
        Doc.says(12, "BAD.");
        Doc.edges("day", 0, 29, day -> x.drawer(day, 0, 0));
        Doc.edges("accent", 0, 2, a -> x.drawer(0, a, 0));
        Doc.edges("what", 0, 5, what -> x.drawer(0, 0, what));
        AccentShop eight = Doc.shop(Doc.EIGHT, "");
        Doc.edges("accent of eight", 0, 7, a -> eight.drawer(29, a, 4));
        Doc.due("of none", Doc.shop("", "p0").drawer(0, 0, 0), Doc.BAD);
    }

    private static int becomes(String accents, String people, int... hirings) {
        return Doc.shop(accents, people, hirings).becomes(0);
    }

    private static void becomes() {
        Doc.says(0, "BECOMES of a PERSON: the first DAY behind which it is not FAR at all (0) from the ACCENT that it WEARS,");
        Doc.due("the first day", becomes("k00000;k00001", "c0", 0, 0, 1), 0);
        Doc.due("the second", becomes("k00000;k00002", "c0", 0, 0, 1), 1);
        Doc.due("the last", becomes("k00000;k00001", "c0", 29, 0, 1), 29);
        Doc.due("the last", becomes("k00000;k00002", "c0", 28, 0, 1), 29);
        Doc.due("all five", becomes(Doc.TWO, "c0", 21, 0, 1), 29);
        Doc.due("the first of two", becomes("k00000;k00001;k00002", "c0", 3, 0, 1, 9, 0, 2), 3);
        Doc.due("though it is its own again", becomes("k00000;k00001", "c0", 3, 0, 1, 9, 0, 0, 15, 0, 1), 3);
        Doc.due("not from another that is like it", becomes("k00000;k00005;k00001", "c0", 0, 0, 1), 4);
        Doc.says(0, "that not being its OWN;");
        Doc.due("its own all the while", becomes(Doc.TWO, "c0"), Doc.NONE);
        Doc.due("its own, hired", becomes(Doc.TWO, "c0", 0, 0, 0), Doc.NONE);
        Doc.due("its own again", becomes(Doc.TWO, "c0", 0, 0, 1, 2, 0, 0), Doc.NONE);
        Doc.due("one like its own", becomes("k00000;k00000", "c0", 7, 0, 1), 7);
        Doc.due("its own is not there", becomes("k55555", "c7", 7, 0, 0), 7);
        Doc.says(0, "its OWN; NONE.");
        Doc.due("far by 1 behind the last day", becomes("k00000;k00002", "c0", 29, 0, 1), Doc.NONE);
        Doc.due("far by 1 behind the last day", becomes(Doc.TWO, "c0", 22, 0, 1), Doc.NONE);
        Doc.due("it is not there", becomes("k55555", "c0", 0, 0, 1), Doc.NONE);
        Doc.due("its own that is not there", becomes("k55555", "c7"), Doc.NONE);
        Doc.says(13, "BECOMES; NONE.");
        AccentShop x = Doc.shop("k00000;k00001", "p0;p0;p0", 5, 0, 1, 6, 2, 1);
        Doc.due("the first", x.becomes(0), 5);
        Doc.due("the second", x.becomes(1), Doc.NONE);
        Doc.due("the third", x.becomes(2), 6);
        Doc.says(13, "BAD.");
        Doc.edges("person", 0, 2, x::becomes);
        AccentShop eight = Doc.shop("", Doc.EVERYBODY);
        Doc.edges("person of eight", 0, 7, eight::becomes);
        Doc.due("nobody", Doc.shop(Doc.TWO, "").becomes(0), Doc.BAD);
    }

    private static void astray() {
        Doc.says(0, "ASTRAY: PEOPLE behind DAY 29 that are TAKEN for an ACCENT,");
        Doc.due("for none", Doc.shop("", Doc.EVERYBODY).astray(), 0);
        Doc.due("behind day 28 it was not", Doc.shop(Doc.TWO, "c0", 25, 0, 1).at(28, 0, 6), 0);
        Doc.due("behind day 29 it is", Doc.shop(Doc.TWO, "c0", 25, 0, 1).astray(), 1);
        Doc.due("nor behind day 29", Doc.shop(Doc.TWO, "c0", 26, 0, 1).astray(), 0);
        Doc.due("home by day 29", Doc.shop(Doc.TWO, "c0", 0, 0, 1, 25, 0, 0).astray(), 0);
        Doc.due("not home by day 29", Doc.shop(Doc.TWO, "c0", 0, 0, 1, 26, 0, 0).astray(), 1);
        Doc.says(0, "and that is not their OWN, as bits.");
        Doc.due("each in its own", Doc.shop(Doc.EIGHT, Doc.EVERYBODY).astray(), 0);
        Doc.due("the first", Doc.shop(Doc.TWO, "p7;p0;p0;p0;p0;p0;p0;p1").astray(), 1);
        Doc.due("the eighth", Doc.shop(Doc.TWO, "p0;p0;p0;p0;p0;p0;p1;p2").astray(), 128);
        Doc.due("all", Doc.shop(Doc.TWO, "p2;p3;p4;p5;p6;p7;p7;p2").astray(), 255);
        Doc.due("all but one", Doc.shop("k00000;k00000", "p1;p1;p1;p0;p1;p1;p1;p1").astray(), 247);
        Doc.says(14, "ASTRAY, as bits.");
        Doc.due("nobody", new AccentShop().astray(), 0);
        Doc.due("the first and the third", Doc.shop(Doc.TWO, "c0;c0;c0", 0, 2, 1, 0, 0, 1).astray(), 5);
    }

    private static void crowd() {
        Doc.says(0, "CROWD: the ACCENT for which most are TAKEN behind DAY 29,");
        Doc.due("one and two", Doc.shop(Doc.TWO, "p0;p1;p1").crowd(), 1);
        Doc.due("two and one", Doc.shop(Doc.TWO, "p0;p1;p0").crowd(), 0);
        Doc.due("one alone", Doc.shop(Doc.EIGHT, "p7").crowd(), 7);
        Doc.due("eight", Doc.shop(Doc.EIGHT, "p6;p6;p6;p6;p6;p6;p6;p6").crowd(), 6);
        Doc.due("behind day 29", Doc.shop(Doc.TWO, "c0", 25, 0, 1).crowd(), 1);
        Doc.due("behind day 29", Doc.shop(Doc.TWO, "c0", 26, 0, 1).crowd(), 0);
        Doc.due("taken, not worn", Doc.shop(Doc.TWO, "c0", 29, 0, 1).crowd(), 0);
        Doc.says(0, "29, of like ones the least; NONE");
        Doc.due("one and one", Doc.shop(Doc.TWO, "p1;p0").crowd(), 0);
        Doc.due("two and two", Doc.shop("k00000;k44444;k99999", "p2;p2;p0;p1;p1").crowd(), 1);
        Doc.due("each for its own", Doc.shop(Doc.EIGHT, "p7;p6;p5;p4;p3;p2;p1;p0").crowd(), 0);
        Doc.says(0, "NONE: nobody is.");
        Doc.due("no people", Doc.shop(Doc.TWO, "").crowd(), Doc.NONE);
        Doc.due("no accents", Doc.shop("", "p0;p1").crowd(), Doc.NONE);
        Doc.due("one of each", Doc.shop("k00000", "p7").crowd(), 0);
        Doc.says(15, "CROWD; NONE.");
        Doc.due("nothing at all", new AccentShop().crowd(), Doc.NONE);
        Doc.due("two of three", Doc.shop(Doc.TWO, "p1;p0;p1").crowd(), 1);
        AccentShop x = Doc.shop(Doc.TWO, "p0;p0;p1");
        Doc.due("two of three", x.crowd(), 0);
        Doc.due("and again", x.crowd(), 0);
        x.wipe(1);
        Doc.due("nobody now", x.crowd(), Doc.NONE);
        Doc.typeAll(x, 1, "p1");
        Doc.due("one alone now", x.crowd(), 1);
    }
}
