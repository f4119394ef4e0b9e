import java.math.BigInteger;

/** What was heard, by chance, and years by a seed; promises 20 to 26. */
final class HeardBounds {
    private HeardBounds() {
    }

    static void run() {
        eightHeard();
        heardOfWhom();
        heardMark();
        hearTold();
        forget();
        never();
        whose();
        sort();
        wasTold();
        ask();
        lowestTerms();
        byItself();
        theChance();
        customTold();
        lots();
        yearOfHowMany();
        yearOfNone();
        yearLots();
        yearTold();
    }

    private static void eightHeard() {
        Doc.says(0, "HEARD, 8 at most:");
        AccentShop x = Doc.shop(Doc.TWO, "c0");
        for (int n = 1; n <= 8; n++) {
            Doc.due("the one of number " + n, x.hear(n, 0, 0, 0), n);
        }
        Doc.due("all eight are so", x.was(0, 1), 7);
        Doc.due("a ninth", x.hear(9, 0, 0, 1), Doc.FULL);
        Doc.due("it was not heard", x.count(7), 8);
        Doc.due("all eight are so still", x.was(0, 1), 7);
        AccentShop y = Doc.shop(Doc.TWO, "c0");
        for (int n = 1; n <= 7; n++) {
            y.hear(n, 0, 0, 0);
        }
        Doc.due("an eighth that is not so", y.hear(8, 0, 0, 1), 8);
        Doc.due("is heard", y.was(0, 1), 0);
        AccentShop z = Doc.shop(Doc.TWO, "c0");
        z.hear(8, 0, 0, 1);
        for (int n = 1; n <= 7; n++) {
            z.hear(n, 0, 0, 0);
        }
        Doc.due("the first of eight is not so", z.was(0, 1), 0);
    }

    private static void heardOfWhom() {
        Doc.says(0, "behind a DAY a PERSON (0 to 7; one that there is not: never)");
        AccentShop x = Doc.shop(Doc.TWO, "c0;c0", 9, 1, 1);
        Doc.edges("person", 0, 7, p -> x.hear(0, p, 0, p == 0 ? 0 : 5));
        Doc.due("person 7 is not there", x.was(0, 1), 0);
        Doc.due("person 7 is not there", x.never(), 0);
        for (int p = 0; p < 8; p++) {
            for (int mark = 0; mark <= 9; mark++) {
                AccentShop y = Doc.shop(Doc.TWO, "c0;c0", 9, 1, 1);
                y.hear(8, p, 0, mark);
                boolean so = p < 2 && mark == 0;
                Doc.due("person " + p + " had " + mark, y.was(0, 1), so ? 7 : 0);
                Doc.due("person " + p + " had " + mark, y.never(), so ? 1 : 0);
            }
        }
        AccentShop days = Doc.shop(Doc.TWO, "c0", 5, 0, 1);
        int[] behind = {0, 4, 5, 6, 13, 14, 29};
        int[] marks = {0, 0, 1, 2, 9, 9, 9};
        for (int i = 0; i < behind.length; i++) {
            Doc.due("heard", days.hear(behind[i], 0, 3, marks[i]), 1);
            Doc.due("so behind day " + behind[i], days.was(0, 1) & 2, 2);
            days.forget();
            days.hear(behind[i], 0, 3, marks[i] == 0 ? 1 : marks[i] - 1);
            Doc.due("not so behind day " + behind[i], days.was(0, 1) & 2, 0);
            days.forget();
        }
    }

    private static void heardMark() {
        Doc.says(0, "had for a SOUND a MARK (0 to 9).");
        AccentShop x = Doc.shop("k09876", "c0");
        Doc.edges("mark", 0, 9, mark -> x.hear(0, 0, mark == 0 ? 0 : 1, mark));
        Doc.due("both ends are so", x.was(0, 1), 7);
        x.forget();
        Doc.edges("sound", 0, 4, s -> x.hear(0, 0, s, s == 0 ? 0 : 6));
        Doc.due("both ends are so", x.was(0, 1), 7);
        for (int s = 0; s < 5; s++) {
            for (int mark = 0; mark <= 9; mark++) {
                x.forget();
                x.hear(29, 0, s, mark);
                Doc.due("sound " + s + " mark " + mark, x.was(0, 1), "09876".charAt(s) - '0' == mark ? 7 : 0);
            }
        }
    }

    private static void hearTold() {
        Doc.says(20, "HEARD more: how many.");
        AccentShop x = new AccentShop();
        for (int n = 1; n <= 8; n++) {
            Doc.due("hear", x.hear(29, 7, 4, 9), n);
            Doc.due("count(7)", x.count(7), n);
        }
        Doc.says(20, "BAD; FULL.");
        Doc.due("a ninth", x.hear(0, 0, 0, 0), Doc.FULL);
        Doc.due("a ninth that may not be", x.hear(30, 0, 0, 0), Doc.BAD);
        Doc.due("a ninth that may not be", x.hear(0, 8, 0, 0), Doc.BAD);
        Doc.due("a ninth that may not be", x.hear(0, 0, 5, 0), Doc.BAD);
        Doc.due("a ninth that may not be", x.hear(0, 0, 0, 10), Doc.BAD);
        AccentShop y = new AccentShop();
        Doc.edges("day", 0, 29, day -> y.hear(day, 0, 0, 0));
        Doc.edges("person", 0, 7, p -> y.hear(0, p, 0, 0));
        Doc.edges("sound", 0, 4, s -> y.hear(0, 0, s, 0));
        Doc.edges("mark", 0, 9, mark -> y.hear(0, 0, 0, mark));
        Doc.due("eight were heard", y.count(7), 8);
    }

    private static void forget() {
        Doc.says(21, "All that was HEARD is forgotten: how many.");
        for (int n = 0; n <= 8; n++) {
            AccentShop x = Doc.shop(Doc.TWO, "c0", 0, 0, 1);
            for (int k = 0; k < n; k++) {
                x.hear(0, 0, 0, 5);
            }
            Doc.due("any sort, of " + n, x.was(0, 1), n == 0 ? 7 : 0);
            Doc.due("forget of " + n, x.forget(), n);
            Doc.due("none is left", x.count(7), 0);
            Doc.due("any sort now", x.was(0, 1), 7);
            Doc.due("forget of none", x.forget(), 0);
            Doc.due("one more", x.hear(0, 0, 0, 1), 1);
        }
    }

    private static void never() {
        Doc.says(0, "NEVER: HIRINGS each of which, had it alone not been, makes all that was HEARD come out so, as bits.");
        Doc.due("no hirings", Doc.shop(Doc.TWO, "c0").never(), 0);
        AccentShop eight = Doc.shop(Doc.TWO, "c0");
        for (int n = 1; n <= 8; n++) {
            eight.hire(0, 7, 0);
            Doc.due("nothing was heard, of " + n, eight.never(), (1 << n) - 1);
        }
        for (int k = 0; k < 8; k++) {
            AccentShop x = Doc.shop(Doc.TWO, "c0");
            for (int i = 0; i < 8; i++) {
                x.hire(3, i == k ? 0 : 7, 1);
            }
            x.hear(3, 0, 0, 0);
            Doc.due("the one of number " + k, x.never(), 1 << k);
            x.hear(2, 0, 0, 0);
            Doc.due("and another thing heard", x.never(), 1 << k);
            x.hear(3, 0, 0, 1);
            Doc.due("all that was heard", x.never(), 0);
            x.forget();
            x.hear(3, 0, 0, 1);
            Doc.due("any but that", x.never(), 255 - (1 << k));
        }
        AccentShop two = Doc.shop(Doc.TWO, "c0", 0, 0, 1, 0, 0, 1);
        two.hear(0, 0, 0, 0);
        Doc.due("not each alone, but both", two.never(), 0);
        two.back();
        Doc.due("one alone", two.never(), 1);
        Doc.says(22, "NEVER, as bits.");
        two.hire(1, 0, 0);
        two.forget();
        two.hear(1, 0, 0, 2);
        Doc.due("the second", two.never(), 2);
        Doc.due("both are told", two.count(4), 2);
    }

    private static void whose() {
        Doc.says(0, "WHOSE of a PERSON: ACCENTS (0 to 7) as its OWN, in place of that told, likewise, as bits.");
        Doc.due("nothing was heard, nothing is there", Doc.shop("", "p0").was(0, 0), 255);
        for (int n = 0; n <= 8; n++) {
            for (int mark = 0; mark <= 9; mark++) {
                AccentShop x = Doc.shop(n == 0 ? "" : Doc.EIGHT.substring(0, 7 * n - 1), "p0;p1");
                x.hear(29, 0, 0, mark);
                int due = mark < n ? 1 << mark : 0;
                due |= mark == 5 ? 255 >> n << n : 0;
                Doc.due("of " + n + " it had " + mark, x.was(0, 0), due);
            }
        }
        AccentShop y = Doc.shop(Doc.TWO, "c0;c1", 0, 0, 1);
        y.hear(0, 0, 0, 1);
        Doc.due("as told", y.was(0, 0), 1);
        Doc.due("as told, the other has any", y.was(1, 0), 255);
        y.hear(29, 1, 0, 9);
        Doc.due("all that was heard", y.was(0, 0), 1);
        Doc.due("all that was heard", y.was(1, 0), 2);
        y.hear(29, 1, 0, 8);
        Doc.due("all that was heard", y.was(0, 0), 0);
        Doc.due("as it was told", y.person(0, 1), 0);
    }

    private static void sort() {
        Doc.says(0, "SORT of a PERSON: 0 p, 1 c, 2 l, in place of its own, likewise, as bits.");
        for (String one : new String[] {"p0", "c0", "l0"}) {
            AccentShop x = Doc.shop(Doc.TWO, one, 0, 0, 1);
            Doc.due("nothing was heard", x.was(0, 1), 7);
            x.hear(1, 0, 1, 1);
            Doc.due("plain", x.was(0, 1), 1);
            x.forget();
            x.hear(0, 0, 4, 1);
            Doc.due("a child", x.was(0, 1), 2);
            x.forget();
            x.hear(1, 0, 1, 0);
            Doc.due("a lord", x.was(0, 1), 4);
            x.forget();
            x.hear(0, 0, 0, 1);
            Doc.due("any", x.was(0, 1), 7);
            x.hear(0, 0, 4, 0);
            Doc.due("no child", x.was(0, 1), 5);
            x.hear(0, 0, 4, 1);
            Doc.due("none", x.was(0, 1), 0);
        }
    }

    private static void wasTold() {
        AccentShop x = Doc.shop(Doc.TWO, "c0;c1");
        Doc.says(23, "WHOSE (what = 0), SORT (1), as bits.");
        Doc.due("whose", x.was(1, 0), 255);
        Doc.due("sort", x.was(1, 1), 7);
        x.hear(0, 1, 0, 9);
        Doc.due("whose", x.was(1, 0), 2);
        Doc.due("sort", x.was(1, 1), 7);
        Doc.says(23, "BAD.");
        Doc.edges("person", 0, 1, p -> x.was(p, 0));
        Doc.edges("what", 0, 1, what -> x.was(0, what));
        AccentShop eight = Doc.shop("", Doc.EVERYBODY);
        Doc.edges("person of eight", 0, 7, p -> eight.was(p, 1));
        Doc.due("nobody", Doc.shop(Doc.TWO, "").was(0, 0), Doc.BAD);
    }

    /** Two accents of WHOSE that are taken alike but on the third day behind that of the last hiring. */
    private static AccentShop toldApart(int day) {
        AccentShop x = Doc.shop("k00000;k11100;k99970", "c0", 0, 0, 2, 1, 0, 7, day, 0, 2);
        x.hear(0, 0, 3, 1);
        return x;
    }

    /** ASK of one who is alone, with each of WHOSE told in its turn. */
    private static int askByPeopleTold(AccentShop x, char sort) {
        int best = Doc.NONE;
        int least = 9;
        int whose = x.was(0, 0);
        for (int day = 0; day < 30; day++) {
            int[] alike = new int[9];
            int most = 0;
            for (int own = 0; own < 8; own++) {
                if ((whose >> own & 1) == 1) {
                    x.wipe(1);
                    Doc.typeAll(x, 1, "" + sort + own);
                    most = Math.max(most, ++alike[1 + x.at(day, 0, 6)]);
                }
            }
            if (most < least) {
                least = most;
                best = day;
            }
        }
        return best;
    }

    private static void ask() {
        Doc.says(0, "ASK of a PERSON: the DAY behind which the greatest number of ACCENTS of WHOSE by which it is TAKEN "
                + "alike is least,");
        for (int day : new int[] {24, 25, 26, 27}) {
            Doc.due("two of whose", toldApart(day).was(0, 0), 3);
            Doc.due("told apart two days behind " + day, toldApart(day).ask(0), day + 2);
            Doc.due("by people told", askByPeopleTold(toldApart(day), 'c'), day + 2);
        }
        AccentShop second = Doc.shop("y39010;k38010;y30000", "p1", 0, 0, 2, 1, 0, 0);
        second.hear(0, 0, 3, 1);
        Doc.due("on the second day", second.ask(0), 1);
        Doc.due("by people told", askByPeopleTold(second, 'p'), 1);
        AccentShop eighth = Doc.shop("y02000;k90000;k90000;k90000;k90000;k90000;k90000;k02000", "p2");
        eighth.hear(0, 0, 1, 2);
        Doc.due("the first and the eighth of whose", eighth.was(0, 0), 129);
        Doc.due("alike until the first goes on in its drawer", eighth.ask(0), 6);
        AccentShop three = Doc.shop("y00000;k90000;k00000", "p2");
        three.hear(0, 0, 1, 0);
        Doc.due("three of whose", three.was(0, 0), 7);
        Doc.due("two of them alike, then none", three.ask(0), 6);
        Doc.says(0, "alike is least, of like ones the least.");
        Doc.due("never told apart", toldApart(28).ask(0), 0);
        Doc.due("never told apart", toldApart(29).ask(0), 0);
        Doc.due("always told apart", Doc.shop(Doc.EIGHT, "p0").ask(0), 0);
        AccentShop none = Doc.shop(Doc.TWO, "c0");
        none.hear(0, 0, 0, 1);
        Doc.due("none of whose", none.was(0, 0), 0);
        Doc.due("none of whose", none.ask(0), 0);
        AccentShop empty = Doc.shop("", "c0");
        Doc.due("no accents", empty.ask(0), 0);
        Doc.due("nor when it is asked again", empty.ask(0), 0);
        AccentShop again = toldApart(27);
        Doc.due("told apart on the last day", again.ask(0), 29);
        Doc.due("and when it is asked again", again.ask(0), 29);
        again.back();
        Doc.due("not without the last hiring", again.ask(0), 0);
        Doc.says(24, "ASK.");
        AccentShop x = Doc.shop("k00000;k11100;k99970", "p0;c0", 0, 1, 2, 1, 1, 7, 27, 1, 2);
        x.hear(0, 1, 3, 1);
        Doc.due("of the second", x.ask(1), 29);
        Doc.due("of the first", x.ask(0), 0);
        Doc.due("as it was told", x.person(1, 1), 0);
        Doc.says(24, "BAD.");
        Doc.edges("person", 0, 1, x::ask);
        Doc.due("nobody", Doc.shop(Doc.TWO, "").ask(0), Doc.BAD);
    }

    private static String chance(AccentShop x, int c, int person) {
        return x.custom(c, person, 0) + "/" + x.custom(c, person, 1);
    }

    private static void lowestTerms() {
        Doc.says(0, "FRACTIONS are told in lowest terms, above and below");
        String[] due = {"0/1", "1/16", "1/8", "3/16", "1/4", "5/16", "3/8", "7/16", "1/2", "9/16", "5/8", "11/16", "3/4",
            "13/16", "7/8", "15/16", "1/1"};
        AccentShop x = Doc.shop(Doc.TWO, "c0", 0, 0, 1);
        for (int c = 0; c <= 16; c++) {
            Doc.due(c + " sixteenths", chance(x, c, 0), due[c]);
        }
        Doc.says(0, "(0 by 1).");
        for (int n = 0; n <= 8; n++) {
            AccentShop home = Doc.shop(Doc.TWO, "c0");
            AccentShop lost = Doc.shop(Doc.TWO, "c7");
            for (int k = 0; k < n; k++) {
                home.hire(26, 0, 1);
                lost.hire(26, 0, 1);
            }
            for (int c : new int[] {0, 1, 8, 15, 16}) {
                Doc.due("never, by " + n + " hirings", chance(home, c, 0), "0/1");
                Doc.due("always, by " + n + " hirings", chance(lost, c, 0), "1/1");
            }
        }
    }

    /** One of n hirings is enough to be lost: above and below, by great numbers. */
    private static String oneOf(int n, int c) {
        BigInteger below = BigInteger.valueOf(16).pow(n);
        BigInteger above = below.subtract(BigInteger.valueOf(16 - c).pow(n));
        BigInteger common = above.signum() == 0 ? below : above.gcd(below);
        return above.divide(common) + "/" + below.divide(common);
    }

    private static void byItself() {
        Doc.says(0, "CUSTOM: each of HIRINGS is by c sixteenths (0 to 16), by itself:");
        for (int n = 0; n <= 8; n++) {
            AccentShop x = Doc.shop(Doc.TWO, "c0");
            for (int k = 0; k < n; k++) {
                x.hire(k, 0, 1);
            }
            for (int c = 0; c <= 16; c++) {
                Doc.due("one of " + n + " by " + c, chance(x, c, 0), oneOf(n, c));
            }
        }
        Doc.due("as many as can be below", oneOf(8, 1), "1732076671/4294967296");
        AccentShop x = Doc.shop(Doc.TWO, "c0", 0, 0, 1);
        Doc.edges("c", 0, 16, Doc.LONG_BAD, c -> x.custom(c, 0, 0));
    }

    private static void theChance() {
        Doc.says(0, "the chance that a PERSON is ASTRAY: a FRACTION.");
        AccentShop x = Doc.shop(Doc.TWO, "c0;c0;c7", 0, 0, 1, 9, 0, 0, 25, 1, 1);
        Doc.due("out and not back", chance(x, 4, 0), "3/16");
        Doc.due("out and not back", chance(x, 1, 0), "15/256");
        Doc.due("out by the last day", chance(x, 4, 1), "1/4");
        Doc.due("lost whatever is hired", chance(x, 4, 2), "1/1");
        x.back();
        x.hire(26, 1, 1);
        Doc.due("a day too late", chance(x, 4, 1), "0/1");
        Doc.due("taken for none", chance(Doc.shop("", "c0", 0, 0, 1), 8, 0), "0/1");
    }

    private static void customTold() {
        AccentShop x = Doc.shop(Doc.TWO, "c0;c1", 0, 1, 0);
        Doc.says(25, "CUSTOM: above, below.");
        Doc.due("above", x.custom(6, 1, 0), 3);
        Doc.due("below", x.custom(6, 1, 1), 8);
        Doc.says(25, "BAD. (As the least long.)");
        Doc.edges("c", 0, 16, Doc.LONG_BAD, c -> x.custom(c, 0, 0));
        Doc.edges("person", 0, 1, Doc.LONG_BAD, p -> x.custom(0, p, 0));
        Doc.edges("what", 0, 1, Doc.LONG_BAD, what -> x.custom(0, 0, what));
        Doc.due("nobody", Doc.shop(Doc.TWO, "").custom(0, 0, 1), Doc.LONG_BAD);
    }

    /** LOTS by the document's words, with numbers that wrap only where they are told to. */
    private static int[] lots(int seed, int n, int people, int accents) {
        BigInteger round = BigInteger.ONE.shiftLeft(32);
        BigInteger s = BigInteger.valueOf(seed).mod(round);
        int[] drawn = new int[3 * n];
        for (int i = 0; i < drawn.length; i++) {
            s = s.multiply(BigInteger.valueOf(1103515245)).add(BigInteger.valueOf(12345)).mod(round);
            int of = i % 3 == 0 ? 30 : i % 3 == 1 ? people : accents;
            drawn[i] = s.shiftRight(16).mod(BigInteger.valueOf(of)).intValue();
        }
        return drawn;
    }

    private static void dueYear(AccentShop x, String accents, String people, int seed, int n) {
        int[] drawn = lots(seed, n, (people.length() + 1) / 3, (accents.length() + 1) / 7);
        AccentShop told = Doc.shop(accents, people, drawn);
        Doc.due("astray by " + seed + ", of " + n, x.year(seed, n, 0), told.count(5));
        Doc.due("another by " + seed + ", of " + n, x.year(seed, n, 1), told.count(6));
    }

    private static void lots() {
        String accents = "k00000;k33333;k66666;k99999;k05050";
        String people = "c0;p1;l3;c2;c4;p0;c1";
        Doc.says(0, "LOTS of m: SEED becomes 1103515245 SEED and 12345, as ints that wrap;");
        AccentShop x = Doc.shop(accents, people);
        for (int seed : new int[] {0, 1, 2, -1, Doc.MOST, Doc.LEAST, Doc.MOST - 1, Doc.LEAST + 1, 1 << 16, -(1 << 16)}) {
            for (int n = 1; n <= 8; n++) {
                dueYear(x, accents, people, seed, n);
            }
        }
        Doc.says(0, "its upper 16 bits as a number from 0 on, modulo m.");
        int below = 0;
        int above = 0;
        for (int seed = 0; seed < 40; seed++) {
            int next = 1103515245 * seed + 12345;
            below += next < 0 ? 1 : 0;
            above += next >= 0 ? 1 : 0;
            AccentShop one = Doc.shop(Doc.TWO, "c0");
            dueYear(one, Doc.TWO, "c0", seed, 1);
        }
        Doc.due("seeds with the highest bit and without it", below > 9 && above > 9 ? 1 : 0, 1);
    }

    private static void yearOfHowMany() {
        Doc.says(0, "YEAR by a SEED: n HIRINGS (0 to 8), in place of those told");
        AccentShop x = Doc.shop(Doc.TWO, "c0;c1;c0", 0, 0, 1, 0, 1, 0, 0, 2, 1);
        Doc.edges("n", 0, 8, n -> x.year(3, n, 0));
        Doc.due("none, in place of three", x.year(3, 0, 0), 0);
        Doc.due("none, in place of three", x.year(3, 0, 1), 0);
        for (int n = 0; n <= 8; n++) {
            dueYear(x, Doc.TWO, "c0;c1;c0", 77, n);
            dueYear(x, Doc.TWO, "c0;c1;c0", 78, n);
        }
        Doc.due("three are told still", x.count(4), 3);
        Doc.due("three are told still", x.astray(), 7);
    }

    private static void yearOfNone() {
        Doc.says(0, "(none where there are no PEOPLE, or no ACCENTS):");
        for (int n = 0; n <= 8; n += 4) {
            for (int what = 0; what < 2; what++) {
                Doc.due("no people", Doc.shop(Doc.TWO, "").year(1, n, what), 0);
                Doc.due("no accents", Doc.shop("", "c0;c1").year(1, n, what), 0);
                Doc.due("neither", new AccentShop().year(1, n, what), 0);
                Doc.due("accents with a fault", Doc.shop("k00000;", "c0").year(1, n, what), 0);
            }
        }
        Doc.due("one of each, in its own", Doc.shop("k55555", "c0").year(1, 8, 1), 0);
        Doc.due("one of each, its own not there", Doc.shop("k55555", "c7").year(1, 8, 1), 1);
        Doc.due("without a hiring it becomes none", Doc.shop("k55555", "c7").year(1, 0, 1), 0);
    }

    private static void yearLots() {
        Doc.says(0, "of each a LOT of 30 (its DAY), a LOT of PEOPLE, a LOT of ACCENTS:");
        for (int n = 1; n <= 8; n++) {
            String accents = Doc.EIGHT.substring(0, 7 * n - 1);
            for (int m = 1; m <= 8; m += 3) {
                String people = "c0;c7;c3;c1;c2;c5;c6;c4".substring(0, 3 * m - 1);
                AccentShop x = Doc.shop(accents, people);
                dueYear(x, accents, people, 40 * n + m, 8);
                dueYear(x, accents, people, -40 * n - m, 3);
            }
        }
    }

    private static void yearTold() {
        Doc.says(0, "how many are ASTRAY; how many BECOME another.");
        AccentShop lost = Doc.shop(Doc.TWO, "p2;p3;p4;p5;p6;p7;p2;p3");
        Doc.due("all are astray", lost.year(5, 0, 0), 8);
        Doc.due("none becomes another", lost.year(5, 0, 1), 0);
        Doc.says(26, "YEAR: how many are ASTRAY (what = 0), BECOME another (1).");
        AccentShop like = Doc.shop("k00000;k00000", "p1");
        Doc.due("astray", like.year(0, 0, 0), 1);
        Doc.due("another", like.year(0, 0, 1), 0);
        int seed = 0;
        for (int i = 0; i < 100 && lots(i, 1, 1, 2)[2] == 1; i++) {
            seed = i + 1;
        }
        Doc.due("another, in the first", like.year(seed, 1, 1), 1);
        Doc.due("astray, in the first", like.year(seed, 1, 0), 1);
        Doc.says(26, "BAD.");
        Doc.edges("n", 0, 8, n -> like.year(0, n, 0));
        Doc.edges("what", 0, 1, what -> like.year(0, 0, what));
        Doc.dueNot("any seed", like.year(Doc.LEAST, 8, 0), Doc.BAD);
        Doc.dueNot("any seed", like.year(Doc.MOST, 8, 0), Doc.BAD);
    }
}
