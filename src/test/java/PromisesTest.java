import java.math.BigInteger;

/** Promise by promise: ordinary inputs, the edges that the document names, wrong inputs; answers reckoned by hand, a few by ModelTest's model. */
public final class PromisesTest {
    private static final int NONE = -1, BAD = -2, NOT = -3, FULL = -4;
    private static final int NULL = -11, INDEX = -12, CAST = -13, STORE = -14, SIZE = -15;
    private static final int LEAST = Integer.MIN_VALUE;
    private static final long LONG_BAD = Long.MIN_VALUE + 2;
    private static final String TWO = "k00000;k99999";
    private static final String EIGHT = "k00000;k11111;k22222;k33333;k44444;k55555;k66666;k77777";

    private static int promise = 0;
    private static int checks = 0;
    private static int wrong = 0;

    public static void main(String[] args) {
        promise = 1; newObject();
        promise = 2; type();
        promise = 3; wipe();
        promise = 4; undo();
        promise = 5; fault();
        promise = 6; accent();
        promise = 7; person();
        promise = 8; hire();
        promise = 9; back();
        promise = 10; read();
        promise = 11; atSpeech(); atSorts(); atWears(); atTaken(); atRefusals();
        promise = 12; drawerTalks(); drawerWorn(); drawerRefusals();
        promise = 13; becomes();
        promise = 14; astray();
        promise = 15; crowd();
        promise = 16; dress();
        promise = 17; home();
        promise = 18; tray();
        promise = 19; refuse();
        promise = 20; hear();
        promise = 21; forget();
        promise = 22; never();
        promise = 23; was();
        promise = 24; ask();
        promise = 25; custom();
        promise = 26; year();
        promise = 27; sheet();
        promise = 28; lose();
        promise = 29; lay();
        promise = 30; get();
        promise = 31; copy();
        promise = 32; write();
        promise = 33; count();
        promise = 34; digest();
        System.out.println(checks + " checks, " + wrong + " wrong");
        if (wrong != 0) {
            System.exit(1);
        }
    }

    private static void due(String what, long got, long want) {
        checks++;
        if (got != want) {
            wrong++;
            System.out.println("promise " + promise + ": " + what + " answered " + got + ", due is " + want);
        }
    }

    private static AccentShop shop(String accents, String people, int... hirings) {
        AccentShop x = new AccentShop();
        typeAll(x, 0, accents);
        typeAll(x, 1, people);
        for (int i = 0; i + 2 < hirings.length; i += 3) {
            x.hire(hirings[i], hirings[i + 1], hirings[i + 2]);
        }
        return x;
    }

    private static void typeAll(AccentShop x, int text, String bytes) {
        for (int i = 0; i < bytes.length(); i++) {
            x.type(text, bytes.charAt(i));
        }
    }

    private static void layAll(AccentShop x, int s, int form, int... items) {
        for (int i = 0; i < items.length; i++) {
            x.lay(s, form, i, items[i]);
        }
    }

    private static void dueSheet(AccentShop x, int s, int form, int... items) {
        for (int i = 0; i < items.length; i++) {
            due("item " + i + " of sheet " + s, x.get(s, form, i), items[i]);
        }
        due("behind the end of sheet " + s, x.get(s, form, items.length), LEAST);
    }

    private static void dueSpeech(AccentShop x, int day, int person, String marks) {
        for (int s = 0; s < 5; s++) {
            due("at(" + day + ", " + person + ", " + s + ")", x.at(day, person, s), marks.charAt(s) - '0');
        }
    }

    private static void dueMarks(AccentShop x, int day, int accent, String marks) {
        for (int s = 0; s < 5; s++) {
            due("drawer(" + day + ", " + accent + ", " + s + ")", x.drawer(day, accent, s), marks.charAt(s) - '0');
        }
    }

    private static void newObject() {
        AccentShop x = new AccentShop();
        for (int what = 0; what <= 8; what++) {
            due("count(" + what + ")", x.count(what), 0);
        }
        due("back()", x.back(), NOT);
        due("undo(0)", x.undo(0), NOT);
        due("undo(1)", x.undo(1), NOT);
        for (int s = 0; s < 4; s++) {
            due("lose(" + s + ")", x.lose(s), NULL);
        }
        due("another object knows nothing of it", new AccentShop().count(8), 0);
        due("NONE", AccentShop.NONE, NONE);
        due("BAD", AccentShop.BAD, BAD);
        due("NOT", AccentShop.NOT, NOT);
        due("FULL", AccentShop.FULL, FULL);
    }

    private static void type() {
        AccentShop x = new AccentShop();
        due("type(0, 0)", x.type(0, 0), 1);
        due("type(0, 255)", x.type(0, 255), 2);
        due("type(1, 255)", x.type(1, 255), 1);
        due("text below", x.type(-1, 'k'), BAD);
        due("text above", x.type(2, 'k'), BAD);
        due("byte below", x.type(0, -1), BAD);
        due("byte above", x.type(0, 256), BAD);
        due("refused bytes are not there", x.count(2), 2);
        AccentShop y = shop(EIGHT, "p0;p1;p2;p3;p4;p5;p6;p7");
        due("55 bytes", y.count(2), 55);
        due("23 bytes", y.count(3), 23);
        due("a 56th", y.type(0, ';'), FULL);
        due("a 24th", y.type(1, ';'), FULL);
        due("wrong ahead of full", y.type(0, 256), BAD);
        due("still eight", y.count(0), 8);
        due("still eight", y.count(1), 8);
        due("the last one", y.accent(7, 5), 7);
        AccentShop z = shop(TWO, "c0", 0, 0, 1);
        due("taken for 1", z.at(29, 0, 6), 1);
        z.type(0, ';');
        due("no accents now", z.at(29, 0, 6), NONE);
        typeAll(z, 0, "k00000");
        due("accents again", z.at(29, 0, 6), 1);
        due("hirings stay", z.count(4), 1);
    }

    private static void wipe() {
        AccentShop x = shop(TWO, "c0;p1", 1, 1, 1);
        x.hear(0, 0, 0, 0);
        due("wipe(-1)", x.wipe(-1), BAD);
        due("wipe(2)", x.wipe(2), BAD);
        due("wipe(0)", x.wipe(0), 13);
        due("wipe(0) again", x.wipe(0), 0);
        due("no accents", x.count(0), 0);
        due("people stay", x.count(1), 2);
        due("wipe(1)", x.wipe(1), 5);
        due("no people", x.count(1), 0);
        due("well", x.fault(1), NONE);
        due("hirings stay", x.count(4), 1);
        due("heard stays", x.count(7), 1);
        due("typed anew", x.type(0, 'g'), 1);
    }

    private static void undo() {
        AccentShop x = shop("k12345;", "p0;c");
        due("undo(-1)", x.undo(-1), BAD);
        due("undo(2)", x.undo(2), BAD);
        due("no accent", x.count(0), 0);
        due("undo(0)", x.undo(0), 6);
        due("an accent", x.accent(0, 5), 5);
        due("undo(1)", x.undo(1), 3);
        due("undo(1)", x.undo(1), 2);
        due("a person", x.person(0, 1), 0);
        due("undo(1)", x.undo(1), 1);
        due("undo(1)", x.undo(1), 0);
        due("undo(1) of nothing", x.undo(1), NOT);
        due("still nothing", x.count(3), 0);
    }

    private static void dueFault(int text, String bytes, int want) {
        AccentShop x = new AccentShop();
        typeAll(x, text, bytes);
        due("fault(" + text + ") of " + bytes, x.fault(text), want);
    }

    private static void fault() {
        due("fault(-1)", new AccentShop().fault(-1), BAD);
        due("fault(2)", new AccentShop().fault(2), BAD);
        dueFault(0, "", NONE);
        dueFault(0, "k01289", NONE);
        dueFault(0, "y00000;g99999", NONE);
        dueFault(0, EIGHT, NONE);
        dueFault(0, "k", 1);
        dueFault(0, "k0128", 5);
        dueFault(0, "k01289;", 7);
        dueFault(0, "k01289;;", 7);
        dueFault(0, ";", 0);
        dueFault(0, "p00000", 0);
        dueFault(0, "K00000", 0);
        dueFault(0, "k/0000", 1);
        dueFault(0, "k0000:", 5);
        dueFault(0, "k0000;", 5);
        dueFault(0, "k000000", 6);
        dueFault(0, "k00000k", 6);
        dueFault(0, "k00000;y0000x;", 12);
        dueFault(0, EIGHT.substring(0, 54), 54);
        dueFault(0, "" + (char) 0, 0);
        dueFault(0, "" + (char) 235, 0);
        dueFault(1, "", NONE);
        dueFault(1, "p0;c7;l3", NONE);
        dueFault(1, "p0;p1;p2;p3;p4;p5;p6;p7", NONE);
        dueFault(1, "p", 1);
        dueFault(1, "p8", 1);
        dueFault(1, "p/", 1);
        dueFault(1, "k0", 0);
        dueFault(1, "p00", 2);
        dueFault(1, "p0;", 3);
        dueFault(1, "p0;l", 4);
        dueFault(1, "p0,c1", 2);
    }

    private static void accent() {
        AccentShop x = shop("k01234;y56789;g90909", "");
        for (int a = 0; a < 3; a++) {
            due("sort", x.accent(a, 0), a);
            for (int s = 1; s <= 5; s++) {
                due("mark", x.accent(a, s), "k01234;y56789;g90909".charAt(a * 7 + s) - '0');
            }
        }
        due("accent(-1, 0)", x.accent(-1, 0), BAD);
        due("accent(3, 0)", x.accent(3, 0), BAD);
        due("accent(0, -1)", x.accent(0, -1), BAD);
        due("accent(0, 6)", x.accent(0, 6), BAD);
        x.at(29, 0, 0);
        x.drawer(29, 1, 1);
        due("as told, whatever it says later", x.accent(1, 1), 5);
        x.type(0, 'x');
        due("with a fault there are none", x.accent(0, 0), BAD);
    }

    private static void person() {
        AccentShop x = shop("", "p7;c0;l3");
        int[] owns = {7, 0, 3};
        for (int p = 0; p < 3; p++) {
            due("sort", x.person(p, 0), p);
            due("own", x.person(p, 1), owns[p]);
        }
        due("person(-1, 0)", x.person(-1, 0), BAD);
        due("person(3, 0)", x.person(3, 0), BAD);
        due("person(0, -1)", x.person(0, -1), BAD);
        due("person(0, 2)", x.person(0, 2), BAD);
        x.type(1, ';');
        due("with a fault there are none", x.person(0, 0), BAD);
    }

    private static void hire() {
        AccentShop x = shop(TWO, "c0");
        due("day below", x.hire(-1, 0, 0), BAD);
        due("day above", x.hire(30, 0, 0), BAD);
        due("person below", x.hire(0, -1, 0), BAD);
        due("person above", x.hire(0, 8, 0), BAD);
        due("accent below", x.hire(0, 0, -1), BAD);
        due("accent above", x.hire(0, 0, 8), BAD);
        due("none is there", x.count(4), 0);
        due("one of neither that is there", x.hire(29, 7, 7), 1);
        for (int k = 2; k <= 8; k++) {
            due("hire", x.hire(0, 0, 1), k);
        }
        due("a ninth", x.hire(0, 0, 1), FULL);
        due("wrong ahead of full", x.hire(30, 0, 1), BAD);
        due("still eight", x.count(4), 8);
        due("it is done", x.at(0, 0, 5), 1);
        AccentShop y = shop(TWO, "c0");
        due("in its own", y.at(29, 0, 6), 0);
        y.hire(0, 0, 1);
        due("out of it", y.at(29, 0, 6), 1);
    }

    private static void back() {
        AccentShop x = shop(TWO, "c0", 0, 0, 1, 9, 0, 0);
        due("home again", x.at(29, 0, 6), 0);
        due("back()", x.back(), 1);
        due("not home", x.at(29, 0, 6), 1);
        due("back()", x.back(), 0);
        due("never out", x.at(5, 0, 5), 0);
        due("back()", x.back(), NOT);
        due("still none", x.count(4), 0);
    }

    private static void read() {
        readRefusals();
        readComesBehindThoseTold();
        readStopsAtOneThatMayNotBe();
        readStopsAtEight();
    }

    private static void readRefusals() {
        AccentShop x = shop(TWO, "c0", 3, 0, 1, 4, 0, 1);
        due("read(-1)", x.read(-1), BAD);
        due("read(4)", x.read(4), BAD);
        due("BAD is no finding", x.count(8), 0);
        due("read of a lost sheet", x.read(0), NULL);
        due("the finding", x.count(8), 1);
        due("hirings stay", x.count(4), 2);
        due("hirings stay", x.at(3, 0, 5), 1);
    }

    private static void readComesBehindThoseTold() {
        AccentShop x = shop(TWO, "c0", 3, 0, 1, 15, 0, 0);
        due("home by those told", x.at(29, 0, 5), 0);
        due("home by those told", x.astray(), 0);
        due("home by those told", x.custom(16, 0, 0), 0);
        x.sheet(0, 1, 8);
        layAll(x, 0, 1, 29, 7, 7, 15, 0, 1, 0, 0);
        due("two whole ones", x.read(0), 2);
        due("with the two told", x.count(4), 4);
        due("nothing is kept from before", x.at(29, 0, 5), 1);
        due("nothing is kept from before", x.astray(), 1);
        due("nothing is kept from before", x.custom(16, 0, 0), 1);
        due("those told stay", x.at(2, 0, 5), 0);
        due("those told stay", x.at(3, 0, 5), 1);
        due("behind those of the same day", x.at(15, 0, 5), 1);
        due("out of its own", x.at(29, 0, 6), 1);
        due("the last one read is undone", x.back(), 3);
        due("and the one told is done again", x.at(15, 0, 5), 0);
        x.sheet(1, 0, 0);
        due("an empty one", x.read(1), 0);
        due("an empty one", x.count(4), 3);
        x.sheet(1, 2, 2);
        due("none whole", x.read(1), 0);
        due("none whole", x.count(4), 3);
        x.sheet(1, 0, 3);
        layAll(x, 1, 0, 27, 0, 1);
        due("one, and no more items", x.read(1), 1);
        due("one, and no more items", x.count(4), 4);
        due("the same again", x.read(1), 1);
        due("the same again", x.count(4), 5);
        for (int left = 4; left >= 0; left--) {
            due("back", x.back(), left);
        }
        due("none is left", x.back(), NOT);
    }

    private static void readStopsAtOneThatMayNotBe() {
        AccentShop x = shop(TWO, "c0", 0, 0, 0);
        x.sheet(1, 0, 12);
        layAll(x, 1, 0, 1, 0, 1, 2, -1, 0, 3, 0, 1);
        due("as long as each may be", x.read(1), 1);
        due("as long as each may be", x.count(4), 2);
        for (int[] bad : new int[][] {{30, 0, 0}, {-1, 0, 0}, {0, 8, 0}, {0, -1, 0}, {0, 0, 8}, {0, 0, -1}}) {
            AccentShop y = shop(TWO, "c0", 0, 0, 0);
            y.sheet(2, 2, 9);
            layAll(y, 2, 2, 0, 0, 0, bad[0], bad[1], bad[2], 5, 0, 1);
            due("one of three", y.read(2), 1);
            due("one of three", y.count(4), 2);
            y.sheet(2, 2, 6);
            layAll(y, 2, 2, bad[0], bad[1], bad[2], 5, 0, 1);
            due("none of two", y.read(2), 0);
            due("none of two", y.count(4), 2);
        }
    }

    private static void readStopsAtEight() {
        AccentShop x = shop(TWO, "c0");
        x.sheet(3, 2, 60);
        due("eight at most", x.read(3), 8);
        due("eight at most", x.count(4), 8);
        due("no more", x.hire(0, 0, 0), FULL);
        due("none more, and not FULL", x.read(3), 0);
        due("none more", x.count(4), 8);
        due("no finding", x.count(8), 0);
        due("back", x.back(), 7);
        due("back", x.back(), 6);
        layAll(x, 3, 2, 9, 0, 1, 9, 0, 0, 9, 0, 1);
        due("room for two", x.read(3), 2);
        due("eight again", x.count(4), 8);
        due("the third did not come", x.at(9, 0, 5), 0);
        due("the second undone", x.back(), 7);
        due("the first came", x.at(9, 0, 5), 1);
        x.sheet(3, 0, 3);
        layAll(x, 3, 0, 30, 0, 0);
        due("room, but it may not be", x.read(3), 0);
        due("seven still", x.count(4), 7);
    }

    private static void atSpeech() {
        AccentShop x = shop("k00000;k03050", "p0", 0, 0, 1);
        String[] days = {"00010", "00020", "01020", "01030", "02030", "02040", "03040", "03050", "03050"};
        for (int day = 0; day < days.length; day++) {
            dueSpeech(x, day, 0, days[day]);
        }
        dueSpeech(x, 29, 0, "03050");
        dueSpeech(x, 3, 0, "01030");
        AccentShop away = shop("k10000", "p5;c7;l3");
        dueSpeech(away, 0, 0, "55555");
        dueSpeech(away, 29, 1, "55555");
        dueSpeech(away, 29, 2, "55555");
        AccentShop none = shop("", "p0");
        dueSpeech(none, 29, 0, "55555");
        AccentShop gone = shop(TWO, "c0", 0, 0, 1, 3, 0, 6);
        dueSpeech(gone, 2, 0, "33333");
        dueSpeech(gone, 29, 0, "33333");
        AccentShop drifted = shop("y00000;k90000;k55555", "c2", 7, 0, 0);
        dueSpeech(drifted, 13, 0, "10000");
    }

    private static void atSorts() {
        AccentShop x = shop("k00000;k03050", "c0;l0;p0", 1, 0, 1, 1, 1, 1, 1, 2, 1);
        dueSpeech(x, 0, 0, "00000");
        dueSpeech(x, 1, 0, "01010");
        dueSpeech(x, 3, 0, "03030");
        dueSpeech(x, 4, 0, "03040");
        dueSpeech(x, 5, 0, "03050");
        dueSpeech(x, 6, 0, "03050");
        dueSpeech(x, 1, 1, "00000");
        dueSpeech(x, 2, 1, "00010");
        dueSpeech(x, 3, 1, "00010");
        dueSpeech(x, 6, 1, "01020");
        dueSpeech(x, 16, 1, "03050");
        dueSpeech(x, 15, 1, "03040");
        dueSpeech(x, 8, 2, "03050");
        dueSpeech(x, 7, 2, "03040");
        AccentShop lord = shop(TWO, "l0", 0, 0, 1);
        dueSpeech(lord, 0, 0, "10000");
        dueSpeech(lord, 1, 0, "10000");
        AccentShop down = shop("k97531;k00000", "c0;p0;l0", 0, 0, 1, 0, 1, 1, 0, 2, 1);
        dueSpeech(down, 2, 0, "64200");
        dueSpeech(down, 2, 1, "67531");
        dueSpeech(down, 3, 2, "77531");
    }

    private static void atWears() {
        AccentShop x = shop(TWO, "c0;c1", 9, 0, 1, 4, 0, 7, 4, 0, 1, 4, 0, 5, 3, 7, 0, 9, 1, 0);
        due("its own at first", x.at(3, 0, 5), 0);
        due("the last of that day", x.at(4, 0, 5), 5);
        due("until the next", x.at(8, 0, 5), 5);
        due("by days, not as told", x.at(9, 0, 5), 1);
        due("the other's own", x.at(8, 1, 5), 1);
        due("the other's", x.at(29, 1, 5), 0);
        AccentShop y = shop(TWO, "c6", 29, 0, 1);
        due("its own that is not there", y.at(28, 0, 5), 6);
        due("on the last day", y.at(29, 0, 5), 1);
    }

    private static void atTaken() {
        AccentShop x = shop("k00000;k03050", "p0", 0, 0, 1);
        due("far 1", x.at(0, 0, 7), 1);
        due("like ones: the least", x.at(3, 0, 6), 0);
        due("far from it", x.at(3, 0, 7), 4);
        due("nearer to the other", x.at(4, 0, 6), 1);
        due("far from that", x.at(4, 0, 7), 3);
        due("not far at all", x.at(7, 0, 7), 0);
        AccentShop none = shop("", "p0");
        due("taken for none", none.at(0, 0, 6), NONE);
        due("far from none", none.at(0, 0, 7), NONE);
        AccentShop drift = shop("g00000;k90000;k10000", "p2");
        due("behind day 5", drift.at(5, 0, 6), 2);
        AccentShop drawers = shop("y00000;k90000;k00000", "p2");
        due("by the marks told", drawers.at(5, 0, 6), 0);
        due("by the marks of that day", drawers.at(6, 0, 6), 2);
    }

    private static void atRefusals() {
        AccentShop x = shop(TWO, "p0");
        due("day below", x.at(-1, 0, 0), BAD);
        due("day above", x.at(30, 0, 0), BAD);
        due("person below", x.at(0, -1, 0), BAD);
        due("person above", x.at(0, 1, 0), BAD);
        due("what below", x.at(0, 0, -1), BAD);
        due("what above", x.at(0, 0, 8), BAD);
    }

    private static void drawerTalks() {
        AccentShop x = shop("y00000;k99999", "");
        dueMarks(x, 5, 0, "00000");
        dueMarks(x, 6, 0, "10000");
        dueMarks(x, 12, 0, "10000");
        dueMarks(x, 13, 0, "11000");
        dueMarks(x, 20, 0, "11100");
        dueMarks(x, 26, 0, "11100");
        dueMarks(x, 27, 0, "11110");
        dueMarks(x, 29, 0, "11110");
        dueMarks(x, 29, 1, "99999");
        dueMarks(x, 0, 0, "00000");
        dueMarks(shop("g99999;k00000", ""), 29, 0, "77779");
        dueMarks(shop("k99999;k00000", ""), 29, 0, "99999");
        dueMarks(shop("g00000;k13101", ""), 29, 0, "12100");
        dueMarks(shop("g55555;k46546", ""), 29, 0, "46545");
        AccentShop chain = shop("g00000;g20000;k00000", "");
        due("the first goes ahead of the next", chain.drawer(6, 0, 0), 2);
        due("then that", chain.drawer(6, 1, 0), 0);
        due("the last stays", chain.drawer(6, 2, 0), 0);
    }

    private static void drawerWorn() {
        AccentShop x = shop("y00000;y99999;y00000;k99999", "c1;c1;p7", 13, 0, 6, 13, 1, 6, 14, 0, 2);
        due("two wear it", x.drawer(0, 1, 5), 2);
        due("nobody", x.drawer(0, 0, 5), 0);
        due("its next is worn", x.drawer(6, 0, 0), 0);
        due("it is worn", x.drawer(6, 1, 0), 9);
        due("not worn", x.drawer(6, 2, 0), 1);
        due("hirings come ahead of talk", x.drawer(13, 0, 1), 1);
        due("hirings come ahead of talk", x.drawer(13, 1, 1), 8);
        due("nobody now", x.drawer(13, 1, 5), 0);
        due("worn from 14 on", x.drawer(14, 2, 5), 1);
        due("its next is worn", x.drawer(20, 1, 2), 9);
        due("worn", x.drawer(20, 2, 2), 0);
        due("not worn, nor its next", x.drawer(20, 0, 2), 1);
        AccentShop eight = shop(EIGHT, "p7;p7;p6");
        due("two wear the eighth", eight.drawer(0, 7, 5), 2);
        due("still two", eight.drawer(29, 7, 5), 2);
        due("one the seventh", eight.drawer(29, 6, 5), 1);
        AccentShop y = shop("y00000;k99999", "p3", 0, 1, 0);
        due("a hiring of nobody is nothing", y.drawer(6, 0, 0), 1);
        due("nobody wears it", y.drawer(6, 0, 5), 0);
    }

    private static void drawerRefusals() {
        AccentShop x = shop(TWO, "p0");
        due("day below", x.drawer(-1, 0, 0), BAD);
        due("day above", x.drawer(30, 0, 0), BAD);
        due("accent below", x.drawer(0, -1, 0), BAD);
        due("accent above", x.drawer(0, 2, 0), BAD);
        due("what below", x.drawer(0, 0, -1), BAD);
        due("what above", x.drawer(0, 0, 6), BAD);
    }

    private static void becomes() {
        AccentShop x = shop("k00000;k03050", "p0;l0;c0;p1", 0, 0, 1, 0, 1, 1, 0, 2, 1);
        due("plain", x.becomes(0), 7);
        due("lord", x.becomes(1), 14);
        due("child", x.becomes(2), 4);
        due("in its own", x.becomes(3), NONE);
        due("becomes(-1)", x.becomes(-1), BAD);
        due("becomes(4)", x.becomes(4), BAD);
        AccentShop like = shop("k00000;k00000", "p0", 3, 0, 1, 4, 0, 0);
        due("one just like it", like.becomes(0), 3);
        AccentShop eight = shop("k00000;k00000", "p0;p0;p0;p0;p0;p0;p0;p0", 0, 7, 1);
        due("on the first day", eight.becomes(7), 0);
        eight.back();
        due("no more", eight.becomes(7), NONE);
        due("not there", shop(TWO, "c0", 0, 0, 5).becomes(0), NONE);
        due("its own is not there", shop("k55555", "c5", 2, 0, 0).becomes(0), 2);
        due("the last day", shop(TWO, "c0", 21, 0, 1).becomes(0), 29);
        due("too late", shop(TWO, "c0", 22, 0, 1).becomes(0), NONE);
        due("the first, though back since", shop(TWO, "c0", 0, 0, 1, 9, 0, 0).becomes(0), 8);
    }

    private static void astray() {
        due("nobody", new AccentShop().astray(), 0);
        due("no accents", shop("", "p0;c1").astray(), 0);
        due("each in its own", shop(TWO, "p0;c1").astray(), 0);
        due("bits", shop(TWO, "c0;c1;c0;c7", 0, 2, 1).astray(), 12);
        due("behind day 29", shop(TWO, "c0", 25, 0, 1).astray(), 1);
        due("behind day 29", shop(TWO, "c0", 26, 0, 1).astray(), 0);
        due("of like ones the least", shop("k00000;k00000", "p0;p1").astray(), 2);
    }

    private static void crowd() {
        due("nobody", new AccentShop().crowd(), NONE);
        due("no people", shop(TWO, "").crowd(), NONE);
        due("no accents", shop("", "p0").crowd(), NONE);
        due("most", shop("k00000;k55555;k99999", "p0;p2;p2").crowd(), 2);
        due("of like ones the least", shop("k00000;k55555;k99999", "p2;p1;p1;p2").crowd(), 1);
        due("behind day 29", shop(TWO, "c0;c1", 0, 0, 1).crowd(), 1);
        due("one alone", shop("k00000;k55555;k99999", "p2").crowd(), 2);
        due("one alone", shop("k00000;k55555;k99999", "p0").crowd(), 0);
        AccentShop x = shop(TWO, "c0;c0;c1");
        due("two of three", x.crowd(), 0);
        x.wipe(1);
        typeAll(x, 1, "c1");
        due("another one alone", x.crowd(), 1);
    }

    private static void dress() {
        AccentShop x = shop("k00000;k99999;k55555", "c0;c1", 28, 1, 1);
        due("the one told", x.dress(0, 1, 0, 0), 1);
        due("not far", x.dress(0, 1, 0, 1), 0);
        due("of like ones the least", x.dress(0, 2, 27, 0), 1);
        due("how far", x.dress(0, 2, 27, 1), 10);
        due("the last day", x.dress(0, 1, 29, 0), 1);
        due("the last day", x.dress(0, 1, 29, 1), 40);
        due("to stay", x.dress(0, 0, 29, 0), 0);
        due("a later hiring comes still", x.dress(1, 0, 0, 1), 10);
        due("not there", x.dress(0, 3, 0, 0), NONE);
        due("not there", x.dress(0, 7, 0, 1), NONE);
        due("person below", x.dress(-1, 0, 0, 0), BAD);
        due("person above", x.dress(2, 0, 0, 0), BAD);
        due("accent below", x.dress(0, -1, 0, 0), BAD);
        due("accent above", x.dress(0, 8, 0, 0), BAD);
        due("day below", x.dress(0, 0, -1, 0), BAD);
        due("day above", x.dress(0, 0, 30, 0), BAD);
        due("what below", x.dress(0, 0, 0, -1), BAD);
        due("what above", x.dress(0, 0, 0, 2), BAD);
        due("wrong ahead of none", x.dress(0, 7, 30, 0), BAD);
        AccentShop full = shop(TWO, "c0", 9, 0, 0, 9, 0, 0, 9, 0, 0, 9, 0, 0, 9, 0, 0, 9, 0, 0, 9, 0, 0, 9, 0, 0);
        due("whatever room", full.dress(0, 1, 9, 0), 1);
        due("behind all others of that day", full.dress(0, 1, 9, 1), 0);
        due("ahead of them it is nothing", full.dress(0, 1, 8, 1), 45);
        due("no hiring more than were told", full.count(4), 8);
        due("what was told is told", full.at(29, 0, 6), 0);
        AccentShop eight = shop("k00000;k11111;k22222;k33333;k44444;k55555;k66666;k98989", "p0;p1;p2;p3;p4;p5;p6;c0",
                0, 0, 0, 0, 1, 1, 0, 2, 2, 0, 3, 3, 0, 4, 4, 0, 5, 5, 0, 6, 6, 28, 7, 1);
        due("the eighth in the eighth", eight.dress(7, 7, 0, 0), 7);
        due("but for the last two days", eight.dress(7, 7, 0, 1), 10);
        due("on the last day but one", eight.dress(7, 7, 28, 1), 33);
        AccentShop drift = shop("y00000;k90000;k00000", "c2");
        due("worn, the drawer does not go on", drift.dress(0, 0, 0, 0), 0);
        due("worn, the drawer does not go on", drift.dress(0, 0, 0, 1), 0);
    }

    private static void home() {
        due("home all the while", shop(TWO, "c0").home(0), 29);
        due("five days", shop(TWO, "c0", 0, 0, 1).home(0), 25);
        due("like ones: not the least", shop(TWO, "c1", 0, 0, 0).home(0), 25);
        AccentShop even = shop("k00000;k80000", "c0;c1", 0, 0, 1, 0, 1, 0);
        due("four days for the least", even.home(0), 26);
        due("five days for the other", even.home(1), 25);
        due("its own is not there", shop(TWO, "c5").home(0), NONE);
        due("no accents", shop("", "c0").home(0), NONE);
        due("another is like it", shop("k00000;k00000", "p1").home(0), NONE);
        due("a later hiring comes still", shop(TWO, "c0", 3, 0, 1).home(0), 25);
        due("out again on the last day", shop(TWO, "p0", 0, 0, 1, 29, 0, 1).home(0), 25);
        AccentShop full = shop(TWO, "c0", 0, 0, 1, 9, 7, 0, 9, 7, 0, 9, 7, 0, 9, 7, 0, 9, 7, 0, 9, 7, 0, 25, 0, 1);
        due("whatever room, behind all others", full.home(0), 25);
        due("no hiring more", full.count(4), 8);
        due("the first day alone", shop("g54000;g89011;y16010;y97010", "l1;c3",
                0, 0, 0, 2, 0, 2, 17, 0, 3).home(0), 0);
        due("the eighth hiring sends it out", full.at(29, 0, 6), 1);
        due("home(-1)", full.home(-1), BAD);
        due("home(1)", full.home(1), BAD);
    }

    private static void dueTray(String what, AccentShop x, int first, int other, int lost) {
        due(what + ": the first", x.tray(0), first);
        due(what + ": the other", x.tray(1), other);
        due(what + ": how many", x.tray(2), lost);
    }

    private static void tray() {
        dueTray("none", new AccentShop(), NONE, NONE, NONE);
        dueTray("one", shop("k00000", "p0"), NONE, NONE, NONE);
        dueTray("nobody", shop(EIGHT, ""), 0, 1, 0);
        dueTray("likes", shop("k00000;k00000", "p1"), 0, 1, 0);
        dueTray("the first with the third", shop("k00000;k00000;k00000", "p2"), 0, 2, 0);
        dueTray("either is lost", shop("k00000;k00000", "p0;p1"), 0, 1, 1);
        dueTray("hirings go with them", shop("k99999;k00000", "c1", 0, 0, 1), 0, 1, 0);
        dueTray("its own that is not there stays so", shop(TWO, "c5"), 0, 1, 1);
        dueTray("the sort goes with it", shop("g00000;k20000", "c0", 0, 0, 7), 0, 1, 0);
        dueTray("its next is another then", shop("g00000;k90000;k00000", "p2"), 0, 2, 0);
        // Frozen between two, it is lost to the one that comes ahead of its own.
        dueTray("by the last day", shop("k00000;k80000", "c1", 0, 0, 0, 8, 0, 1, 12, 0, 7), 0, 1, 0);
        dueTray("by the last day", shop("k00000;k90000", "c0", 25, 0, 1), 0, 1, 1);
        dueTray("by the last day", shop("k00000;k80000;k00009", "c0", 26, 0, 1), 1, 2, 0);
        dueTray("both sorts go", shop("g30000;k20000;g11000;y32000", "l0", 27, 0, 4, 1, 0, 5), 2, 3, 0);
        dueTray("eight", shop("g12000;k01000;k22000;g02000;g20000;g00000;k00000;y21000", "p0", 18, 0, 7), 2, 7, 0);
        AccentShop x = shop(TWO, "c0");
        due("tray(-1)", x.tray(-1), BAD);
        due("tray(3)", x.tray(3), BAD);
        due("nothing is changed", x.accent(0, 1), 0);
        due("nothing is changed", x.person(0, 1), 0);
    }

    private static void dueRefuse(String what, AccentShop x, int many, int first, int second) {
        due(what + ": how many", x.refuse(NONE), many);
        due(what + ": the first", x.refuse(0), first);
        due(what + ": the second", x.refuse(1), second);
    }

    private static void refuse() {
        dueRefuse("nobody", new AccentShop(), 0, NONE, NONE);
        dueRefuse("none need be", shop(TWO, "c0", 28, 0, 1), 0, NONE, NONE);
        dueRefuse("the first", shop(TWO, "c0", 0, 0, 1, 29, 0, 1), 1, 0, NONE);
        dueRefuse("the other", shop(TWO, "c0", 29, 0, 1, 0, 0, 1), 1, 1, NONE);
        dueRefuse("both", shop(TWO, "c0;c0", 0, 0, 1, 0, 1, 1), 2, 0, 1);
        dueRefuse("two of three", shop(TWO, "c0;c0", 0, 0, 1, 28, 0, 1, 0, 1, 1), 2, 0, 2);
        dueRefuse("three", shop(TWO, "c0;c0;c0", 0, 0, 1, 0, 1, 1, 0, 2, 1), NONE, NONE, NONE);
        dueRefuse("without a hiring", shop(TWO, "c7"), NONE, NONE, NONE);
        AccentShop x = shop(TWO, "c0", 0, 0, 1);
        due("refuse(-2)", x.refuse(-2), BAD);
        due("refuse(2)", x.refuse(2), BAD);
        due("it is told still", x.count(4), 1);
        // Out of its own the drawer goes on behind day 13, and the last day's step is one too far for it alone.
        dueRefuse("of like ones the least", shop("y24000;k91000;k04000", "c0", 8, 0, 3, 29, 0, 2), 1, 0, NONE);
        dueRefuse("of like ones the least", shop("y24000;k91000;k04000", "c0", 29, 0, 2, 8, 0, 3), 1, 0, NONE);
    }

    private static void hear() {
        AccentShop x = new AccentShop();
        due("day below", x.hear(-1, 0, 0, 0), BAD);
        due("day above", x.hear(30, 0, 0, 0), BAD);
        due("person below", x.hear(0, -1, 0, 0), BAD);
        due("person above", x.hear(0, 8, 0, 0), BAD);
        due("sound below", x.hear(0, 0, -1, 0), BAD);
        due("sound above", x.hear(0, 0, 5, 0), BAD);
        due("mark below", x.hear(0, 0, 0, -1), BAD);
        due("mark above", x.hear(0, 0, 0, 10), BAD);
        due("nothing was heard", x.count(7), 0);
        for (int k = 1; k <= 8; k++) {
            due("hear", x.hear(29, 7, 4, 9), k);
        }
        due("a ninth", x.hear(0, 0, 0, 0), FULL);
        due("wrong ahead of full", x.hear(0, 0, 0, 10), BAD);
        due("eight", x.count(7), 8);
    }

    private static void forget() {
        AccentShop x = shop(TWO, "c0", 0, 0, 1);
        due("nothing", x.forget(), 0);
        x.hear(0, 0, 0, 5);
        x.hear(0, 0, 0, 6);
        due("never so", x.never(), 0);
        due("two", x.forget(), 2);
        due("nothing is left", x.count(7), 0);
        due("anything goes", x.never(), 1);
        due("nothing", x.forget(), 0);
        due("hear anew", x.hear(0, 0, 0, 0), 1);
    }

    private static void never() {
        AccentShop x = shop(TWO, "c0", 0, 0, 1, 5, 0, 0);
        due("nothing was heard", x.never(), 3);
        x.hear(4, 0, 0, 5);
        due("the first was", x.never(), 2);
        x.hear(29, 0, 3, 9);
        due("the second never was", x.never(), 2);
        x.hear(29, 0, 3, 8);
        due("nor was that", x.never(), 0);
        due("both are told", x.count(4), 2);
        AccentShop y = shop(TWO, "c0;c0", 0, 0, 1, 3, 1, 1);
        y.hear(10, 0, 2, 0);
        due("the first", y.never(), 1);
        y.hear(10, 1, 2, 8);
        due("and the other was", y.never(), 1);
        y.hear(0, 2, 0, 5);
        due("one that there is not: never", y.never(), 0);
        AccentShop z = shop("k01234;k99999", "c1;c0", 5, 1, 1);
        z.hear(29, 1, 4, 4);
        z.hear(29, 1, 0, 0);
        z.hear(29, 0, 4, 9);
        due("sound by sound", z.never(), 1);
        due("no hirings", shop(TWO, "c0").never(), 0);
        due("eight", shop(TWO, "c0", 0, 0, 0, 0, 0, 0, 0, 0, 0, 0, 0, 0,
                0, 0, 0, 0, 0, 0, 0, 0, 0, 0, 0, 0).never(), 255);
    }

    private static void was() {
        AccentShop x = shop(TWO, "p0;c1", 0, 0, 1);
        due("nothing was heard: any accent", x.was(0, 0), 255);
        due("nothing was heard: any sort", x.was(0, 1), 7);
        x.hear(0, 0, 0, 1);
        due("its own", x.was(0, 0), 1);
        due("any sort", x.was(0, 1), 7);
        x.hear(0, 0, 1, 0);
        due("no child", x.was(0, 1), 5);
        x.hear(1, 0, 1, 1);
        due("plain", x.was(0, 1), 1);
        due("of the other any", x.was(1, 0), 255);
        due("of the other any", x.was(1, 1), 7);
        x.forget();
        x.hear(0, 0, 0, 6);
        due("one that is not there", x.was(0, 0), 252);
        due("not by its sort", x.was(0, 1), 0);
        x.forget();
        x.hear(0, 0, 0, 9);
        due("the accent hired", x.was(0, 0), 2);
        due("of the other", x.was(1, 0), 0);
        x.forget();
        x.hear(1, 0, 1, 0);
        due("a lord", x.was(0, 1), 4);
        x.forget();
        x.hear(0, 0, 1, 1);
        due("a child", x.was(0, 1), 2);
        x.forget();
        x.hear(3, 4, 0, 5);
        due("one that there is not", x.was(0, 0), 0);
        due("one that there is not", x.was(0, 1), 0);
        due("was(-1, 0)", x.was(-1, 0), BAD);
        due("was(2, 0)", x.was(2, 0), BAD);
        due("was(0, -1)", x.was(0, -1), BAD);
        due("was(0, 2)", x.was(0, 2), BAD);
        due("as told", x.person(0, 0), 0);
        due("as told", x.person(0, 1), 0);
    }

    private static void ask() {
        AccentShop x = shop("y00000;k90000;k00000", "p2");
        due("of like days the least", x.ask(0), 0);
        x.hear(0, 0, 1, 0);
        due("three accents", x.was(0, 0), 7);
        due("the drawer has gone on", x.ask(0), 6);
        x.hear(0, 0, 0, 5);
        due("no accent", x.was(0, 0), 0);
        due("no accent", x.ask(0), 0);
        due("no accents", shop("", "c0").ask(0), 0);
        AccentShop last = shop("k00000;k11100;k99970", "c0", 0, 0, 2, 1, 0, 7, 27, 0, 2);
        last.hear(0, 0, 3, 1);
        due("two accents", last.was(0, 0), 3);
        due("told apart on the last day", last.ask(0), 29);
        AccentShop second = shop("y39010;k38010;y30000", "p1", 0, 0, 2, 1, 0, 0);
        second.hear(0, 0, 3, 1);
        due("told apart on the second day", second.ask(0), 1);
        AccentShop eight = shop("y33000;k00000;k02000;g23000;k20000;y11000;k22000;g22000", "p2;l2",
                12, 1, 0, 1, 1, 2);
        eight.hear(0, 0, 1, 2);
        due("the eighth among them", eight.was(0, 0), 196);
        due("the eighth among them", eight.ask(0), 13);
        last.back();
        due("never told apart", last.ask(0), 0);
        last.back();
        due("told apart on the fourth", last.ask(0), 3);
        due("ask(-1)", x.ask(-1), BAD);
        due("ask(1)", x.ask(1), BAD);
        due("as told", x.person(0, 1), 2);
    }

    private static void dueChance(String what, AccentShop x, int c, int person, long above, long below) {
        due(what + ": above", x.custom(c, person, 0), above);
        due(what + ": below", x.custom(c, person, 1), below);
    }

    private static void custom() {
        AccentShop x = shop(TWO, "c0;c7", 0, 0, 1);
        dueChance("never", x, 0, 0, 0, 1);
        dueChance("a sixteenth", x, 1, 0, 1, 16);
        dueChance("a quarter", x, 4, 0, 1, 4);
        dueChance("three eighths", x, 6, 0, 3, 8);
        dueChance("always", x, 16, 0, 1, 1);
        dueChance("whatever is hired", x, 7, 1, 1, 1);
        x.hire(10, 0, 0);
        dueChance("the first without the other", x, 4, 0, 3, 16);
        dueChance("the first without the other", x, 1, 0, 15, 256);
        dueChance("the first without the other", x, 16, 0, 0, 1);
        x.back();
        dueChance("as before", x, 6, 0, 3, 8);
        x.back();
        dueChance("no hirings", x, 6, 0, 0, 1);
        AccentShop eight = shop(TWO, "c0", 0, 0, 1, 0, 0, 1, 0, 0, 1, 0, 0, 1, 0, 0, 1, 0, 0, 1, 0, 0, 1, 0, 0, 1);
        dueChance("one of eight", eight, 1, 0, 1732076671L, 4294967296L);
        dueChance("all of eight", eight, 16, 0, 1, 1);
        dueChance("no accents", shop("", "c0", 0, 0, 1), 8, 0, 0, 1);
        dueChance("behind the last day", shop(TWO, "c0", 25, 0, 1), 2, 0, 1, 8);
        dueChance("a day too late", shop(TWO, "c0", 26, 0, 1), 2, 0, 0, 1);
        AccentShop y = shop(TWO, "c0", 0, 0, 1);
        dueChance("by what is told", y, 8, 0, 1, 2);
        typeAll(y, 0, ";");
        dueChance("by what is told now", y, 8, 0, 0, 1);
        due("c below", y.custom(-1, 0, 0), LONG_BAD);
        due("c above", y.custom(17, 0, 0), LONG_BAD);
        due("person below", y.custom(0, -1, 0), LONG_BAD);
        due("person above", y.custom(0, 1, 0), LONG_BAD);
        due("what below", y.custom(0, 0, -1), LONG_BAD);
        due("what above", y.custom(0, 0, 2), LONG_BAD);
    }

    /** LOTS by the document's words, with numbers that do not wrap by themselves. */
    private static int[] lots(int seed, int... of) {
        BigInteger round = BigInteger.ONE.shiftLeft(32);
        BigInteger s = BigInteger.valueOf(seed).mod(round);
        int[] drawn = new int[of.length];
        for (int i = 0; i < of.length; i++) {
            s = s.multiply(BigInteger.valueOf(1103515245)).add(BigInteger.valueOf(12345)).mod(round);
            drawn[i] = s.shiftRight(16).mod(BigInteger.valueOf(of[i])).intValue();
        }
        return drawn;
    }

    private static void year() {
        AccentShop x = shop(TWO, "c0", 0, 0, 1);
        due("none", x.year(5, 0, 0), 0);
        due("none", x.year(5, 0, 1), 0);
        int[] seeds = {0, 1, 2, 3, 7, 100, 4711, -1, -99, Integer.MAX_VALUE, Integer.MIN_VALUE};
        for (int k = 0; k < 60; k++) {
            int seed = k < seeds.length ? seeds[k] : k * 7919;
            int[] lots = lots(seed, 30, 1, 2);
            due("astray by " + seed, x.year(seed, 1, 0), lots[2] == 1 && lots[0] <= 25 ? 1 : 0);
            due("another by " + seed, x.year(seed, 1, 1), lots[2] == 1 && lots[0] <= 21 ? 1 : 0);
        }
        for (int seed = 0; seed < 20; seed++) {
            int[] lots = lots(seed, 30, 3, 4, 30, 3, 4, 30, 3, 4);
            AccentShop told = shop("k00000;k33333;k66666;k99999", "c0;p1;l3", lots);
            AccentShop by = shop("k00000;k33333;k66666;k99999", "c0;p1;l3", 3, 1, 2);
            due("three by " + seed, by.year(seed, 3, 0), told.count(5));
            due("three by " + seed, by.year(seed, 3, 1), told.count(6));
        }
        due("no people", shop(TWO, "").year(1, 8, 0), 0);
        due("no accents", shop("", "c0").year(1, 8, 0), 0);
        due("no accents", shop("", "c0").year(1, 8, 1), 0);
        due("astray without a hiring", shop(TWO, "c7").year(1, 0, 0), 1);
        due("n below", x.year(0, -1, 0), BAD);
        due("n above", x.year(0, 9, 0), BAD);
        due("what below", x.year(0, 0, -1), BAD);
        due("what above", x.year(0, 0, 2), BAD);
        due("what was told stays", x.count(4), 1);
        due("what was told stays", x.at(0, 0, 5), 1);
    }

    private static void sheet() {
        AccentShop x = new AccentShop();
        due("s below", x.sheet(-1, 0, 1), BAD);
        due("s above", x.sheet(4, 0, 1), BAD);
        due("form below", x.sheet(0, -1, 1), BAD);
        due("form above", x.sheet(0, 3, 1), BAD);
        due("n above", x.sheet(0, 0, 61), BAD);
        due("wrong ahead of size", x.sheet(0, 3, -1), BAD);
        due("no finding yet", x.count(8), 0);
        due("n below", x.sheet(0, 0, -1), SIZE);
        due("the finding", x.count(8), 5);
        due("far below", x.sheet(0, 0, LEAST), SIZE);
        due("lost still", x.lose(0), NULL);
        due("empty", x.sheet(0, 0, 0), 0);
        dueSheet(x, 0, 0);
        due("sixty", x.sheet(3, 2, 60), 60);
        due("0 at first", x.get(3, 2, 59), 0);
        due("no more", x.get(3, 2, 60), LEAST);
        x.lay(3, 2, 1, 77);
        due("anew", x.sheet(3, 2, 2), 2);
        dueSheet(x, 3, 2, 0, 0);
        x.lay(3, 2, 1, 77);
        due("refused", x.sheet(3, 1, -1), SIZE);
        dueSheet(x, 3, 2, 0, 77);
        due("of another form", x.sheet(3, 1, 1), 1);
        dueSheet(x, 3, 1, 0);
    }

    private static void lose() {
        AccentShop x = new AccentShop();
        due("s below", x.lose(-1), BAD);
        due("s above", x.lose(4), BAD);
        due("lost", x.lose(2), NULL);
        due("the finding", x.count(8), 1);
        x.sheet(2, 1, 7);
        x.lay(2, 1, 0, 5);
        due("seven", x.lose(2), 7);
        due("lost", x.lose(2), NULL);
        due("lost", x.get(2, 1, 0), LEAST);
        x.sheet(2, 1, 0);
        due("none", x.lose(2), 0);
        x.sheet(2, 1, 1);
        dueSheet(x, 2, 1, 0);
    }

    private static void lay() {
        AccentShop x = new AccentShop();
        due("s below", x.lay(-1, 0, 0, 0), BAD);
        due("s above", x.lay(4, 0, 0, 0), BAD);
        due("form below", x.lay(0, -1, 0, 0), BAD);
        due("form above", x.lay(0, 3, 0, 0), BAD);
        due("no finding", x.count(8), 0);
        due("lost, whatever item", x.lay(0, 0, -1, 0), NULL);
        due("the finding", x.count(8), 1);
        x.sheet(0, 0, 3);
        x.sheet(1, 1, 3);
        x.sheet(2, 2, 3);
        due("another form ahead of no such item", x.lay(0, 1, 9, 0), CAST);
        due("the finding", x.count(8), 3);
        due("another form", x.lay(2, 1, 0, 0), CAST);
        due("item below", x.lay(0, 0, -1, 0), INDEX);
        due("the finding", x.count(8), 2);
        due("item above", x.lay(0, 0, 3, 0), INDEX);
        due("a byte", x.lay(0, 0, 0, 127), 1);
        due("a byte", x.lay(0, 0, 1, 128), 1);
        due("a byte", x.lay(0, 0, 2, 0x1ff), 1);
        dueSheet(x, 0, 0, 127, -128, -1);
        due("a short", x.lay(1, 1, 0, 32768), 1);
        due("a short", x.lay(1, 1, 1, -32769), 1);
        due("a short", x.lay(1, 1, 2, 0x12345), 1);
        dueSheet(x, 1, 1, -32768, 32767, 0x2345);
        due("an int", x.lay(2, 2, 0, LEAST + 1), 1);
        due("an int", x.lay(2, 2, 2, Integer.MAX_VALUE), 1);
        dueSheet(x, 2, 2, LEAST + 1, 0, Integer.MAX_VALUE);
    }

    private static void get() {
        AccentShop x = new AccentShop();
        due("s below", x.get(-1, 0, 0), LEAST);
        due("s above", x.get(4, 0, 0), LEAST);
        due("form below", x.get(0, -1, 0), LEAST);
        due("form above", x.get(0, 3, 0), LEAST);
        due("wrong is no finding", x.count(8), 0);
        due("lost", x.get(0, 0, 0), LEAST);
        due("the finding", x.count(8), 1);
        x.sheet(0, 1, 2);
        x.lay(0, 1, 1, -7);
        due("another form ahead of no such item", x.get(0, 2, 5), LEAST);
        due("the finding", x.count(8), 3);
        due("item above", x.get(0, 1, 2), LEAST);
        due("the finding", x.count(8), 2);
        x.lose(1);
        due("item below", x.get(0, 1, -1), LEAST);
        due("the finding", x.count(8), 2);
        due("the item", x.get(0, 1, 1), -7);
        due("it is the latest still", x.count(8), 2);
    }

    private static void copy() {
        AccentShop x = new AccentShop();
        due("s below", x.copy(-1, 0, 0, 0, 0), BAD);
        due("s above", x.copy(4, 0, 0, 0, 0), BAD);
        due("t below", x.copy(0, 0, -1, 0, 0), BAD);
        due("t above", x.copy(0, 0, 4, 0, 0), BAD);
        due("both lost", x.copy(0, -1, 1, 0, 0), NULL);
        due("the finding", x.count(8), 1);
        x.sheet(0, 2, 5);
        layAll(x, 0, 2, 1, 2, 3, 4, 5);
        due("t is lost", x.copy(0, 0, 1, 0, 0), NULL);
        due("s is lost", x.copy(1, 0, 0, 0, 0), NULL);
        x.sheet(1, 1, 5);
        due("unlike forms ahead of no such items", x.copy(0, -1, 1, 9, 1), STORE);
        due("the finding", x.count(8), 4);
        due("unlike forms, of none", x.copy(0, 0, 1, 0, 0), STORE);
        x.sheet(1, 2, 4);
        due("i below", x.copy(0, -1, 1, 0, 1), INDEX);
        due("the finding", x.count(8), 2);
        due("j below", x.copy(0, 0, 1, -1, 1), INDEX);
        due("n below", x.copy(0, 0, 1, 0, -1), INDEX);
        due("not so many in s", x.copy(0, 4, 1, 0, 2), INDEX);
        due("not so many in t", x.copy(0, 0, 1, 0, 5), INDEX);
        due("none, behind the end", x.copy(0, 6, 1, 0, 0), INDEX);
        due("far too many", x.copy(0, 1, 1, 1, Integer.MAX_VALUE), INDEX);
        due("far behind", x.copy(0, Integer.MAX_VALUE, 1, 0, 1), INDEX);
        due("far behind", x.copy(0, 0, 1, Integer.MAX_VALUE, 1), INDEX);
        due("all below", x.copy(0, LEAST, 1, LEAST, LEAST), INDEX);
        dueSheet(x, 1, 2, 0, 0, 0, 0);
        due("none, at the end", x.copy(0, 5, 1, 4, 0), 1);
        due("three", x.copy(0, 2, 1, 1, 3), 1);
        dueSheet(x, 1, 2, 0, 3, 4, 5);
        dueSheet(x, 0, 2, 1, 2, 3, 4, 5);
        due("upon itself, forth", x.copy(0, 0, 0, 1, 4), 1);
        dueSheet(x, 0, 2, 1, 1, 2, 3, 4);
        due("upon itself, back", x.copy(0, 2, 0, 0, 3), 1);
        dueSheet(x, 0, 2, 2, 3, 4, 3, 4);
    }

    private static void write() {
        AccentShop x = shop("k00000;k80000", "c0", 1, 0, 1);
        due("person below", x.write(-1, 0), BAD);
        due("person above", x.write(1, 0), BAD);
        due("s below", x.write(0, -1), BAD);
        due("s above", x.write(0, 4), BAD);
        due("wrong ahead of lost", x.write(1, 0), BAD);
        due("no finding", x.count(8), 0);
        due("lost", x.write(0, 0), NULL);
        due("the finding", x.count(8), 1);
        x.sheet(0, 0, 7);
        due("seven", x.write(0, 0), 7);
        dueSheet(x, 0, 0, 0, 0, 0, 0, 0, 1, 1);
        x.sheet(1, 2, 60);
        x.lay(1, 2, 30, 9);
        due("thirty at most", x.write(0, 1), 30);
        due("the last", x.get(1, 2, 29), 1);
        due("behind it", x.get(1, 2, 30), 9);
        x.sheet(2, 1, 0);
        due("none", x.write(0, 2), 0);
        x.wipe(0);
        x.sheet(2, 1, 2);
        due("two", x.write(0, 2), 2);
        dueSheet(x, 2, 1, NONE, NONE);
    }

    private static void count() {
        AccentShop x = shop("k00000;k99999;k55555", "c0;c1;c7", 0, 0, 1, 9, 1, 7);
        x.hear(0, 0, 0, 0);
        int[] all = {3, 3, 20, 8, 2, 2, 1, 1, 0};
        for (int what = 0; what <= 8; what++) {
            due("count(" + what + ")", x.count(what), all[what]);
        }
        due("count(-1)", x.count(-1), BAD);
        due("count(9)", x.count(9), BAD);
        x.type(0, ';');
        int[] faulty = {0, 3, 21, 8, 2, 0, 0, 1, 0};
        for (int what = 0; what <= 8; what++) {
            due("count(" + what + ") with a fault", x.count(what), faulty[what]);
        }
        x.lose(0);
        due("a finding", x.count(8), 1);
        x.lose(9);
        due("the latest still", x.count(8), 1);
        x.sheet(0, 0, -5);
        due("the latest", x.count(8), 5);
    }

    private static long digestByCalls(AccentShop x) {
        long h = 17;
        for (int what = 0; what < 8; what++) {
            h = 31 * h + x.count(what);
        }
        h = 31 * (31 * h + x.fault(0)) + x.fault(1);
        for (int a = 0; a < x.count(0); a++) {
            for (int what = 0; what < 6; what++) {
                h = 31 * h + x.accent(a, what);
            }
            for (int day : new int[] {6, 20, 29}) {
                for (int what = 0; what < 6; what++) {
                    h = 31 * h + x.drawer(day, a, what);
                }
            }
        }
        for (int p = 0; p < x.count(1); p++) {
            h = 31 * (31 * h + x.person(p, 0)) + x.person(p, 1);
            for (int day : new int[] {0, 7, 15, 29}) {
                for (int what = 0; what < 8; what++) {
                    h = 31 * h + x.at(day, p, what);
                }
            }
            long[] more = {x.becomes(p), x.dress(p, 1, 12, 0), x.dress(p, 1, 12, 1), x.home(p), x.was(p, 0),
                x.was(p, 1), x.ask(p), x.custom(5, p, 0), x.custom(5, p, 1)};
            for (long m : more) {
                h = 31 * h + m;
            }
        }
        long[] rest = {x.astray(), x.crowd(), x.tray(0), x.tray(1), x.tray(2), x.refuse(NONE), x.refuse(0), x.never(),
            x.year(7, 6, 0), x.year(7, 6, 1)};
        for (long r : rest) {
            h = 31 * h + r;
        }
        return h;
    }

    private static AccentShop digestible() {
        return shop("g00000;y55555;g93939;k24680;y99999", "p0;c2;l4;p1;c7", 2, 0, 2, 4, 1, 0, 9, 3, 2);
    }

    private static void digest() {
        due("by calls", digestible().digest(), digestByCalls(digestible()));
        AccentShop x = digestible();
        x.hear(4, 1, 0, 8);
        AccentShop twin = digestible();
        twin.hear(4, 1, 0, 8);
        due("by calls, one heard", x.digest(), digestByCalls(twin));
        AccentShop asked = shop("y00000;k90000;k00000;k99999", "p2;c2", 0, 1, 3);
        asked.hear(0, 0, 1, 0);
        due("ask() is no 0", asked.ask(0), 6);
        due("refuse(0) is no refuse(1)", asked.refuse(0), 0);
        due("by calls, one to ask, one to refuse", asked.digest(), digestByCalls(asked));
        long before = x.digest();
        x.lose(0);
        x.sheet(1, 1, 4);
        due("sheets and findings are no part", x.digest(), before);
        due("it changes nothing", x.digest(), before);
        due("the finding stays", x.count(8), 1);
        AccentShop none = new AccentShop();
        long h = 17;
        for (int i = 0; i < 8; i++) {
            h *= 31;
        }
        int[] rest = {NONE, NONE, 0, NONE, NONE, NONE, NONE, 0, NONE, 0, 0, 0};
        for (int r : rest) {
            h = 31 * h + r;
        }
        due("of a new object", none.digest(), h);
    }
}
