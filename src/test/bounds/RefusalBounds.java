import java.util.function.ToLongFunction;

/** What is refused: in which order, what it changes, how it is told; and the calls that an object is good for. */
final class RefusalBounds {
    private RefusalBounds() {
    }

    static void run() {
        theFirstThatFits();
        theirNumbers();
        changeNothing();
        asALong();
        calls();
    }

    /** Full in all that can be full, with a sheet of each form and a lost one. */
    static AccentShop full() {
        AccentShop x = Doc.shop("g01234;y98765;k55555;y00000;g99999;k12345;y54321;k90909", "p0;c1;l2;p3;c4;l5;p6;c7",
                0, 0, 1, 3, 1, 0, 4, 2, 5, 9, 3, 6, 12, 4, 2, 15, 5, 1, 20, 6, 7, 28, 7, 0);
        for (int k = 0; k < 8; k++) {
            x.hear(k, k, k % 5, x.at(k, k, k % 5));
        }
        x.sheet(0, 0, 3);
        x.sheet(1, 1, 0);
        x.sheet(2, 2, 60);
        Doc.layAll(x, 0, 0, 1, 2, 3);
        x.lay(2, 2, 59, 77);
        return x;
    }

    private static String all(AccentShop x) {
        StringBuilder b = new StringBuilder();
        for (int what = 0; what <= 7; what++) {
            b.append(x.count(what)).append(' ');
        }
        b.append(x.digest()).append(' ').append(Doc.items(x, 0, 0, x.count(0) == 0 ? 0 : 3));
        b.append(' ').append(x.count(0) == 0 ? "" : Doc.items(x, 2, 2, 60));
        return b.toString();
    }

    private static void theFirstThatFits() {
        Doc.says(0, "Refusals, the first that fits, in the order told at each act:");
        AccentShop x = full();
        Doc.due("type: BAD ahead of FULL", x.type(0, -1), Doc.BAD);
        Doc.due("hire: BAD ahead of FULL", x.hire(-1, 0, 0), Doc.BAD);
        Doc.due("hear: BAD ahead of FULL", x.hear(0, 0, 0, -1), Doc.BAD);
        Doc.due("sheet: BAD ahead of SIZE", x.sheet(0, 3, -1), Doc.BAD);
        Doc.due("read: BAD", x.read(4), Doc.BAD);
        Doc.due("write: BAD ahead of NULL", x.write(8, 3), Doc.BAD);
        Doc.due("lay: BAD ahead of NULL", x.lay(3, 3, 0, 0), Doc.BAD);
        Doc.due("lay: NULL ahead of INDEX", x.lay(3, 0, -1, 0), Doc.NULL);
        Doc.due("lay: CAST ahead of INDEX", x.lay(0, 1, 3, 0), Doc.CAST);
        Doc.due("get: NULL ahead of INDEX", x.get(3, 0, -1), Doc.LEAST);
        Doc.due("get: NULL ahead of INDEX", x.count(8), 1);
        Doc.due("get: CAST ahead of INDEX", x.get(0, 1, 3), Doc.LEAST);
        Doc.due("get: CAST ahead of INDEX", x.count(8), 3);
        Doc.due("copy: BAD ahead of NULL", x.copy(3, 0, 4, 0, 0), Doc.BAD);
        Doc.due("copy: NULL ahead of INDEX", x.copy(3, -1, 0, 0, 0), Doc.NULL);
        Doc.due("copy: STORE ahead of INDEX", x.copy(0, -1, 2, 0, 0), Doc.STORE);
        AccentShop none = new AccentShop();
        Doc.due("undo: BAD ahead of NOT", none.undo(2), Doc.BAD);
        Doc.due("undo: NOT", none.undo(1), Doc.NOT);
    }

    private static void theirNumbers() {
        Doc.says(0, "BAD -2 (a number not as told, no such thing), NULL, NOT -3 (as told), FULL -4, other FINDINGS.");
        AccentShop x = full();
        Doc.due("a number not as told", x.hire(30, 0, 0), -2);
        Doc.due("no such thing", Doc.shop(Doc.TWO, "c0").at(0, 1, 0), -2);
        Doc.due("NULL", x.read(3), -11);
        Doc.due("NOT", new AccentShop().back(), -3);
        Doc.due("FULL", x.hire(0, 0, 0), -4);
        Doc.due("another finding", x.copy(0, 0, 2, 0, 1), -14);
        Doc.due("the constants", AccentShop.NONE + " " + AccentShop.BAD + " " + AccentShop.NOT + " " + AccentShop.FULL,
                "-1 -2 -3 -4");
    }

    private static void dueUnchanged(String what, AccentShop x, AccentShop twin, long refusal, ToLongFunction<AccentShop> call) {
        x.lose(3);
        Doc.due(what, call.applyAsLong(x), refusal);
        boolean finding = refusal <= -11 && refusal >= -15;
        Doc.due("count(8) behind " + what, x.count(8), finding ? -10 - refusal : 1);
        Doc.due("all behind " + what, all(x), all(twin));
        Doc.due("the lost sheet behind " + what, x.lose(3), Doc.NULL);
    }

    private static void bad(String what, ToLongFunction<AccentShop> call) {
        dueUnchanged(what, full(), full(), Doc.BAD, call);
    }

    private static void refused(String what, long refusal, ToLongFunction<AccentShop> call) {
        dueUnchanged(what, full(), full(), refusal, call);
    }

    private static void changeNothing() {
        Doc.says(0, "They change nothing (FINDINGS but count() 8).");
        bad("type of no text", x -> x.type(2, 'k'));
        bad("type of no byte", x -> x.type(1, 256));
        refused("type of a 56th", Doc.FULL, x -> x.type(0, ';'));
        refused("type of a 24th", Doc.FULL, x -> x.type(1, ';'));
        bad("wipe", x -> x.wipe(2));
        bad("undo", x -> x.undo(-1));
        bad("fault", x -> x.fault(2));
        bad("accent", x -> x.accent(8, 0));
        bad("person", x -> x.person(0, 2));
        bad("hire", x -> x.hire(0, 0, 8));
        refused("hire of a ninth", Doc.FULL, x -> x.hire(0, 0, 0));
        bad("read", x -> x.read(-1));
        refused("read of a lost one", Doc.NULL, x -> x.read(3));
        bad("at", x -> x.at(30, 0, 0));
        bad("drawer", x -> x.drawer(0, 8, 0));
        bad("becomes", x -> x.becomes(8));
        bad("dress", x -> x.dress(0, 8, 0, 0));
        bad("home", x -> x.home(-1));
        bad("tray", x -> x.tray(3));
        bad("refuse", x -> x.refuse(2));
        bad("hear", x -> x.hear(0, 0, 0, 10));
        refused("hear of a ninth", Doc.FULL, x -> x.hear(0, 0, 0, 0));
        bad("was", x -> x.was(8, 0));
        bad("ask", x -> x.ask(8));
        refused("custom", Doc.LONG_BAD, x -> x.custom(17, 0, 0));
        bad("year", x -> x.year(0, 9, 0));
        sheetsChangeNothing();
        AccentShop none = new AccentShop();
        Doc.due("undo of nothing", none.undo(0), Doc.NOT);
        Doc.due("back of nothing", none.back(), Doc.NOT);
        Doc.due("no finding of these", none.count(8), 0);
        Doc.due("all of nothing", all(none), all(new AccentShop()));
    }

    private static void sheetsChangeNothing() {
        bad("sheet of no form", x -> x.sheet(0, 3, 1));
        bad("sheet of 61", x -> x.sheet(0, 0, 61));
        refused("sheet below 0", Doc.SIZE, x -> x.sheet(0, 0, -1));
        refused("a lost sheet below 0", Doc.SIZE, x -> x.sheet(3, 0, -1));
        bad("lose", x -> x.lose(4));
        refused("lose of a lost one", Doc.NULL, x -> x.lose(3));
        bad("lay", x -> x.lay(0, 3, 0, 9));
        refused("lay of a lost one", Doc.NULL, x -> x.lay(3, 0, 0, 9));
        refused("lay of another form", Doc.CAST, x -> x.lay(0, 1, 0, 9));
        refused("lay behind the end", Doc.INDEX, x -> x.lay(0, 0, 3, 9));
        refused("lay ahead of the start", Doc.INDEX, x -> x.lay(2, 2, -1, 9));
        refused("get", Doc.LEAST, x -> x.get(4, 0, 0));
        bad("copy", x -> x.copy(0, 0, 4, 0, 1));
        refused("copy to a lost one", Doc.NULL, x -> x.copy(0, 0, 3, 0, 1));
        refused("copy to another form", Doc.STORE, x -> x.copy(0, 0, 2, 0, 1));
        refused("copy of too many", Doc.INDEX, x -> x.copy(0, 1, 0, 0, 3));
        refused("copy to too few", Doc.INDEX, x -> x.copy(2, 57, 2, 58, 3));
        bad("write", x -> x.write(8, 0));
        refused("write to a lost one", Doc.NULL, x -> x.write(0, 3));
        bad("count", x -> x.count(9));
    }

    private static void asALong() {
        Doc.says(0, "Where the answer is a long, a refusal -x is the least long and x more.");
        AccentShop x = Doc.shop(Doc.TWO, "c0", 0, 0, 1);
        Doc.due("BAD", x.custom(-1, 0, 0), -9223372036854775806L);
        Doc.due("BAD", x.custom(17, 0, 0), -9223372036854775806L);
        Doc.due("BAD", x.custom(0, 1, 0), -9223372036854775806L);
        Doc.due("BAD", x.custom(0, 0, 2), -9223372036854775806L);
        Doc.due("no refusal", x.custom(16, 0, 0), 1);
    }

    private static void calls() {
        Doc.says(0, "An object is used for at most 512 calls after it has been made; what later calls answer is free.");
        AccentShop x = Doc.shop(Doc.TWO, "c0;c1", 0, 0, 1, 0, 1, 0);
        for (int made = 13 + 5 + 2; made < 510; made++) {
            Doc.due("call " + (made + 1), x.at(29, 0, 5), 1);
        }
        Doc.due("the 511th", x.back(), 1);
        AccentShop twin = Doc.shop(Doc.TWO, "c0;c1", 0, 0, 1);
        Doc.due("the 512th", x.digest(), SheetBounds.grown(twin).longValue());
        // What these answer is free; but they may not throw.
        for (int k = 0; k < 600; k++) {
            x.hire(0, 0, 0);
            x.type(0, ';');
            x.hear(0, 0, 0, 0);
            x.sheet(0, 2, 60);
        }
    }
}
