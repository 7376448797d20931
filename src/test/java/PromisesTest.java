/** Each promise of the document by itself: ordinary inputs, its edges, and wrong inputs. */
public final class PromisesTest {
    private static final long VALUE = 1_000_000_000_000_000_000L;
    private static final long NET = 1_000_000_000_000_000L;
    private static final int[] NO_POSITIONS = {-1, 300, 301, Integer.MIN_VALUE, Integer.MAX_VALUE};
    private static final int[] NO_ITEMS = {-1, 200, 201, Integer.MIN_VALUE, Integer.MAX_VALUE};
    private static final Check CHECK = new Check();

    public static void main(String[] args) {
        newObject();
        place();
        item();
        netRange();
        netPositions();
        netOnItemsNotThere();
        go();
        solveOrder();
        solveFloors();
        solveExtremes();
        solveCascade();
        in();
        perform();
        performTooHigh();
        value();
        netOf();
        count();
        CHECK.end();
    }

    private static void due(String call, long got, long want) {
        CHECK.due(call, got, want);
    }

    private static void due(String call, boolean got, boolean want) {
        CHECK.due(call, got, want);
    }

    private static void newObject() {
        CountedDesk desk = new CountedDesk();
        for (int what = 0; what < 3; what++) {
            due("P1 count " + what, desk.count(what), 0);
        }
        for (int p = 0; p < 300; p++) {
            due("P1 value " + p, desk.value(p), 0);
        }
        due("P1 in", desk.in(0), false);
        due("P1 go", desk.go(0), false);
        due("P1 net", desk.net(0, 0, 1), false);
        due("P1 solve", desk.solve(), 0);
        due("P1 perform", desk.perform(), 0);
        CountedDesk other = new CountedDesk();
        other.item();
        other.place(0, 5, 0);
        due("P1 objects are apart, count", desk.count(0), 0);
        due("P1 objects are apart, value", desk.value(0), 0);
    }

    private static void place() {
        CountedDesk desk = new CountedDesk();
        due("P2 first position", desk.place(0, 7, 3), true);
        due("P2 last position", desk.place(299, VALUE, -VALUE), true);
        due("P2 value of the first", desk.value(0), 7);
        due("P2 value of the last", desk.value(299), VALUE);
        due("P2 both at the top", desk.place(1, VALUE, VALUE), true);
        due("P2 both at the bottom", desk.place(2, -VALUE, -VALUE), true);
        due("P2 value at the bottom", desk.value(2), -VALUE);
        for (int p : NO_POSITIONS) {
            due("P2 no position " + p, desk.place(p, 1, 0), false);
        }
        due("P2 value too high", desk.place(0, VALUE + 1, 0), false);
        due("P2 value too low", desk.place(0, -VALUE - 1, -VALUE - 1), false);
        due("P2 floor too low", desk.place(0, 0, -VALUE - 1), false);
        due("P2 floor too high", desk.place(0, VALUE + 1, VALUE + 1), false);
        due("P2 far too high", desk.place(0, Long.MAX_VALUE, 0), false);
        due("P2 far too low", desk.place(0, 0, Long.MIN_VALUE), false);
        due("P2 value below floor", desk.place(0, 2, 3), false);
        due("P2 refused, value kept", desk.value(0), 7);
        desk.item();
        desk.net(0, 0, -5);
        due("P2 refused, floor kept", desk.solve(), 0);
        desk.net(0, 0, 1);
        due("P2 floor kept exactly", desk.solve(), 1);
        due("P2 placed again", desk.place(0, 7, 4), true);
        due("P2 new floor counts", desk.solve(), 0);
    }

    private static void item() {
        CountedDesk desk = new CountedDesk();
        for (int i = 0; i < 200; i++) {
            due("P3 item", desk.item(), i);
        }
        due("P3 item beyond 200", desk.item(), -1);
        due("P3 refused, in all", desk.count(0), 200);
        due("P3 refused, there", desk.count(1), 200);
        desk.go(199);
        due("P3 a gone item stays an item", desk.item(), -1);
        due("P3 last item's net", desk.net(198, 299, 1), true);
        due("P3 all without takes are good", desk.perform(), 199);
        due("P3 done items stay items", desk.item(), -1);

        CountedDesk few = CountedDesk.withItems(2);
        few.go(1);
        due("P3 numbers are not used again", few.item(), 2);
        due("P3 a new item's net", few.netOf(2, 0), 0);
    }

    private static void netRange() {
        CountedDesk desk = CountedDesk.withItems(1);
        due("P4 top", desk.net(0, 0, NET), true);
        due("P4 above the top", desk.net(0, 0, 1), false);
        due("P4 kept at the top", desk.netOf(0, 0), NET);
        due("P4 wraps if added", desk.net(0, 0, Long.MAX_VALUE), false);
        due("P4 top to bottom", desk.net(0, 0, -2 * NET), true);
        due("P4 bottom", desk.netOf(0, 0), -NET);
        due("P4 below the bottom", desk.net(0, 0, -1), false);
        due("P4 wraps if added below", desk.net(0, 0, Long.MIN_VALUE), false);
        due("P4 bottom to above the top", desk.net(0, 0, 2 * NET + 1), false);
        due("P4 kept at the bottom", desk.netOf(0, 0), -NET);
        due("P4 bottom to top", desk.net(0, 0, 2 * NET), true);
        due("P4 top to below the bottom", desk.net(0, 0, -2 * NET - 1), false);
        due("P4 at once above", desk.net(0, 1, NET + 1), false);
        due("P4 at once below", desk.net(0, 1, -NET - 1), false);
        due("P4 refused leaves none", desk.netOf(0, 1), 0);
        due("P4 last position", desk.net(0, 299, -4), true);
        due("P4 amounts add up", desk.net(0, 299, -3), true);
        due("P4 their sum", desk.netOf(0, 299), -7);
        for (int p : NO_POSITIONS) {
            due("P4 no position " + p, desk.net(0, p, 1), false);
            due("P4 no position, amount 0 " + p, desk.net(0, p, 0), false);
        }
    }

    private static void netPositions() {
        CountedDesk desk = CountedDesk.withItems(2);
        for (int p = 0; p < 16; p++) {
            due("P4 of 16 positions " + p, desk.net(0, 10 * p, p + 1), true);
        }
        due("P4 the 17th", desk.net(0, 5, 1), false);
        due("P4 the 17th stays without", desk.netOf(0, 5), 0);
        due("P4 the 17th with amount 0", desk.net(0, 5, 0), true);
        due("P4 one of the 16 still changes", desk.net(0, 0, 4), true);
        due("P4 another item is apart", desk.net(1, 5, 1), true);
        due("P4 one back to 0", desk.net(0, 70, -8), true);
        due("P4 its net", desk.netOf(0, 70), 0);
        due("P4 room for another", desk.net(0, 5, -2), true);
        due("P4 none for one more", desk.net(0, 70, 1), false);
        due("P4 last back to 0", desk.net(0, 150, -16), true);
        due("P4 room again", desk.net(0, 70, 9), true);
        for (int p = 1; p < 15; p++) {
            due("P4 kept " + p, desk.netOf(0, 10 * p), p == 7 ? 9 : p + 1);
        }
        due("P4 kept 0", desk.netOf(0, 0), 5);
        due("P4 kept 5", desk.netOf(0, 5), -2);
        due("P4 kept none", desk.netOf(0, 150), 0);
    }

    private static void netOnItemsNotThere() {
        CountedDesk desk = CountedDesk.withItems(3);
        due("P4 item not yet", desk.net(3, 0, 1), false);
        for (int i : NO_ITEMS) {
            due("P4 no item " + i, desk.net(i, 0, 1), false);
        }
        desk.go(1);
        due("P4 gone", desk.net(1, 0, 1), false);
        due("P4 gone, amount 0", desk.net(1, 0, 0), false);
        due("P4 before it is done", desk.net(2, 0, 1), true);
        desk.perform();
        due("P4 done", desk.net(2, 0, 1), false);
    }

    private static void go() {
        CountedDesk desk = CountedDesk.withItems(3);
        due("P5 not yet", desk.go(3), false);
        for (int i : NO_ITEMS) {
            due("P5 no item " + i, desk.go(i), false);
        }
        due("P5 refused, all there", desk.count(1), 3);
        due("P5 goes", desk.go(0), true);
        due("P5 goes once", desk.go(0), false);
        due("P5 two there", desk.count(1), 2);
        due("P5 three in all", desk.count(0), 3);
        due("P5 two done", desk.perform(), 2);
        due("P5 done items cannot go", desk.go(1), false);
        due("P5 none there", desk.count(1), 0);
    }

    private static void solveOrder() {
        CountedDesk desk = CountedDesk.withItems(4);
        desk.place(0, 5, 0);
        desk.place(1, 100, 0);
        desk.net(0, 0, -6);
        desk.net(0, 1, -1);
        desk.net(1, 1, -1);
        desk.net(2, 2, 1);
        desk.net(3, 0, -1);
        due("P6 behind one that cannot", desk.solve(), 1);
        due("P6 shares another position", desk.in(1), false);
        due("P6 takes nothing", desk.in(2), true);
        due("P6 shares the position", desk.in(3), false);
        desk.net(0, 0, 6);
        desk.net(0, 1, 1);
        due("P6 takes no more, no order", desk.solve(), 4);

        CountedDesk gone = CountedDesk.withItems(2);
        gone.place(0, 5, 0);
        gone.net(0, 0, -6);
        gone.net(1, 0, -5);
        due("P6 order holds", gone.solve(), 0);
        gone.go(0);
        due("P6 an item gone holds up none", gone.solve(), 1);

        CountedDesk giver = CountedDesk.withItems(2);
        giver.net(0, 0, 3);
        giver.net(0, 1, -1);
        giver.net(1, 0, -1);
        due("P6 a giver that cannot gives nothing", giver.solve(), 0);
        giver.place(0, 1, 0);
        due("P6 a giver is not before a taker", giver.solve(), 1);
        due("P6 the taker", giver.in(1), true);
        due("P6 the giver", giver.in(0), false);

        CountedDesk behind = CountedDesk.withItems(2);
        behind.net(0, 0, -2);
        behind.net(1, 0, 1);
        due("P6 a giver behind a taker that cannot", behind.solve(), 1);
        due("P6 that giver", behind.in(1), true);

        CountedDesk later = CountedDesk.withItems(3);
        later.place(0, 5, 0);
        later.net(0, 0, -3);
        later.net(1, 0, -3);
        later.net(2, 0, -1);
        due("P6 first ones first", later.solve(), 1);
        due("P6 the first", later.in(0), true);
    }

    private static void solveFloors() {
        CountedDesk desk = CountedDesk.withItems(2);
        desk.place(0, 10, 4);
        desk.net(0, 0, -6);
        due("P6 down to the floor", desk.solve(), 2);
        desk.net(0, 0, -1);
        due("P6 one below the floor", desk.solve(), 1);
        desk.net(1, 0, 1);
        due("P6 a later gift counts", desk.solve(), 2);
        desk.place(0, -10, -16);
        due("P6 floor below 0", desk.solve(), 2);
        due("P6 solving does nothing", desk.value(0), -10);
        due("P6 solving ends no item", desk.count(1), 2);

        CountedDesk ring = CountedDesk.withItems(3);
        for (int i = 0; i < 3; i++) {
            ring.net(i, i, -NET);
            ring.net(i, (i + 1) % 3, NET);
        }
        due("P6 a ring without values", ring.solve(), 3);
        ring.net(1, 2, -1);
        due("P6 a ring that lacks one", ring.solve(), 0);
        ring.place(2, 0, -1);
        due("P6 a ring with room for one", ring.solve(), 3);
    }

    private static void solveExtremes() {
        CountedDesk desk = CountedDesk.withItems(200);
        desk.place(0, VALUE, -VALUE);
        desk.place(1, -VALUE, -VALUE);
        for (int i = 0; i < 100; i++) {
            desk.net(i, 0, NET);
            desk.net(100 + i, 1, -NET);
        }
        due("P6 most gifts, most takes", desk.solve(), 100);
        due("P6 givers in", desk.in(99), true);
        due("P6 takers out", desk.in(100), false);
        due("P8 far above the top", desk.perform(), -1);

        CountedDesk deep = CountedDesk.withItems(200);
        deep.place(0, VALUE, -VALUE);
        for (int i = 0; i < 200; i++) {
            deep.net(i, 0, -NET);
        }
        due("P8 most takes", deep.perform(), 200);
        due("P9 after most takes", deep.value(0), VALUE - 200 * NET);
    }

    private static void solveCascade() {
        // As long as 512 calls on one object allow.
        int last = 168;
        CountedDesk desk = CountedDesk.withItems(last + 1);
        for (int i = 0; i <= last; i++) {
            desk.net(i, i + 1, -1);
            if (i > 0) {
                desk.net(i, i, 1);
            }
        }
        due("P6 each lives on the next, the last on nothing", desk.solve(), 0);
        desk.place(last + 1, 1, 0);
        due("P6 the last one has enough", desk.solve(), last + 1);
        due("P8 and all are done", desk.perform(), last + 1);
        due("P9 the last value", desk.value(last + 1), 0);
    }

    private static void in() {
        CountedDesk desk = CountedDesk.withItems(2);
        due("P7 none at first", desk.in(0), false);
        for (int i : NO_ITEMS) {
            due("P7 no item " + i, desk.in(i), false);
        }
        desk.net(1, 0, -1);
        desk.solve();
        due("P7 in", desk.in(0), true);
        due("P7 not in", desk.in(1), false);
        desk.place(0, 1, 0);
        due("P7 the old set stands", desk.in(1), false);
        desk.item();
        due("P7 a new item is not in the old set", desk.in(2), false);
        desk.go(0);
        due("P7 gone, but in the set", desk.in(0), true);
        due("P11 gone, but in the set", desk.count(2), 1);
        due("P7 another set", desk.solve(), 2);
        due("P7 gone, not in the other set", desk.in(0), false);
        due("P7 in the other set", desk.in(1), true);
        desk.net(1, 0, -9);
        due("P7 a net changes no set", desk.in(1), true);
        desk.perform();
        due("P7 perform makes another set", desk.in(1), false);
        due("P7 done, but in the set", desk.in(2), true);
        due("P7 nothing beyond the last", desk.in(3), false);
    }

    private static void perform() {
        CountedDesk desk = CountedDesk.withItems(3);
        desk.place(0, 10, 0);
        desk.net(0, 0, -10);
        desk.net(0, 299, 4);
        desk.net(1, 299, -4);
        desk.net(1, 1, 4);
        desk.net(2, 0, -1);
        due("P8 two are done", desk.perform(), 2);
        due("P8 value taken from", desk.value(0), 0);
        due("P8 value given and taken", desk.value(299), 0);
        due("P8 value given to", desk.value(1), 4);
        due("P8 one is there", desk.count(1), 1);
        due("P8 in all", desk.count(0), 3);
        due("P8 in the set", desk.count(2), 2);
        due("P8 nothing is done twice", desk.perform(), 0);
        due("P8 value kept", desk.value(1), 4);
        due("P8 the set without items", desk.count(2), 0);
        due("P8 done before, not in it", desk.in(0), false);
        desk.place(0, 1, 0);
        due("P8 done items hold up none", desk.perform(), 1);
        due("P8 the last take", desk.value(0), 0);
        due("P8 the floor stays", desk.place(0, 0, 1), false);
    }

    private static void performTooHigh() {
        CountedDesk desk = CountedDesk.withItems(2);
        desk.place(3, VALUE - 5, 0);
        desk.place(4, 1, 0);
        desk.net(0, 3, 6);
        desk.net(0, 4, -1);
        due("P8 one above", desk.perform(), -1);
        due("P8 -1, value kept", desk.value(3), VALUE - 5);
        due("P8 -1, other value kept", desk.value(4), 1);
        due("P8 -1, items there", desk.count(1), 2);
        due("P8 -1, it is the set", desk.count(2), 2);
        due("P8 -1, in the set", desk.in(0), true);
        due("P8 -1, net kept", desk.netOf(0, 3), 6);
        due("P8 solve sees no top", desk.solve(), 2);
        desk.net(1, 3, -1);
        due("P8 at the top, all at once", desk.perform(), 2);
        due("P8 value at the top", desk.value(3), VALUE);
        due("P8 other value", desk.value(4), 0);

        CountedDesk last = CountedDesk.withItems(1);
        last.place(299, VALUE, VALUE);
        last.net(0, 299, 1);
        due("P8 last position above", last.perform(), -1);
    }

    private static void value() {
        CountedDesk desk = new CountedDesk();
        for (int p = 0; p < 300; p++) {
            desk.place(p, p + 1, 0);
        }
        due("P9 first", desk.value(0), 1);
        due("P9 last", desk.value(299), 300);
        for (int p : NO_POSITIONS) {
            due("P9 no position " + p, desk.value(p), 0);
        }
    }

    private static void netOf() {
        CountedDesk desk = CountedDesk.withItems(3);
        desk.net(0, 0, 5);
        desk.net(1, 0, -6);
        desk.net(2, 299, 7);
        due("P10 one", desk.netOf(0, 0), 5);
        due("P10 another", desk.netOf(1, 0), -6);
        due("P10 last position", desk.netOf(2, 299), 7);
        due("P10 none", desk.netOf(2, 0), 0);
        due("P10 item not yet", desk.netOf(3, 0), 0);
        for (int i : NO_ITEMS) {
            due("P10 no item " + i, desk.netOf(i, 0), 0);
        }
        for (int p : NO_POSITIONS) {
            due("P10 no position " + p, desk.netOf(0, p), 0);
        }
        desk.go(0);
        due("P10 gone", desk.netOf(0, 0), 0);
        desk.perform();
        due("P10 done", desk.netOf(2, 299), 0);
        due("P10 still there", desk.netOf(1, 0), -6);
    }

    private static void count() {
        CountedDesk desk = CountedDesk.withItems(5);
        desk.net(4, 0, -1);
        desk.go(0);
        due("P11 no set yet", desk.count(2), 0);
        desk.solve();
        due("P11 in all", desk.count(0), 5);
        due("P11 there", desk.count(1), 4);
        due("P11 in the set", desk.count(2), 3);
        due("P11 -1", desk.count(-1), -1);
        due("P11 3", desk.count(3), -1);
        due("P11 lowest", desk.count(Integer.MIN_VALUE), -1);
        due("P11 highest", desk.count(Integer.MAX_VALUE), -1);
    }
}
