/** The boundary cases of the promises 1 to 11, one method for each clause that names one. */
public final class EdgesTest {
    private static final long VALUE = 1_000_000_000_000_000_000L;
    private static final long NET = 1_000_000_000_000_000L;
    private static final int LOWEST = Integer.MIN_VALUE;
    private static final int HIGHEST = Integer.MAX_VALUE;
    private static final Check CHECK = new Check();

    public static void main(String[] args) {
        newNoItems();
        placeTrue();
        placeNoSuchPosition();
        placeNotAsSaid();
        placeBelowFloor();
        itemBehindAll();
        itemFull();
        netComes();
        netNotThere();
        netNoSuchPosition();
        netNotAsSaid();
        netOneMoreThan16();
        goGoes();
        goNotThere();
        solveHowMany();
        solveUntilAnother();
        inNotThereAnyMore();
        inNoneAtFirst();
        performAllNets();
        performFloorsStay();
        performNotThere();
        performAboveTop();
        performItIsTheSet();
        performNothingDone();
        valueNoSuch();
        netOfNone();
        netOfNotThere();
        countInAll();
        countThere();
        countInSet();
        countAnotherWhat();
        CHECK.end();
    }

    private static void due(String call, long got, long want) {
        CHECK.due(call, got, want);
    }

    private static void due(String call, boolean got, boolean want) {
        CHECK.due(call, got, want);
    }

    private static void newNoItems() {
        CHECK.sentence("1 GridDesk(): No items");
        CountedDesk desk = new CountedDesk();
        for (int what = 0; what < 3; what++) {
            due("count " + what, desk.count(what), 0);
        }
        for (int i : new int[] {0, 1, 199}) {
            due("go " + i, desk.go(i), false);
            due("net " + i, desk.net(i, 0, 1), false);
            due("netOf " + i, desk.netOf(i, 0), 0);
            due("in " + i, desk.in(i), false);
        }
        due("solve", desk.solve(), 0);
        due("perform", desk.perform(), 0);
        due("the first item", desk.item(), 0);
        due("another object has none", new CountedDesk().count(0), 0);
    }

    private static void placeTrue() {
        CHECK.sentence("2 place: A position gets a value and a floor: true");
        CountedDesk desk = CountedDesk.withItems(1);
        desk.net(0, 0, -1);
        due("value 0, floor 0", desk.place(0, 0, 0), true);
        due("floor 0 holds", desk.solve(), 0);
        due("floor one lower", desk.place(0, 0, -1), true);
        due("floor -1 holds", desk.solve(), 1);
        due("floor back", desk.place(0, 0, 0), true);
        due("floor 0 holds again", desk.solve(), 0);
        due("the same again", desk.place(0, 0, 0), true);
        due("value one higher", desk.place(0, 1, 0), true);
        due("value 1", desk.value(0), 1);
        due("enough now", desk.solve(), 1);
        due("placed lower while it is in the set", desk.place(0, 0, 0), true);
        due("not enough for perform", desk.perform(), 0);
    }

    private static void placeNoSuchPosition() {
        CHECK.sentence("2 place: false if there is no such position");
        CountedDesk desk = new CountedDesk();
        due("0", desk.place(0, 4, 4), true);
        due("299", desk.place(299, 5, 5), true);
        for (int p : new int[] {-1, 300, LOWEST, HIGHEST, -300, 1 << 16}) {
            due("place " + p, desk.place(p, 6, 0), false);
            due("value " + p, desk.value(p), 0);
        }
        due("value 0", desk.value(0), 4);
        due("value 299", desk.value(299), 5);
    }

    private static void placeNotAsSaid() {
        CHECK.sentence("2 place: false if .. one is not as said");
        CountedDesk desk = CountedDesk.withItems(1);
        desk.place(0, 7, 5);
        due("value above", desk.place(0, VALUE + 1, 5), false);
        due("floor below", desk.place(0, 7, -VALUE - 1), false);
        due("both above", desk.place(0, VALUE + 1, VALUE + 1), false);
        due("both below", desk.place(0, -VALUE - 1, -VALUE - 1), false);
        due("value kept", desk.value(0), 7);
        desk.net(0, 0, -3);
        due("floor kept, not lower", desk.solve(), 0);
        desk.net(0, 0, 1);
        due("floor kept, not higher", desk.solve(), 1);
        due("value at the top", desk.place(0, VALUE, 5), true);
        due("floor at the bottom", desk.place(0, 7, -VALUE), true);
        due("both at the top", desk.place(0, VALUE, VALUE), true);
        due("both at the bottom", desk.place(0, -VALUE, -VALUE), true);
    }

    private static void placeBelowFloor() {
        CHECK.sentence("2 place: false if .. the value is below the floor");
        CountedDesk desk = CountedDesk.withItems(1);
        desk.place(0, 7, 5);
        due("one below", desk.place(0, 9, 10), false);
        due("one below the old floor", desk.place(0, 4, 5), false);
        due("far below", desk.place(0, -VALUE, VALUE), false);
        due("value kept", desk.value(0), 7);
        desk.net(0, 0, -2);
        due("floor kept", desk.solve(), 1);
        due("at the floor", desk.place(0, 10, 10), true);
        due("below the old floor, with a new one", desk.place(0, 4, 4), true);
        due("one above", desk.place(0, 11, 10), true);
    }

    private static void itemBehindAll() {
        CHECK.sentence("3 item: A new item, behind all: which");
        CountedDesk desk = new CountedDesk();
        due("first", desk.item(), 0);
        due("second", desk.item(), 1);
        desk.place(0, 1, 0);
        desk.net(0, 0, -1);
        desk.go(1);
        due("third", desk.item(), 2);
        desk.net(2, 0, -1);
        due("it stands behind", desk.solve(), 1);
        due("the first is in", desk.in(0), true);
        due("the new one is not", desk.in(2), false);
    }

    private static void itemFull() {
        CHECK.sentence("3 item: -1 if there are 200");
        CountedDesk desk = CountedDesk.withItems(198);
        due("the 199th", desk.item(), 198);
        due("the 200th", desk.item(), 199);
        due("one more", desk.item(), -1);
        due("in all", desk.count(0), 200);
        due("there", desk.count(1), 200);
        due("in the set", desk.count(2), 0);
        desk.go(0);
        due("one gone", desk.item(), -1);
        desk.perform();
        due("all done", desk.item(), -1);
        due("in all still", desk.count(0), 200);
        due("none there", desk.count(1), 0);
        due("the set stands", desk.count(2), 199);
    }

    private static void netComes() {
        CHECK.sentence("4 net: To the net of an item for a position comes an amount: true");
        CountedDesk desk = CountedDesk.withItems(200);
        long sum = 0;
        for (long amount : new long[] {1, -2, 0, 3, -2, NET, -1, -NET + 1, -NET, 2 * NET, -NET}) {
            due("amount " + amount, desk.net(199, 299, amount), true);
            sum += amount;
            due("net after " + amount, desk.netOf(199, 299), sum);
        }
        due("another position", desk.netOf(199, 298), 0);
        due("another item", desk.netOf(198, 299), 0);
        due("no value by a net", desk.value(299), 0);
    }

    private static void netNotThere() {
        CHECK.sentence("4 net: false if the item is not there");
        CountedDesk desk = CountedDesk.withItems(3);
        for (int i : new int[] {-1, 3, 199, 200, LOWEST, HIGHEST}) {
            due("never came " + i, desk.net(i, 0, 1), false);
        }
        due("the first", desk.net(0, 0, 1), true);
        due("the last", desk.net(2, 0, -2), true);
        desk.go(1);
        due("gone", desk.net(1, 0, 1), false);
        due("gone, by 0", desk.net(1, 0, 0), false);
        desk.perform();
        due("done", desk.net(0, 0, 1), false);
        due("done, by 0", desk.net(0, 0, 0), false);
        due("still there", desk.net(2, 0, 1), true);
        due("the next one comes", desk.item(), 3);
        due("it came without a net", desk.netOf(3, 0), 0);
        due("value", desk.value(0), 1);
    }

    private static void netNoSuchPosition() {
        CHECK.sentence("4 net: false if .. there is no such position");
        CountedDesk desk = CountedDesk.withItems(1);
        for (int p : new int[] {-1, 300, LOWEST, HIGHEST}) {
            due("by 1 at " + p, desk.net(0, p, 1), false);
            due("by 0 at " + p, desk.net(0, p, 0), false);
            due("net at " + p, desk.netOf(0, p), 0);
        }
        for (int k = 0; k < 16; k++) {
            due("all 16 are free", desk.net(0, k == 0 ? 299 : k - 1, 1), true);
        }
        due("perform", desk.perform(), 1);
        due("value 0", desk.value(0), 1);
        due("value 299", desk.value(299), 1);
    }

    private static void netNotAsSaid() {
        CHECK.sentence("4 net: false if .. the net would not be as said");
        CountedDesk desk = CountedDesk.withItems(1);
        desk.net(0, 0, NET - 1);
        due("two above", desk.net(0, 0, 3), false);
        due("one above", desk.net(0, 0, 2), false);
        due("kept", desk.netOf(0, 0), NET - 1);
        due("at the top", desk.net(0, 0, 1), true);
        due("one below the bottom", desk.net(0, 0, -2 * NET - 1), false);
        due("kept at the top", desk.netOf(0, 0), NET);
        due("at the bottom", desk.net(0, 0, -2 * NET), true);
        due("below", desk.net(0, 0, -1), false);
        due("wraps below", desk.net(0, 0, Long.MIN_VALUE), false);
        due("wraps not above", desk.net(0, 0, Long.MAX_VALUE), false);
        due("kept at the bottom", desk.netOf(0, 0), -NET);
        due("refused ones use no position", desk.net(0, 1, NET + 1), false);
        for (int p = 1; p < 16; p++) {
            due("15 more", desk.net(0, p, 1), true);
        }
        due("the 17th", desk.net(0, 16, 1), false);
    }

    private static void netOneMoreThan16() {
        CHECK.sentence("4 net: false if .. one more position than 16 would have one");
        CountedDesk desk = CountedDesk.withItems(1);
        for (int p = 0; p < 15; p++) {
            desk.net(0, p, 1);
        }
        due("by 0, the 16th stays free", desk.net(0, 200, 0), true);
        due("the 16th", desk.net(0, 15, 1), true);
        due("the 17th", desk.net(0, 16, 1), false);
        due("the 17th below 0", desk.net(0, 16, -1), false);
        due("by 0, so no more than 16 have one", desk.net(0, 16, 0), true);
        due("its net", desk.netOf(0, 16), 0);
        due("one of the 16", desk.net(0, 15, -2), true);
        due("one of the 16 to 0", desk.net(0, 15, 1), true);
        due("by 0 again", desk.net(0, 15, 0), true);
        due("another 16th", desk.net(0, 16, -1), true);
        due("another 17th", desk.net(0, 15, 1), false);
        desk.place(16, 1, 0);
        due("all 16 are done", desk.perform(), 1);
        for (int p = 0; p < 17; p++) {
            due("value " + p, desk.value(p), p < 15 ? 1 : 0);
        }
    }

    private static void goGoes() {
        CHECK.sentence("5 go: An item goes: true");
        CountedDesk desk = CountedDesk.withItems(200);
        due("the first", desk.go(0), true);
        due("the last", desk.go(199), true);
        due("there", desk.count(1), 198);
        for (int i = 1; i < 199; i++) {
            due("go " + i, desk.go(i), true);
        }
        due("none there", desk.count(1), 0);
        due("none to do", desk.perform(), 0);
    }

    private static void goNotThere() {
        CHECK.sentence("5 go: false if it is not there");
        CountedDesk desk = CountedDesk.withItems(3);
        for (int i : new int[] {-1, 3, 199, 200, LOWEST, HIGHEST}) {
            due("never came " + i, desk.go(i), false);
        }
        due("all there", desk.count(1), 3);
        due("goes", desk.go(2), true);
        due("gone", desk.go(2), false);
        due("two there", desk.count(1), 2);
        desk.net(1, 0, -1);
        desk.perform();
        due("done", desk.go(0), false);
        due("one there", desk.count(1), 1);
        due("came", desk.item(), 3);
        due("goes now", desk.go(3), true);
    }

    private static void solveHowMany() {
        CHECK.sentence("6 solve: The greatest good set is looked for: how many items it has");
        CountedDesk desk = new CountedDesk();
        due("empty", desk.solve(), 0);
        for (int i = 0; i < 200; i++) {
            desk.item();
        }
        due("full, no nets", desk.solve(), 200);
        due("again", desk.solve(), 200);
        desk.net(0, 299, -1);
        due("all but the first", desk.solve(), 199);
        for (int i = 1; i < 200; i++) {
            desk.net(i, 299, -1);
        }
        due("none", desk.solve(), 0);
        desk.place(299, 199, 0);
        due("all but the last", desk.solve(), 199);
        due("the last", desk.in(199), false);
        due("the one before", desk.in(198), true);
        desk.place(299, 200, 0);
        due("all", desk.solve(), 200);
        due("nothing is done", desk.value(299), 200);
        due("all are there", desk.count(1), 200);
        due("nets are kept", desk.netOf(199, 299), -1);
    }

    private static void solveUntilAnother() {
        CHECK.sentence("6 solve: It is THE SET from now on, until there is another one");
        CountedDesk desk = CountedDesk.withItems(2);
        desk.place(0, 1, 0);
        desk.net(0, 0, -1);
        desk.solve();
        desk.place(0, 0, 0);
        desk.net(1, 0, -1);
        desk.item();
        desk.go(0);
        due("first in the old set", desk.in(0), true);
        due("second in the old set", desk.in(1), true);
        due("third not in the old set", desk.in(2), false);
        due("how many in the old set", desk.count(2), 2);
        due("the new set", desk.solve(), 1);
        due("first", desk.in(0), false);
        due("second", desk.in(1), false);
        due("third", desk.in(2), true);
        desk.go(2);
        due("an empty set is another one", desk.solve(), 0);
        due("third in the empty set", desk.in(2), false);
        due("how many", desk.count(2), 0);
    }

    private static void inNotThereAnyMore() {
        CHECK.sentence("7 in: Whether an item is in the set (also when it is not there any more)");
        CountedDesk desk = CountedDesk.withItems(3);
        desk.net(2, 0, -1);
        desk.solve();
        desk.go(0);
        desk.go(2);
        due("gone from the set", desk.in(0), true);
        due("gone, was not in it", desk.in(2), false);
        due("perform", desk.perform(), 1);
        due("done", desk.in(1), true);
        due("gone before", desk.in(0), false);
        due("perform again", desk.perform(), 0);
        due("done before", desk.in(1), false);
    }

    private static void inNoneAtFirst() {
        CHECK.sentence("7 in: at first there is none in it");
        CountedDesk desk = CountedDesk.withItems(200);
        for (int i = 0; i < 200; i++) {
            due("at first " + i, desk.in(i), false);
        }
        for (int i : new int[] {-1, 200, LOWEST, HIGHEST}) {
            due("never came " + i, desk.in(i), false);
        }
        desk.solve();
        due("first in", desk.in(0), true);
        due("last in", desk.in(199), true);
        for (int i : new int[] {-1, 200, LOWEST, HIGHEST}) {
            due("never came, after solve " + i, desk.in(i), false);
        }
    }

    private static void performAllNets() {
        CHECK.sentence("8 perform: all its nets come to the values");
        CountedDesk desk = CountedDesk.withItems(3);
        for (int k = 0; k < 16; k++) {
            desk.place(299 - k, 50, 0);
            desk.net(0, 299 - k, k % 2 == 0 ? k + 1 : -k - 1);
            desk.net(1, 299 - k, -3);
        }
        desk.net(2, 299, -1000);
        desk.net(2, 0, 1);
        due("perform", desk.perform(), 2);
        for (int k = 0; k < 16; k++) {
            due("value " + k, desk.value(299 - k), 47 + (k % 2 == 0 ? k + 1 : -k - 1));
        }
        due("what is not in the set gives nothing", desk.value(0), 0);
        due("nothing is done twice", desk.perform(), 0);
        due("value kept", desk.value(299), 48);
    }

    private static void performFloorsStay() {
        CHECK.sentence("8 perform: all its nets come to the values (and nothing to the floors)");
        CountedDesk desk = CountedDesk.withItems(2);
        desk.place(0, 9, 4);
        desk.place(1, -9, -9);
        desk.net(0, 0, -3);
        desk.net(1, 1, 2);
        due("perform", desk.perform(), 2);
        for (int i = 2; i < 8; i++) {
            desk.item();
            desk.net(i, i < 5 ? 0 : 1, -1);
        }
        due("down to each floor", desk.perform(), 4);
        due("value over its floor", desk.value(0), 4);
        due("value given to and over its floor", desk.value(1), -9);
        due("the third at the one", desk.in(4), false);
        due("the third at the other", desk.in(7), false);
    }

    private static void performNotThere() {
        CHECK.sentence("8 perform: its items are not there any more. How many");
        CountedDesk desk = CountedDesk.withItems(200);
        desk.net(7, 0, -1);
        desk.go(9);
        due("perform", desk.perform(), 198);
        due("there", desk.count(1), 1);
        due("in all", desk.count(0), 200);
        due("one that is done goes", desk.go(0), false);
        due("the last that is done goes", desk.go(199), false);
        due("the one that is left goes", desk.go(7), true);
        due("none left", desk.perform(), 0);
    }

    private static void performAboveTop() {
        CHECK.sentence("8 perform: -1 if a value would be above 10 ^ 18");
        for (int p : new int[] {0, 150, 299}) {
            CountedDesk desk = CountedDesk.withItems(3);
            desk.place(p, VALUE - NET, -VALUE);
            desk.net(0, p, NET);
            desk.net(1, p, 1);
            due("one above", desk.perform(), -1);
            desk.net(2, p, -1);
            due("at the top, at once", desk.perform(), 3);
            due("value", desk.value(p), VALUE);
            due("at the top already", desk.perform(), 0);
        }
        CountedDesk smaller = CountedDesk.withItems(2);
        smaller.place(0, VALUE, 0);
        smaller.place(1, VALUE - 1, 0);
        smaller.net(0, 0, 1);
        smaller.net(1, 1, 1);
        due("no smaller set is done", smaller.perform(), -1);
        smaller.go(0);
        due("down to the one that fits", smaller.perform(), 1);
        due("value", smaller.value(1), VALUE);
        due("solve does not ask for the top", topForSolve(), 1);
    }

    private static int topForSolve() {
        CountedDesk desk = CountedDesk.withItems(1);
        desk.place(0, VALUE, VALUE);
        desk.net(0, 0, NET);
        return desk.solve();
    }

    private static void performItIsTheSet() {
        CHECK.sentence("8 perform: -1 ..: then it is the set");
        CountedDesk desk = CountedDesk.withItems(2);
        desk.net(0, 0, 1);
        desk.net(1, 1, -1);
        desk.solve();
        desk.place(0, VALUE, 0);
        desk.place(1, 1, 0);
        desk.item();
        desk.net(2, 2, -1);
        due("perform", desk.perform(), -1);
        due("how many", desk.count(2), 2);
        due("in as before", desk.in(0), true);
        due("newly in", desk.in(1), true);
        due("not in", desk.in(2), false);
        desk.place(1, 0, 0);
        due("perform again", desk.perform(), -1);
        due("a smaller set", desk.count(2), 1);
        due("no longer in", desk.in(1), false);
    }

    private static void performNothingDone() {
        CHECK.sentence("8 perform: -1 ..: but nothing is done");
        CountedDesk desk = CountedDesk.withItems(2);
        desk.place(0, 5, 0);
        desk.place(298, VALUE, 0);
        desk.place(299, 5, 0);
        desk.net(0, 0, -5);
        desk.net(0, 298, 1);
        desk.net(1, 299, -5);
        due("perform", desk.perform(), -1);
        due("a value before", desk.value(0), 5);
        due("the value", desk.value(298), VALUE);
        due("a value behind", desk.value(299), 5);
        due("there", desk.count(1), 2);
        due("in all", desk.count(0), 2);
        due("net", desk.netOf(0, 0), -5);
        due("net that is too much", desk.netOf(0, 298), 1);
        due("a net can change", desk.net(0, 298, -1), true);
        due("an item can go", desk.go(1), true);
        due("perform again", desk.perform(), 1);
        due("now it is done", desk.value(0), 0);
        due("the gone one is not", desk.value(299), 5);
    }

    private static void valueNoSuch() {
        CHECK.sentence("9 value: The value of a position; 0 if there is no such one");
        CountedDesk desk = new CountedDesk();
        for (int p = 0; p < 300; p++) {
            desk.place(p, VALUE - p, -VALUE + p);
        }
        due("first", desk.value(0), VALUE);
        due("last", desk.value(299), VALUE - 299);
        for (int p : new int[] {-1, 300, LOWEST, HIGHEST}) {
            due("value " + p, desk.value(p), 0);
        }
    }

    private static void netOfNone() {
        CHECK.sentence("10 netOf: The net of an item for a position; 0 if there is none");
        CountedDesk desk = CountedDesk.withItems(2);
        due("no net at all", desk.netOf(0, 0), 0);
        desk.net(0, 0, NET);
        desk.net(0, 299, -NET);
        due("highest", desk.netOf(0, 0), NET);
        due("lowest", desk.netOf(0, 299), -NET);
        due("none beside the first", desk.netOf(0, 1), 0);
        due("none beside the last", desk.netOf(0, 298), 0);
        due("none of another item", desk.netOf(1, 0), 0);
        desk.net(0, 0, -NET);
        due("none any more", desk.netOf(0, 0), 0);
        for (int p : new int[] {-1, 300, LOWEST, HIGHEST}) {
            due("no position " + p, desk.netOf(0, p), 0);
        }
    }

    private static void netOfNotThere() {
        CHECK.sentence("10 netOf: 0 if .. the item is not there");
        CountedDesk desk = CountedDesk.withItems(3);
        for (int i = 0; i < 3; i++) {
            desk.net(i, 0, 10 + i);
        }
        for (int i : new int[] {-1, 3, 199, 200, LOWEST, HIGHEST}) {
            due("never came " + i, desk.netOf(i, 0), 0);
        }
        desk.solve();
        due("solved", desk.netOf(0, 0), 10);
        desk.go(0);
        due("gone, in the set", desk.netOf(0, 0), 0);
        desk.net(2, 1, -1);
        desk.perform();
        due("done", desk.netOf(1, 0), 0);
        due("left", desk.netOf(2, 0), 12);
        due("no position, no item", desk.netOf(-1, -1), 0);
        due("no position, no item above", desk.netOf(200, 300), 0);
    }

    private static void countInAll() {
        CHECK.sentence("11 count: 0 how many items there were in all");
        CountedDesk desk = new CountedDesk();
        due("empty", desk.count(0), 0);
        for (int i = 1; i <= 200; i++) {
            desk.item();
            due("after " + i, desk.count(0), i);
        }
        desk.item();
        due("full", desk.count(0), 200);
        desk.go(0);
        due("one gone", desk.count(0), 200);
        desk.perform();
        due("the others done", desk.count(0), 200);
    }

    private static void countThere() {
        CHECK.sentence("11 count: 1 how many are there");
        CountedDesk desk = new CountedDesk();
        due("empty", desk.count(1), 0);
        for (int i = 0; i < 200; i++) {
            desk.item();
        }
        desk.item();
        due("full", desk.count(1), 200);
        desk.go(5);
        desk.go(5);
        desk.go(200);
        due("one gone", desk.count(1), 199);
        desk.net(6, 0, -1);
        desk.solve();
        due("solved", desk.count(1), 199);
        desk.go(7);
        due("one of the set gone", desk.count(1), 198);
        desk.perform();
        due("done but one", desk.count(1), 1);
        desk.go(6);
        due("none", desk.count(1), 0);
        desk.perform();
        due("none still", desk.count(1), 0);
    }

    private static void countInSet() {
        CHECK.sentence("11 count: 2 how many are in the set");
        CountedDesk desk = CountedDesk.withItems(200);
        due("at first", desk.count(2), 0);
        desk.solve();
        due("all", desk.count(2), 200);
        desk.go(0);
        due("gone, but in it", desk.count(2), 200);
        desk.net(1, 0, -1);
        due("not looked for again", desk.count(2), 200);
        desk.perform();
        due("done, but in it", desk.count(2), 198);
        desk.perform();
        due("none in it", desk.count(2), 0);
    }

    private static void countAnotherWhat() {
        CHECK.sentence("11 count: -1 for another what");
        CountedDesk desk = CountedDesk.withItems(2);
        desk.solve();
        for (int what : new int[] {-1, 3, 4, LOWEST, HIGHEST}) {
            due("count " + what, desk.count(what), -1);
        }
        for (int what = 0; what < 3; what++) {
            due("count " + what, desk.count(what), 2);
        }
    }
}
