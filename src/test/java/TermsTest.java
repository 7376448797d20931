/** The boundary cases of 'What it is' and 'Terms', one method for each sentence. */
public final class TermsTest {
    private static final long VALUE = 1_000_000_000_000_000_000L;
    private static final long NET = 1_000_000_000_000_000L;
    private static final int[] NO_POSITIONS = {-1, 300, Integer.MIN_VALUE, Integer.MAX_VALUE};
    private static final Check CHECK = new Check();

    public static void main(String[] args) {
        keepsOrderAndFloorsAtOnce();
        atMost512Calls();
        positions();
        valueAndFloorRange();
        valueNeverBelowFloor();
        atFirstBothAre0();
        itemsInOrder();
        itemsAtMost200();
        netAtFirst0();
        netRange();
        netsUpTo16Positions();
        takesBelow0();
        thereUntilDone();
        thereUntilItGoes();
        closedBefore();
        closedThatAreThere();
        closedThatTake();
        goodAtTheFloor();
        goodForEachPosition();
        goodWithFurthestSums();
        emptySetIsGood();
        oneOrBothIsGood();
        greatestOfALongRow();
        CHECK.end();
    }

    private static void due(String call, long got, long want) {
        CHECK.due(call, got, want);
    }

    private static void due(String call, boolean got, boolean want) {
        CHECK.due(call, got, want);
    }

    private static void keepsOrderAndFloorsAtOnce() {
        CHECK.sentence("keeps the order at each position and all floors when it is done at once");
        CountedDesk desk = CountedDesk.withItems(200);
        for (int i = 0; i < 100; i++) {
            desk.net(i, 0, -NET);
            desk.net(100 + i, 0, NET);
        }
        due("takers before all givers, value at the floor", desk.solve(), 200);
        desk.net(199, 0, -1);
        due("one too little given in all", desk.solve(), 199);
        due("the last taker", desk.in(99), false);
        due("the taker before it", desk.in(98), true);
        desk.net(199, 0, 1);
        desk.place(0, VALUE, VALUE);
        due("givers that lead above the top on the way", desk.perform(), 200);
        due("value", desk.value(0), VALUE);
    }

    private static void atMost512Calls() {
        CHECK.sentence("An object is used for at most 512 calls after it has been made");
        CountedDesk desk = CountedDesk.withItems(200);
        for (int i = 0; i < 200; i++) {
            desk.net(i, 299 - i, i % 2 == 0 ? -1 : 1);
        }
        for (int i = 0; i < 99; i++) {
            desk.place(299 - 2 * i, 1, 0);
        }
        due("calls left", desk.callsLeft(), 13);
        for (int i = 0; i < 10; i++) {
            due("solve", desk.solve(), 199);
        }
        due("510th call", desk.net(199, 0, -1), true);
        due("511th call", desk.go(198), true);
        due("512th call", desk.perform(), 198);
    }

    private static void positions() {
        CHECK.sentence("POSITIONS are 0 .. 299");
        CountedDesk desk = CountedDesk.withItems(1);
        for (int p = 0; p < 300; p += 299) {
            due("place at " + p, desk.place(p, 10 + p, 0), true);
            due("net at " + p, desk.net(0, p, -p - 1), true);
            due("value at " + p, desk.value(p), 10 + p);
            due("netOf at " + p, desk.netOf(0, p), -p - 1);
        }
        for (int p : NO_POSITIONS) {
            due("place at " + p, desk.place(p, 10, 0), false);
            due("net at " + p, desk.net(0, p, -1), false);
            due("value at " + p, desk.value(p), 0);
            due("netOf at " + p, desk.netOf(0, p), 0);
        }
        due("both are taken from", desk.perform(), 1);
        due("value at 0", desk.value(0), 9);
        due("value at 299", desk.value(299), 9);

        CountedDesk each = new CountedDesk();
        for (int p = 0; p < 212; p++) {
            each.place(p, p, p);
        }
        for (int p = 0; p < 300; p++) {
            due("each has its own value " + p, each.value(p), p < 212 ? p : 0);
        }
    }

    private static void valueAndFloorRange() {
        CHECK.sentence("each with a VALUE and a FLOOR, from -10 ^ 18 to 10 ^ 18");
        CountedDesk desk = new CountedDesk();
        due("highest value, lowest floor", desk.place(0, VALUE, -VALUE), true);
        due("highest value", desk.value(0), VALUE);
        due("highest value and floor", desk.place(1, VALUE, VALUE), true);
        due("lowest value and floor", desk.place(2, -VALUE, -VALUE), true);
        due("lowest value", desk.value(2), -VALUE);
        for (int p = 0; p < 4; p++) {
            due("value above", desk.place(p, VALUE + 1, 0), false);
            due("value far above", desk.place(p, Long.MAX_VALUE, -VALUE), false);
            due("floor below", desk.place(p, 0, -VALUE - 1), false);
            due("floor far below", desk.place(p, VALUE, Long.MIN_VALUE), false);
            due("both above", desk.place(p, VALUE + 1, VALUE + 1), false);
            due("both far above", desk.place(p, Long.MAX_VALUE, Long.MAX_VALUE), false);
            due("both below", desk.place(p, -VALUE - 1, -VALUE - 1), false);
            due("both far below", desk.place(p, Long.MIN_VALUE, Long.MIN_VALUE), false);
            due("one above, one below", desk.place(p, VALUE + 1, -VALUE - 1), false);
            due("both at the ends", desk.place(p, Long.MAX_VALUE, Long.MIN_VALUE), false);
        }
        due("kept 0", desk.value(0), VALUE);
        due("kept 1", desk.value(1), VALUE);
        due("kept 2", desk.value(2), -VALUE);
        due("kept 3", desk.value(3), 0);
    }

    private static void valueNeverBelowFloor() {
        CHECK.sentence("the value never below the floor");
        CountedDesk desk = new CountedDesk();
        for (long floor : new long[] {-VALUE + 1, -1, 0, 1, VALUE - 1, VALUE}) {
            due("value at floor " + floor, desk.place(0, floor, floor), true);
            due("value below floor " + floor, desk.place(0, floor - 1, floor), false);
            due("value kept at floor " + floor, desk.value(0), floor);
        }
        due("value above the floor", desk.place(0, VALUE, VALUE - 1), true);
        due("lowest value, highest floor", desk.place(0, -VALUE, VALUE), false);
        due("a difference that wraps", desk.place(0, Long.MIN_VALUE, Long.MAX_VALUE), false);
        due("value kept", desk.value(0), VALUE);
        desk.item();
        desk.net(0, 0, -2);
        due("perform stays above too", desk.perform(), 0);
        desk.net(0, 0, 1);
        due("perform down to the floor", desk.perform(), 1);
        due("value at the floor", desk.value(0), VALUE - 1);
    }

    private static void atFirstBothAre0() {
        CHECK.sentence("at first both are 0");
        CountedDesk values = new CountedDesk();
        for (int p = 0; p < 300; p++) {
            due("value " + p, values.value(p), 0);
        }
        // A taker of 1 at each position: one floor below 0 would let one in.
        for (int half = 0; half < 300; half += 150) {
            CountedDesk floors = CountedDesk.withItems(150);
            for (int i = 0; i < 150; i++) {
                floors.net(i, half + i, -1);
            }
            due("floors from " + half, floors.solve(), 0);
            due("a floor for all that is given", floors.net(0, half + 1, 1), true);
            due("none but for a ring", floors.solve(), 0);
            floors.net(1, half, 1);
            due("a ring at floors of 0", floors.solve(), 2);
        }
    }

    private static void itemsInOrder() {
        CHECK.sentence("ITEMS are 0, 1, 2, .. in the order in which they came");
        CountedDesk desk = new CountedDesk();
        due("first", desk.item(), 0);
        desk.go(0);
        due("second, the first gone", desk.item(), 1);
        desk.perform();
        due("third, the second done", desk.item(), 2);
        desk.place(0, 1, 0);
        due("fourth", desk.item(), 3);
        desk.net(3, 0, -1);
        desk.net(2, 0, -1);
        due("the earlier item is first, not the earlier net", desk.solve(), 1);
        due("third in", desk.in(2), true);
        due("fourth in", desk.in(3), false);
    }

    private static void itemsAtMost200() {
        CHECK.sentence("ITEMS are 0, 1, 2, .. 200 at most");
        CountedDesk desk = CountedDesk.withItems(199);
        due("the 200th", desk.item(), 199);
        due("the 201st", desk.item(), -1);
        due("the 201st, again", desk.item(), -1);
        due("in all", desk.count(0), 200);
        due("there", desk.count(1), 200);
        due("net of the 200th", desk.net(199, 299, 3), true);
        due("netOf the 200th", desk.netOf(199, 299), 3);
        due("net of the 201st", desk.net(200, 299, 3), false);
        due("netOf the 201st", desk.netOf(200, 299), 0);
        due("go of the 201st", desk.go(200), false);
        due("all of them", desk.perform(), 200);
        due("the 200th in", desk.in(199), true);
        due("the 201st in", desk.in(200), false);
        due("value", desk.value(299), 3);
    }

    private static void netAtFirst0() {
        CHECK.sentence("each has a NET for each position, at first 0");
        CountedDesk desk = CountedDesk.withItems(200);
        for (int p = 0; p < 300; p++) {
            due("first item at " + p, desk.netOf(p % 200, p), 0);
        }
        CountedDesk other = CountedDesk.withItems(1);
        for (int p = 0; p < 16; p++) {
            other.net(0, p, -7);
        }
        other.go(0);
        other.item();
        for (int p = 0; p < 300; p++) {
            due("item after one with nets, at " + p, other.netOf(1, p), 0);
        }
    }

    private static void netRange() {
        CHECK.sentence("a NET for each position, from -10 ^ 15 to 10 ^ 15");
        for (int sign = -1; sign <= 1; sign += 2) {
            CountedDesk desk = CountedDesk.withItems(1);
            due("at once beyond", desk.net(0, 0, sign * (NET + 1)), false);
            due("none by that", desk.netOf(0, 0), 0);
            due("at once", desk.net(0, 0, sign * NET), true);
            due("its net", desk.netOf(0, 0), sign * NET);
            due("nothing more", desk.net(0, 0, 0), true);
            due("one more", desk.net(0, 0, sign), false);
            due("its net is kept", desk.netOf(0, 0), sign * NET);
            due("one back", desk.net(0, 0, -sign), true);
            due("two more", desk.net(0, 0, 2 * sign), false);
            due("one more from there", desk.net(0, 0, sign), true);
            due("beyond the other end", desk.net(0, 0, -sign * (2 * NET + 1)), false);
            due("its net is kept again", desk.netOf(0, 0), sign * NET);
            due("to the other end", desk.net(0, 0, -sign * 2 * NET), true);
            due("the other end", desk.netOf(0, 0), -sign * NET);
            due("a sum near the highest", desk.net(0, 0, Long.MAX_VALUE), false);
            due("a sum near the lowest", desk.net(0, 0, Long.MIN_VALUE), false);
            due("the other end is kept", desk.netOf(0, 0), -sign * NET);
            due("highest amount alone", desk.net(0, 1, Long.MAX_VALUE), false);
            due("lowest amount alone", desk.net(0, 1, Long.MIN_VALUE), false);
            due("none by these", desk.netOf(0, 1), 0);
        }
    }

    private static void netsUpTo16Positions() {
        CHECK.sentence("for up to 16 positions another one than 0");
        for (int sign = -1; sign <= 1; sign += 2) {
            CountedDesk desk = CountedDesk.withItems(2);
            for (int k = 0; k < 16; k++) {
                due("position " + k, desk.net(0, 299 - k, sign * (k + 1)), true);
            }
            due("the 17th", desk.net(0, 0, sign), false);
            due("the 17th, other side", desk.net(0, 0, -sign), false);
            due("the 17th, furthest", desk.net(0, 0, sign * NET), false);
            due("the 17th stays 0", desk.netOf(0, 0), 0);
            due("a full item changes a net", desk.net(0, 290, -sign * 11), true);
            due("the net beyond 0", desk.netOf(0, 290), -sign);
            due("still full", desk.net(0, 0, sign), false);
            due("a net back to 0", desk.net(0, 290, sign), true);
            due("that net", desk.netOf(0, 290), 0);
            due("one free", desk.net(0, 0, sign), true);
            due("full again", desk.net(0, 290, sign), false);
            due("another item is not full", desk.net(1, 290, sign), true);
            for (int k = 0; k < 16; k++) {
                due("kept " + k, desk.netOf(0, 299 - k), k == 9 ? 0 : sign * (k + 1));
            }
            due("kept, the last one", desk.netOf(0, 0), sign);
        }
        // First, middle and last of the 16, each given back and taken again.
        CountedDesk slots = CountedDesk.withItems(1);
        for (int p = 0; p < 16; p++) {
            slots.net(0, p, p + 1);
        }
        for (int p : new int[] {0, 15, 7, 14, 1}) {
            due("back to 0 at " + p, slots.net(0, p, -p - 1), true);
            due("free at " + p, slots.netOf(0, p), 0);
            due("again at " + p, slots.net(0, p, p + 1), true);
            due("full after " + p, slots.net(0, 16, 1), false);
        }
        for (int p = 0; p < 17; p++) {
            due("at the end " + p, slots.netOf(0, p), p < 16 ? p + 1 : 0);
        }
    }

    private static void takesBelow0() {
        CHECK.sentence("It TAKES from the positions for which its net is below 0");
        // Item 0 can never be in; item 1 takes from position 0, and waits if item 0 takes there.
        for (long net = -1; net <= 1; net++) {
            CountedDesk desk = CountedDesk.withItems(2);
            desk.place(0, 100, 0);
            desk.net(0, 1, -1);
            desk.net(0, 0, net);
            desk.net(1, 0, -1);
            due("behind a net of " + net, desk.solve(), net < 0 ? 0 : 1);
            due("item 1 behind a net of " + net, desk.in(1), net >= 0);
        }
        for (long net = -1; net <= 1; net++) {
            CountedDesk desk = CountedDesk.withItems(2);
            desk.place(0, 100, 0);
            desk.net(0, 1, -1);
            desk.net(0, 0, -1);
            desk.net(1, 0, net);
            due("with a net of " + net, desk.solve(), net < 0 ? 0 : 1);
        }
    }

    private static void thereUntilDone() {
        CHECK.sentence("An item is THERE until it is done");
        CountedDesk desk = CountedDesk.withItems(2);
        desk.net(0, 0, 5);
        desk.net(1, 1, -1);
        desk.solve();
        due("solved, still there", desk.count(1), 2);
        due("solved, net", desk.net(0, 0, 1), true);
        due("performed", desk.perform(), 1);
        due("there", desk.count(1), 1);
        due("net of the done one", desk.net(0, 0, 1), false);
        due("netOf the done one", desk.netOf(0, 0), 0);
        due("go of the done one", desk.go(0), false);
        due("the other one is there", desk.net(1, 1, 1), true);
        due("it is done next", desk.perform(), 1);
        due("none there", desk.count(1), 0);
        due("the first one's nets came once", desk.value(0), 6);
    }

    private static void thereUntilItGoes() {
        CHECK.sentence("An item is THERE until it .. goes");
        CountedDesk desk = CountedDesk.withItems(2);
        desk.net(0, 0, 5);
        desk.net(1, 0, 7);
        due("goes", desk.go(0), true);
        due("there", desk.count(1), 1);
        due("net of the gone one", desk.net(0, 0, 1), false);
        due("netOf the gone one", desk.netOf(0, 0), 0);
        due("go again", desk.go(0), false);
        due("only the other one", desk.solve(), 1);
        due("gone one in", desk.in(0), false);
        due("perform", desk.perform(), 1);
        due("what the gone one gave", desk.value(0), 7);
    }

    private static void closedBefore() {
        CHECK.sentence("CLOSED if, with each item in it, all items before that one .. are in it");
        CountedDesk desk = CountedDesk.withItems(3);
        desk.place(0, 2, 0);
        desk.net(0, 0, -1);
        desk.net(1, 0, -2);
        desk.net(2, 0, -1);
        due("the first alone", desk.solve(), 1);
        due("first in", desk.in(0), true);
        due("second in", desk.in(1), false);
        due("third in, though the first and it would fit", desk.in(2), false);
        desk.net(1, 0, 1);
        due("the first two", desk.solve(), 2);
        due("third in now", desk.in(2), false);

        CountedDesk chain = CountedDesk.withItems(4);
        for (int p = 0; p < 4; p++) {
            chain.place(p, 9, 0);
        }
        for (int i = 0; i < 4; i++) {
            chain.net(i, i, -1);
            chain.net(i, i + 1, -1);
        }
        due("item 3 takes from a position without a value", chain.solve(), 3);
        chain.place(0, 0, 0);
        due("held up one by the other", chain.solve(), 0);
        chain.place(0, 9, 0);
        chain.place(4, 1, 0);
        due("none held up", chain.solve(), 4);
    }

    private static void closedThatAreThere() {
        CHECK.sentence("all items before that one (that are there)");
        CountedDesk gone = CountedDesk.withItems(2);
        gone.place(0, 1, 0);
        gone.net(0, 0, -2);
        gone.net(1, 0, -1);
        due("behind one that is there", gone.solve(), 0);
        gone.go(0);
        due("behind one that is gone", gone.solve(), 1);

        CountedDesk done = CountedDesk.withItems(2);
        done.place(0, 2, 0);
        done.net(0, 0, -2);
        done.net(1, 0, -1);
        due("first", done.perform(), 1);
        due("nothing left", done.perform(), 0);
        done.place(0, 1, 0);
        due("behind one that is done", done.perform(), 1);
        due("value", done.value(0), 0);
    }

    private static void closedThatTake() {
        CHECK.sentence("that take from a position from which it takes");
        CountedDesk desk = CountedDesk.withItems(3);
        for (int p = 0; p < 3; p++) {
            desk.place(p, 5, 0);
        }
        desk.net(0, 0, -6);
        desk.net(0, 1, -1);
        desk.net(1, 2, -1);
        desk.net(2, 2, -1);
        due("no position with item 0", desk.solve(), 2);
        desk.net(1, 1, 1);
        due("gives where item 0 takes", desk.solve(), 2);
        desk.net(1, 1, -2);
        due("takes where item 0 takes", desk.solve(), 0);
        desk.net(2, 2, 1);
        due("the third takes nowhere", desk.solve(), 1);
        due("third in", desk.in(2), true);
    }

    private static void goodAtTheFloor() {
        CHECK.sentence("the value and the nets of all items in the set together are not below the floor");
        for (long floor : new long[] {-VALUE, -1, 0, 1, VALUE - 9}) {
            CountedDesk desk = CountedDesk.withItems(3);
            desk.place(0, floor + 9, floor);
            desk.net(0, 0, -12);
            desk.net(1, 0, 2);
            due("one below " + floor, desk.solve(), 2);
            due("taker below " + floor, desk.in(0), false);
            desk.net(2, 0, 1);
            due("at " + floor, desk.solve(), 3);
            desk.net(0, 0, 1);
            due("above " + floor, desk.solve(), 3);
            desk.net(0, 0, -2);
            due("one below again " + floor, desk.solve(), 2);
        }
    }

    private static void goodForEachPosition() {
        CHECK.sentence("for each position the value and the nets");
        for (int bad = 0; bad < 16; bad++) {
            CountedDesk desk = CountedDesk.withItems(1);
            for (int k = 0; k < 16; k++) {
                desk.place(299 - k * 19, 3, 1);
                desk.net(0, 299 - k * 19, -2);
            }
            due("each down to its floor", desk.solve(), 1);
            desk.place(299 - bad * 19, 3, 2);
            due("one floor too high, " + bad, desk.solve(), 0);
            due("perform then", desk.perform(), 0);
            due("nothing taken", desk.value(299), 3);
        }
    }

    private static void goodWithFurthestSums() {
        CHECK.sentence("the value and the nets of all items in the set together (furthest sums)");
        CountedDesk high = CountedDesk.withItems(200);
        high.place(0, VALUE, VALUE);
        for (int i = 0; i < 199; i++) {
            high.net(i, 0, NET);
        }
        high.net(199, 0, -NET);
        due("199 gifts above the top", high.solve(), 200);
        due("they cannot be done", high.perform(), -1);
        due("value", high.value(0), VALUE);

        CountedDesk low = CountedDesk.withItems(200);
        low.place(0, -VALUE + 199 * NET, -VALUE);
        for (int i = 0; i < 200; i++) {
            low.net(i, 0, -NET);
        }
        due("200 takes for 199", low.solve(), 199);
        due("the 199th", low.in(198), true);
        due("the 200th", low.in(199), false);
        due("perform", low.perform(), 199);
        due("down to the lowest", low.value(0), -VALUE);
    }

    private static void emptySetIsGood() {
        CHECK.sentence("The set without items is good");
        CountedDesk desk = new CountedDesk();
        due("no items", desk.solve(), 0);
        due("no items, perform", desk.perform(), 0);
        desk.item();
        desk.net(0, 0, -1);
        due("an item that cannot", desk.solve(), 0);
        due("an item that cannot, perform", desk.perform(), 0);
        due("it is there", desk.count(1), 1);
        desk.place(1, VALUE, VALUE);
        due("all values at the top", desk.perform(), 0);
        desk.go(0);
        due("none there any more", desk.solve(), 0);
        due("none there any more, perform", desk.perform(), 0);
    }

    private static void oneOrBothIsGood() {
        CHECK.sentence("what is in one of them or in both is good, too: so there is a GREATEST one");
        CountedDesk desk = CountedDesk.withItems(5);
        desk.place(1, 1, 0);
        desk.place(2, 1, 0);
        desk.net(0, 0, -2);
        for (int giver = 1; giver <= 2; giver++) {
            desk.net(giver, giver, -1);
            desk.net(giver, 0, 2);
        }
        desk.net(3, 3, -NET);
        desk.net(3, 4, NET);
        desk.net(4, 4, -NET);
        desk.net(4, 3, NET);
        due("two with item 0 in both, and a ring", desk.solve(), 5);
        desk.place(1, 0, 0);
        due("one of the two is enough", desk.solve(), 4);
        due("item 0 in", desk.in(0), true);
        desk.place(2, 0, 0);
        due("the ring alone", desk.solve(), 2);
        due("item 3 in", desk.in(3), true);
        desk.net(4, 3, -1);
        due("not even the ring", desk.solve(), 0);
    }

    private static void greatestOfALongRow() {
        CHECK.sentence("so there is a GREATEST one (each item lives on its neighbour)");
        // As long a row as 512 calls allow, once with the givers behind and once with them before.
        int items = 168;
        for (int turned = 0; turned < 2; turned++) {
            CountedDesk desk = CountedDesk.withItems(items);
            for (int k = 0; k < items; k++) {
                int i = turned == 0 ? k : items - 1 - k;
                desk.net(i, k + 1, -1);
                if (k > 0) {
                    desk.net(i, k, 1);
                }
            }
            due("the last one has nothing, all fall", desk.solve(), 0);
            desk.place(items, 1, 0);
            due("the last one has enough", desk.solve(), items);
            desk.place(items, 0, 0);
            due("it has nothing again", desk.perform(), 0);
            desk.place(items / 2, 1, 0);
            due("half of them have enough", desk.perform(), items / 2);
        }
    }
}
