import java.util.ArrayList;
import java.util.List;

/**
 * "A call that is refused changes nothing": two objects with the same past, one with a refused
 * call in it and one without, must answer alike ever after.
 */
public final class RefusedTest {
    private static final long VALUE = 1_000_000_000_000_000_000L;
    private static final long NET = 1_000_000_000_000_000L;
    private static final int LOWEST = Integer.MIN_VALUE;
    private static final int HIGHEST = Integer.MAX_VALUE;
    private static final Check CHECK = new Check();

    private interface Call {
        long on(CountedDesk desk);
    }

    private record Refused(String name, long due, Call call) {
    }

    private static final int DONE = 0;
    private static final int GONE = 1;
    private static final int FULL = 2;
    private static final int PLAIN = 3;
    private static final int STUCK = 4;
    private static final int NEW = 5;
    private static final int NOT_YET = 6;

    public static void main(String[] args) {
        CHECK.sentence("A call that is refused changes nothing");
        checkBusyDesk();
        List<Refused> calls = new ArrayList<>();
        addPlace(calls);
        addNet(calls);
        addGo(calls);
        addAsking(calls);
        for (Refused refused : calls) {
            compareAnswers(refused, RefusedTest::busyDesk);
        }
        compareAnswers(new Refused("item", -1, CountedDesk::item), RefusedTest::deskWith200);
        CHECK.end();
    }

    private static long bit(boolean answer) {
        return answer ? 1 : 0;
    }

    private interface Past {
        CountedDesk make();
    }

    /** One item done, one gone from the set, one with 16 nets, one plain, one stuck, one new. */
    private static CountedDesk busyDesk() {
        CountedDesk desk = new CountedDesk();
        desk.place(0, 7, 3);
        desk.place(1, VALUE, VALUE - 2);
        desk.place(2, -VALUE + 2, -VALUE);
        desk.place(299, 5, 5);
        desk.item();
        desk.net(DONE, 5, 2);
        desk.perform();
        for (int i = GONE; i < NEW; i++) {
            desk.item();
        }
        desk.net(GONE, 6, 8);
        desk.place(21, NET, 0);
        desk.net(FULL, 20, NET);
        desk.net(FULL, 21, -NET);
        for (int p = 22; p < 36; p++) {
            desk.net(FULL, p, p);
        }
        desk.net(PLAIN, 0, -4);
        desk.net(STUCK, 0, -1);
        desk.solve();
        desk.go(GONE);
        desk.item();
        desk.net(NEW, 299, -1);
        return desk;
    }

    private static void checkBusyDesk() {
        CountedDesk desk = busyDesk();
        for (int i = 0; i <= NOT_YET; i++) {
            CHECK.due("past: in " + i, desk.in(i), i == GONE || i == FULL || i == PLAIN);
        }
        CHECK.due("past: in all", desk.count(0), NOT_YET);
        CHECK.due("past: there", desk.count(1), 4);
        CHECK.due("past: in the set", desk.count(2), 3);
        CHECK.due("past: the last of 16 nets", desk.netOf(FULL, 35), 35);
        List<Long> taken = askFloors(busyDesk());
        CHECK.due("past: takers that fit", taken.get(4), 4 + 2 + 2);
    }

    private static CountedDesk deskWith200() {
        CountedDesk desk = CountedDesk.withItems(200);
        desk.place(0, 3, 1);
        desk.net(0, 0, -3);
        desk.net(199, 299, 4);
        desk.solve();
        desk.go(1);
        return desk;
    }

    private static void addPlace(List<Refused> calls) {
        for (int p : new int[] {-1, 300, LOWEST, HIGHEST}) {
            add(calls, "place at " + p, d -> bit(d.place(p, 1, 0)));
        }
        long[][] pairs = {
            {VALUE + 1, 0}, {VALUE + 1, -VALUE}, {0, -VALUE - 1}, {VALUE, -VALUE - 1},
            {VALUE + 1, VALUE + 1}, {-VALUE - 1, -VALUE - 1}, {VALUE, VALUE + 1},
            {Long.MAX_VALUE, 0}, {0, Long.MIN_VALUE}, {Long.MAX_VALUE, Long.MIN_VALUE},
            {Long.MIN_VALUE, Long.MAX_VALUE}, {2, 3}, {-1, 0}, {-VALUE, VALUE}, {VALUE - 1, VALUE},
        };
        for (int p : new int[] {0, 1, 2, 299}) {
            for (long[] pair : pairs) {
                String name = "place " + p + " " + pair[0] + " " + pair[1];
                add(calls, name, d -> bit(d.place(p, pair[0], pair[1])));
            }
        }
    }

    private static void addNet(List<Refused> calls) {
        for (int i : new int[] {-1, NOT_YET, 199, 200, LOWEST, HIGHEST, DONE, GONE}) {
            for (long amount = -1; amount <= 1; amount++) {
                addNet(calls, i, 0, amount);
            }
        }
        for (int p : new int[] {-1, 300, LOWEST, HIGHEST}) {
            for (long amount = -1; amount <= 1; amount++) {
                addNet(calls, PLAIN, p, amount);
            }
        }
        addNet(calls, FULL, 20, 1);
        addNet(calls, FULL, 20, -2 * NET - 1);
        addNet(calls, FULL, 21, -1);
        addNet(calls, FULL, 21, 2 * NET + 1);
        addNet(calls, PLAIN, 0, NET + 5);
        addNet(calls, PLAIN, 0, -NET + 3);
        addNet(calls, PLAIN, 5, NET + 1);
        addNet(calls, PLAIN, 5, -NET - 1);
        for (int p : new int[] {0, 5}) {
            addNet(calls, PLAIN, p, Long.MAX_VALUE);
            addNet(calls, PLAIN, p, Long.MIN_VALUE);
        }
        for (long amount : new long[] {1, -1, NET, -NET}) {
            addNet(calls, FULL, 36, amount);
            addNet(calls, FULL, 299, amount);
        }
    }

    private static void addNet(List<Refused> calls, int item, int position, long amount) {
        String name = "net " + item + " " + position + " " + amount;
        add(calls, name, d -> bit(d.net(item, position, amount)));
    }

    private static void addGo(List<Refused> calls) {
        for (int i : new int[] {-1, NOT_YET, 199, 200, LOWEST, HIGHEST, DONE, GONE}) {
            add(calls, "go " + i, d -> bit(d.go(i)));
        }
    }

    private static void addAsking(List<Refused> calls) {
        for (int wrong : new int[] {-1, 300, LOWEST, HIGHEST}) {
            add(calls, "value " + wrong, d -> d.value(wrong));
            add(calls, "netOf position " + wrong, d -> d.netOf(PLAIN, wrong));
            add(calls, "netOf item " + wrong, d -> d.netOf(wrong, 0));
            add(calls, "in " + wrong, d -> bit(d.in(wrong)));
            calls.add(new Refused("count " + wrong, -1, d -> d.count(wrong)));
        }
        add(calls, "netOf done", d -> d.netOf(DONE, 5));
        add(calls, "netOf gone", d -> d.netOf(GONE, 6));
        add(calls, "netOf not yet", d -> d.netOf(NOT_YET, 0));
    }

    private static void add(List<Refused> calls, String name, Call call) {
        calls.add(new Refused(name, 0, call));
    }

    private static void compareAnswers(Refused refused, Past past) {
        compare(refused, past, RefusedTest::askValues);
        compare(refused, past, RefusedTest::askItems);
        compare(refused, past, RefusedTest::goOn);
        compare(refused, past, RefusedTest::askFloors);
    }

    private interface Asking {
        List<Long> answers(CountedDesk desk);
    }

    private static void compare(Refused refused, Past past, Asking asking) {
        CountedDesk without = past.make();
        CountedDesk with = past.make();
        CHECK.due(refused.name, refused.call.on(with), refused.due);
        List<Long> want = asking.answers(without);
        List<Long> got = asking.answers(with);
        CHECK.due("how many answers after " + refused.name, got.size(), want.size());
        for (int i = 0; i < want.size(); i++) {
            CHECK.due("answer " + i + " after " + refused.name, got.get(i), want.get(i));
        }
    }

    private static List<Long> askValues(CountedDesk desk) {
        List<Long> answers = new ArrayList<>();
        for (int p = 0; p < 300; p++) {
            answers.add(desk.value(p));
        }
        return answers;
    }

    private static List<Long> askItems(CountedDesk desk) {
        List<Long> answers = new ArrayList<>();
        for (int what = 0; what < 3; what++) {
            answers.add((long) desk.count(what));
        }
        for (int i = 0; i <= NOT_YET; i++) {
            answers.add(bit(desk.in(i)));
            for (int p = 0; p < 38; p++) {
                answers.add(desk.callsLeft() > 20 ? desk.netOf(i, p) : 0);
            }
        }
        answers.add(desk.netOf(NEW, 299));
        answers.add(desk.netOf(199, 299));
        answers.add(bit(desk.in(199)));
        return answers;
    }

    /** What the next calls answer: which item comes, how full the nets are, what is done. */
    private static List<Long> goOn(CountedDesk desk) {
        List<Long> answers = new ArrayList<>();
        for (int p = 40; p < 57; p++) {
            answers.add(bit(desk.net(PLAIN, p, 1)));
            answers.add(bit(desk.net(NEW, p, 1)));
        }
        answers.add(bit(desk.net(FULL, 22, -22)));
        answers.add(bit(desk.net(FULL, 36, 1)));
        answers.add(bit(desk.net(FULL, 22, 1)));
        answers.add((long) desk.item());
        answers.add((long) desk.solve());
        answers.add((long) desk.perform());
        for (int i = 0; i <= NOT_YET; i++) {
            answers.add(bit(desk.in(i)));
            answers.add(bit(desk.go(i)));
        }
        for (int p = 0; p < 60; p++) {
            answers.add(desk.value(p));
        }
        answers.add(desk.value(299));
        return answers;
    }

    /** Takers of 1, until the floor is reached, at the positions that the refused calls name. */
    private static List<Long> askFloors(CountedDesk desk) {
        List<Long> answers = new ArrayList<>();
        for (int i = 0; i <= NEW; i++) {
            desk.go(i);
        }
        for (int p : new int[] {0, 1, 2, 299}) {
            for (int k = 0; k < 8; k++) {
                int taker = desk.item();
                desk.net(taker, p, -1);
            }
            answers.add((long) desk.solve());
        }
        answers.add((long) desk.perform());
        for (int p : new int[] {0, 1, 2, 299}) {
            answers.add(desk.value(p));
        }
        return answers;
    }
}
