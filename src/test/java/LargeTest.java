import java.util.Random;

/**
 * Runs with many items, drawn from fixed seeds, against another way to the greatest set: as long
 * as a position is below its floor, the last one that takes from it is dropped, and as long as an
 * item is behind a dropped one at a position from which both take, it is dropped.
 */
public final class LargeTest {
    private static final int RUNS = 1200;

    private final Check check;
    private final Random random;
    private final String name;
    private final CountedDesk desk = new CountedDesk();
    private final int items;
    private final int positions;
    private final long[] values;
    private final long[] floors;
    private final long[][] nets;
    private final boolean[] there;

    private LargeTest(Check check, int run) {
        this.check = check;
        random = new Random(run);
        name = "run " + run + ": ";
        items = 100 + random.nextInt(21);
        positions = 1 + random.nextInt(run % 3 == 0 ? 200 : 30);
        values = new long[positions];
        floors = new long[positions];
        nets = new long[items][positions];
        there = new boolean[items];
    }

    public static void main(String[] args) {
        Check check = new Check();
        int mixed = 0;
        for (int run = 0; run < RUNS && check.wrong() < 20; run++) {
            mixed += new LargeTest(check, run).play() ? 1 : 0;
        }
        System.out.println(mixed + " sets that were neither empty nor all");
        check.due("sets that tell something", mixed > RUNS / 2, true);
        check.end();
    }

    private boolean play() {
        fill();
        boolean[] set = greatest();
        int size = 0;
        for (boolean one : set) {
            size += one ? 1 : 0;
        }
        check.due(name + "perform", desk.perform(), size);
        for (int i = 0; i < items; i++) {
            check.due(name + "in " + i, desk.in(i), set[i]);
        }
        for (int p = 0; p < positions && desk.callsLeft() > 0; p++) {
            check.due(name + "value " + p, desk.value(p), values[p] + sum(set, p));
        }
        return size > 0 && size < items;
    }

    private void fill() {
        for (int i = 0; i < items; i++) {
            check.due(name + "item", desk.item(), i);
            there[i] = true;
        }
        int placed = random.nextInt(20);
        for (int k = 0; k < placed; k++) {
            int p = random.nextInt(positions);
            floors[p] = random.nextInt(9) - 4;
            values[p] = floors[p] + random.nextInt(12);
            check.due(name + "place", desk.place(p, values[p], floors[p]), true);
        }
        int amounts = items * 5 / 3 + random.nextInt(items / 3);
        for (int k = 0; k < amounts; k++) {
            int i = random.nextInt(items);
            int p = random.nextInt(positions);
            long amount = random.nextInt(10) - (k % 2 == 0 ? 7 : 2);
            nets[i][p] += amount;
            check.due(name + "net", desk.net(i, p, amount), true);
        }
        for (int k = 0; k < 4; k++) {
            int i = random.nextInt(items);
            check.due(name + "go", desk.go(i), there[i]);
            there[i] = false;
        }
    }

    private long sum(boolean[] set, int p) {
        long sum = 0;
        for (int i = 0; i < items; i++) {
            sum += set[i] ? nets[i][p] : 0;
        }
        return sum;
    }

    private boolean[] greatest() {
        boolean[] set = there.clone();
        boolean dropped = true;
        while (dropped) {
            dropped = false;
            for (int p = 0; p < positions; p++) {
                dropped |= dropAtFloor(set, p) | dropBehind(set, p);
            }
        }
        return set;
    }

    private boolean dropAtFloor(boolean[] set, int p) {
        boolean dropped = false;
        for (int i = items - 1; i >= 0 && values[p] + sum(set, p) < floors[p]; i--) {
            if (set[i] && nets[i][p] < 0) {
                set[i] = false;
                dropped = true;
            }
        }
        return dropped;
    }

    private boolean dropBehind(boolean[] set, int p) {
        boolean dropped = false;
        boolean behind = false;
        for (int i = 0; i < items; i++) {
            if (!there[i] || nets[i][p] >= 0) {
                continue;
            }
            if (behind && set[i]) {
                set[i] = false;
                dropped = true;
            }
            behind |= !set[i];
        }
        return dropped;
    }
}
