import java.util.Random;

/** Runs of calls drawn from fixed seeds, each answer against a model that tries every set. */
public final class ReferenceTest {
    private static final long VALUE = 1_000_000_000_000_000_000L;
    private static final long NET = 1_000_000_000_000_000L;
    private static final int MOST_THERE = 8;
    private static final int RUNS = 2000;

    /** The document's terms word by word, with a full table of nets. */
    private static final class Model {
        final long[] values = new long[300];
        final long[] floors = new long[300];
        final long[][] nets = new long[200][300];
        final boolean[] there = new boolean[200];
        final boolean[] set = new boolean[200];
        int items;

        boolean isThere(int item) {
            return item >= 0 && item < items && there[item];
        }

        boolean place(int p, long value, long floor) {
            if (p < 0 || p >= 300 || value < floor || value > VALUE || floor < -VALUE) {
                return false;
            }
            values[p] = value;
            floors[p] = floor;
            return true;
        }

        int item() {
            if (items == 200) {
                return -1;
            }
            there[items] = true;
            return items++;
        }

        boolean net(int item, int p, long amount) {
            if (!isThere(item) || p < 0 || p >= 300) {
                return false;
            }
            java.math.BigInteger sum = java.math.BigInteger.valueOf(nets[item][p])
                    .add(java.math.BigInteger.valueOf(amount));
            if (sum.abs().compareTo(java.math.BigInteger.valueOf(NET)) > 0) {
                return false;
            }
            long old = nets[item][p];
            nets[item][p] = sum.longValueExact();
            int used = 0;
            for (long net : nets[item]) {
                used += net != 0 ? 1 : 0;
            }
            if (used > 16) {
                nets[item][p] = old;
                return false;
            }
            return true;
        }

        boolean go(int item) {
            boolean was = isThere(item);
            if (was) {
                there[item] = false;
            }
            return was;
        }

        int thereCount() {
            int n = 0;
            for (boolean one : there) {
                n += one ? 1 : 0;
            }
            return n;
        }

        int setCount() {
            int n = 0;
            for (boolean one : set) {
                n += one ? 1 : 0;
            }
            return n;
        }

        int[] numbersThere() {
            int[] row = new int[thereCount()];
            int n = 0;
            for (int i = 0; i < items; i++) {
                if (there[i]) {
                    row[n++] = i;
                }
            }
            return row;
        }

        boolean bothTake(int a, int b) {
            for (int p = 0; p < 300; p++) {
                if (nets[a][p] < 0 && nets[b][p] < 0) {
                    return true;
                }
            }
            return false;
        }

        boolean good(int[] row, int[] before, int mask) {
            for (int i = 0; i < row.length; i++) {
                if ((mask >> i & 1) == 1 && (before[i] & ~mask) != 0) {
                    return false;
                }
            }
            for (int p = 0; p < 300; p++) {
                if (afterwards(row, mask, p) < floors[p]) {
                    return false;
                }
            }
            return true;
        }

        long afterwards(int[] row, int mask, int p) {
            long sum = values[p];
            for (int i = 0; i < row.length; i++) {
                if ((mask >> i & 1) == 1) {
                    sum += nets[row[i]][p];
                }
            }
            return sum;
        }

        int greatest(int[] row) {
            int[] before = new int[row.length];
            for (int i = 0; i < row.length; i++) {
                for (int j = 0; j < i; j++) {
                    if (bothTake(row[i], row[j])) {
                        before[i] |= 1 << j;
                    }
                }
            }
            int best = 0;
            int union = 0;
            for (int mask = 0; mask < 1 << row.length; mask++) {
                if (good(row, before, mask)) {
                    union |= mask;
                    best = Integer.bitCount(mask) > Integer.bitCount(best) ? mask : best;
                }
            }
            if (union != best) {
                throw new IllegalStateException("no greatest set");
            }
            java.util.Arrays.fill(set, false);
            for (int i = 0; i < row.length; i++) {
                set[row[i]] = (best >> i & 1) == 1;
            }
            return best;
        }

        int solve() {
            return Integer.bitCount(greatest(numbersThere()));
        }

        int perform() {
            int[] row = numbersThere();
            int mask = greatest(row);
            for (int p = 0; p < 300; p++) {
                if (afterwards(row, mask, p) > VALUE) {
                    return -1;
                }
            }
            for (int p = 0; p < 300; p++) {
                values[p] = afterwards(row, mask, p);
            }
            for (int i = 0; i < row.length; i++) {
                there[row[i]] &= (mask >> i & 1) == 0;
            }
            return Integer.bitCount(mask);
        }
    }

    private final Check check;
    private final Random random;
    private final CountedDesk desk = new CountedDesk();
    private final Model model = new Model();
    private final String name;
    private final int positions;
    private final boolean high;
    private int best;

    private ReferenceTest(Check check, int run) {
        this.check = check;
        random = new Random(run);
        name = "run " + run + ": ";
        positions = 1 + random.nextInt(run % 5 == 4 ? 24 : 6);
        high = run % 7 == 6;
    }

    public static void main(String[] args) {
        Check check = new Check();
        int best = 0;
        for (int run = 0; run < RUNS && check.wrong() < 20; run++) {
            best += new ReferenceTest(check, run).play();
        }
        System.out.println(best + " sets that were neither empty nor all");
        check.end();
    }

    private int play() {
        int kept = 60 + random.nextInt(200);
        while (desk.callsLeft() > kept) {
            call(random.nextInt(100));
        }
        compareState();
        return best;
    }

    private int anItem() {
        int draw = random.nextInt(20);
        if (draw == 0) {
            return -1;
        }
        return draw == 1 ? model.items : random.nextInt(model.items + 1);
    }

    private int aPosition() {
        int draw = random.nextInt(40);
        if (draw == 0) {
            return -1;
        }
        return draw == 1 ? 300 : 300 - positions + random.nextInt(positions);
    }

    private long anAmount() {
        switch (random.nextInt(high ? 4 : 60)) {
            case 0:
                return random.nextBoolean() ? NET : -NET;
            case 1:
                return random.nextInt(30) == 0 ? random.nextLong() : random.nextInt(9) - 4;
            default:
                return random.nextInt(13) - 7;
        }
    }

    private void call(int draw) {
        int i = anItem();
        int p = aPosition();
        if (draw < 15) {
            long floor = random.nextInt(7) - 3;
            long value = high && draw < 6 ? VALUE - random.nextInt(5) : floor + random.nextInt(8) - 1;
            check.due(name + "place", desk.place(p, value, floor), model.place(p, value, floor));
        } else if (draw < 30) {
            if (model.thereCount() < MOST_THERE) {
                check.due(name + "item", desk.item(), model.item());
            }
        } else if (draw < 75) {
            long amount = anAmount();
            check.due(name + "net", desk.net(i, p, amount), model.net(i, p, amount));
        } else if (draw < 78) {
            check.due(name + "go", desk.go(i), model.go(i));
        } else if (draw < 88) {
            search(false);
        } else if (draw < 92) {
            search(true);
        } else {
            compareOne(i, p);
        }
    }

    private void search(boolean perform) {
        int there = model.thereCount();
        if (perform) {
            check.due(name + "perform", desk.perform(), model.perform());
        } else {
            check.due(name + "solve", desk.solve(), model.solve());
        }
        int size = model.setCount();
        best += size > 0 && size < there ? 1 : 0;
        for (int i = 0; i < model.items; i++) {
            if (model.there[i] || model.set[i] || random.nextInt(8) == 0) {
                check.due(name + "in " + i, desk.in(i), model.set[i]);
            }
        }
    }

    private void compareOne(int i, int p) {
        boolean position = p >= 0 && p < 300;
        check.due(name + "value", desk.value(p), position ? model.values[p] : 0);
        long net = position && model.isThere(i) ? model.nets[i][p] : 0;
        check.due(name + "netOf", desk.netOf(i, p), net);
        check.due(name + "in", desk.in(i), i >= 0 && i < model.items && model.set[i]);
    }

    /** As much of the state as the calls that are left can show. */
    private void compareState() {
        check.due(name + "count 0", desk.count(0), model.items);
        check.due(name + "count 1", desk.count(1), model.thereCount());
        check.due(name + "count 2", desk.count(2), model.setCount());
        for (int p = 300 - positions; p < 300; p++) {
            check.due(name + "value " + p, desk.value(p), model.values[p]);
        }
        while (desk.callsLeft() > 0) {
            int i = random.nextInt(model.items + 1);
            int p = 300 - 1 - random.nextInt(positions);
            long net = model.isThere(i) ? model.nets[i][p] : 0;
            check.due(name + "netOf " + i + " " + p, desk.netOf(i, p), net);
        }
    }
}
