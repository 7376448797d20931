import java.util.Random;

/**
 * "What later calls answer is free", but no call may throw or fail to end, for any arguments and
 * far beyond the 512th call; the answers of the first 512 lie within the limits of the document.
 */
public final class AnyCallTest {
    private static final long VALUE = 1_000_000_000_000_000_000L;
    private static final long NET = 1_000_000_000_000_000L;
    private static final int RUNS = 100;
    private static final int CALLS = 8000;
    private static final int[] INTS = {
        Integer.MIN_VALUE, -300, -2, -1, 0, 1, 2, 3, 15, 16, 17, 198, 199, 200, 201, 298, 299, 300,
        301, Integer.MAX_VALUE,
    };
    private static final long[] LONGS = {
        Long.MIN_VALUE, Long.MIN_VALUE + 1, -VALUE - 1, -VALUE, -VALUE + 1, -2 * NET - 1, -2 * NET,
        -NET - 1, -NET, -NET + 1, -2, -1, 0, 1, 2, NET - 1, NET, NET + 1, 2 * NET, 2 * NET + 1,
        VALUE - 1, VALUE, VALUE + 1, Long.MAX_VALUE - 1, Long.MAX_VALUE,
    };
    private static final Check CHECK = new Check();

    private final Random random;
    private final GridDesk desk = new GridDesk();
    private final String name;
    private int newest;

    private AnyCallTest(int run) {
        random = new Random(run);
        name = "run " + run + ", call ";
    }

    public static void main(String[] args) {
        CHECK.sentence("what later calls answer is free");
        for (int run = 0; run < RUNS && CHECK.wrong() < 20; run++) {
            new AnyCallTest(run).play();
        }
        CHECK.end();
    }

    private void play() {
        for (int call = 0; call < CALLS && CHECK.wrong() < 20; call++) {
            CHECK.due(name + call + " ends without an exception", endsAsSaid(call), true);
        }
    }

    private boolean endsAsSaid(int call) {
        try {
            boolean asSaid = oneCall();
            return asSaid || call >= CountedDesk.MOST_CALLS;
        } catch (RuntimeException thrown) {
            System.out.println(thrown);
            return false;
        }
    }

    private int anInt() {
        return random.nextInt(3) == 0 ? INTS[random.nextInt(INTS.length)] : random.nextInt(24);
    }

    /** Mostly one of the newest, as those are there more often than the older ones. */
    private int anItem() {
        return random.nextInt(4) == 0 ? anInt() : newest - random.nextInt(12);
    }

    private long aLong() {
        return random.nextInt(3) > 0 ? LONGS[random.nextInt(LONGS.length)] : random.nextInt(9) - 5;
    }

    /** Makes one call; answers whether its answer is within what the document names. */
    private boolean oneCall() {
        switch (random.nextInt(24)) {
            case 0:
                desk.place(anInt(), aLong(), aLong());
                return true;
            case 1:
                return cameAsSaid(desk.item());
            case 3:
                desk.go(anItem());
                return true;
            case 4:
                return within(desk.solve(), 0, 200);
            case 5:
                return within(desk.perform(), -1, 200);
            case 6:
                desk.in(anItem());
                return true;
            case 7:
                return within(desk.value(anInt()), -VALUE, VALUE);
            case 8:
                return within(desk.netOf(anItem(), anInt()), -NET, NET);
            case 9:
                return within(desk.count(anInt()), -1, 200);
            default:
                desk.net(anItem(), anInt(), aLong());
                return true;
        }
    }

    private boolean cameAsSaid(int item) {
        newest = Math.max(newest, item);
        return within(item, -1, 199);
    }

    private static boolean within(long answer, long least, long most) {
        return answer >= least && answer <= most;
    }
}
