import java.util.Random;

/**
 * "All memory is the class's own": an object answers a run of calls alike whether it is alone or
 * other objects are called between its calls.
 */
public final class ApartTest {
    private static final long VALUE = 1_000_000_000_000_000_000L;
    private static final int DESKS = 40;
    private static final Check CHECK = new Check();

    public static void main(String[] args) {
        CHECK.sentence("All memory is the class's own");
        newBesideOld();
        long[][] alone = new long[DESKS][];
        for (int desk = 0; desk < DESKS; desk++) {
            alone[desk] = answersAlone(desk);
        }
        inTurn(alone);
        CHECK.end();
    }

    private static void newBesideOld() {
        CountedDesk old = CountedDesk.withItems(200);
        old.place(0, VALUE, VALUE);
        old.place(299, 8, 3);
        for (int i = 0; i < 200; i++) {
            old.net(i, 299, i < 5 ? -1 : 1);
        }
        old.go(6);
        CHECK.due("old, solve", old.solve(), 199);
        CountedDesk made = new CountedDesk();
        for (int what = 0; what < 3; what++) {
            CHECK.due("new, count " + what, made.count(what), 0);
        }
        CHECK.due("new, value", made.value(299), 0);
        CHECK.due("new, net of the old one's item", made.net(0, 299, -1), false);
        CHECK.due("new, its first item", made.item(), 0);
        CHECK.due("new, the old one's net", made.netOf(0, 299), 0);
        CHECK.due("new, the old one's set", made.in(0), false);
        made.net(0, 299, -1);
        CHECK.due("new, without the old one's givers", made.perform(), 0);
        made.place(299, 9, 8);
        CHECK.due("new, its floor", made.perform(), 1);
        CHECK.due("old, there", old.count(1), 199);
        CHECK.due("old, its net", old.netOf(199, 299), 1);
        CHECK.due("old, its set", old.in(0), true);
        CHECK.due("old, perform", old.perform(), 199);
        CHECK.due("old, its value", old.value(299), 8 - 5 + 194);
        old.place(1, 0, -1);
        made.item();
        made.net(1, 1, -1);
        CHECK.due("new, not the old one's floor", made.solve(), 0);
        CHECK.due("new, its value", made.value(299), 8);
    }

    private static long[] answersAlone(int seed) {
        CountedDesk desk = new CountedDesk();
        Random random = new Random(seed);
        long[] answers = new long[CountedDesk.MOST_CALLS];
        for (int call = 0; call < answers.length; call++) {
            answers[call] = answer(desk, random);
        }
        return answers;
    }

    private static void inTurn(long[][] alone) {
        CountedDesk[] desks = new CountedDesk[DESKS];
        Random[] randoms = new Random[DESKS];
        for (int desk = 0; desk < DESKS; desk++) {
            desks[desk] = new CountedDesk();
            randoms[desk] = new Random(desk);
        }
        for (int call = 0; call < CountedDesk.MOST_CALLS; call++) {
            for (int desk = 0; desk < DESKS; desk++) {
                long got = answer(desks[desk], randoms[desk]);
                CHECK.due("desk " + desk + ", call " + call, got, alone[desk][call]);
            }
        }
    }

    /** The calls depend on the seed alone, so that the same ones can be made again. */
    private static long answer(CountedDesk desk, Random random) {
        int item = random.nextInt(60);
        int position = random.nextInt(10);
        int amount = random.nextInt(21) - 11;
        switch (random.nextInt(16)) {
            case 0:
                return desk.place(position, 12 + amount, item % 20 - 10) ? 1 : 0;
            case 1:
            case 2:
                return desk.item();
            case 3:
                return desk.go(item) ? 1 : 0;
            case 4:
                return desk.solve();
            case 5:
                return amount > 6 ? desk.perform() : desk.value(position);
            case 6:
                return desk.in(item) ? 1 : 0;
            case 7:
                return desk.count(item % 4);
            case 8:
                return desk.netOf(item, position);
            default:
                return desk.net(item, position, amount) ? 1 : 0;
        }
    }
}
