/** A GridDesk that no test calls more often than the document allows. */
final class CountedDesk {
    static final int MOST_CALLS = 512;

    private final GridDesk desk = new GridDesk();
    private int calls;

    static CountedDesk withItems(int items) {
        CountedDesk made = new CountedDesk();
        for (int i = 0; i < items; i++) {
            made.item();
        }
        return made;
    }

    int callsLeft() {
        return MOST_CALLS - calls;
    }

    private GridDesk counted() {
        if (calls >= MOST_CALLS) {
            throw new IllegalStateException("a test makes more than 512 calls on one object");
        }
        calls++;
        return desk;
    }

    boolean place(int position, long value, long floor) {
        return counted().place(position, value, floor);
    }

    int item() {
        return counted().item();
    }

    boolean net(int item, int position, long amount) {
        return counted().net(item, position, amount);
    }

    boolean go(int item) {
        return counted().go(item);
    }

    int solve() {
        return counted().solve();
    }

    boolean in(int item) {
        return counted().in(item);
    }

    int perform() {
        return counted().perform();
    }

    long value(int position) {
        return counted().value(position);
    }

    long netOf(int item, int position) {
        return counted().netOf(item, position);
    }

    int count(int what) {
        return counted().count(what);
    }
}
