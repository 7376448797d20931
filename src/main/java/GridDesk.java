/**
 * Gridlock: of items in a row that give to positions and take from them, the greatest set that
 * keeps the order at each position and all floors when it is done at once.
 */
public final class GridDesk {
    private static final int POSITIONS = 300;
    private static final int MOST_ITEMS = 200;
    private static final int MOST_NETS = 16;
    private static final long MOST_VALUE = 1_000_000_000_000_000_000L;
    private static final long MOST_NET = 1_000_000_000_000_000L;

    private final long[] values = new long[POSITIONS];
    private final long[] floors = new long[POSITIONS];
    private final Item[] items = new Item[MOST_ITEMS];
    private int itemCount;
    private int thereCount;
    private int setCount;

    // Rows of the search, kept so that no search makes new ones.
    private final long[] after = new long[POSITIONS];
    private final boolean[] blocked = new boolean[POSITIONS];

    public GridDesk() {
    }

    public boolean place(int position, long value, long floor) {
        if (!isPosition(position) || !isValue(value) || !isValue(floor) || value < floor) {
            return false;
        }
        values[position] = value;
        floors[position] = floor;
        return true;
    }

    public int item() {
        if (itemCount >= MOST_ITEMS) {
            return -1;
        }
        items[itemCount] = new Item();
        itemCount++;
        thereCount++;
        return itemCount - 1;
    }

    public boolean net(int item, int position, long amount) {
        Item found = itemThere(item);
        return found != null && isPosition(position) && found.change(position, amount);
    }

    public boolean go(int item) {
        Item found = itemThere(item);
        if (found == null) {
            return false;
        }
        found.there = false;
        thereCount--;
        return true;
    }

    public int solve() {
        findGreatest();
        return setCount;
    }

    public boolean in(int item) {
        Item found = itemEver(item);
        return found != null && found.inSet;
    }

    public int perform() {
        findGreatest();
        if (!valuesFit()) {
            return -1;
        }
        System.arraycopy(after, 0, values, 0, POSITIONS);
        endItemsOfSet();
        return setCount;
    }

    public long value(int position) {
        return isPosition(position) ? values[position] : 0;
    }

    public long netOf(int item, int position) {
        Item found = itemThere(item);
        return found == null ? 0 : found.amountFor(position);
    }

    public int count(int what) {
        switch (what) {
            case 0:
                return itemCount;
            case 1:
                return thereCount;
            case 2:
                return setCount;
            default:
                return -1;
        }
    }

    private static boolean isPosition(int position) {
        return position >= 0 && position < POSITIONS;
    }

    private static boolean isValue(long value) {
        return value >= -MOST_VALUE && value <= MOST_VALUE;
    }

    private Item itemEver(int number) {
        return number >= 0 && number < itemCount ? items[number] : null;
    }

    private Item itemThere(int number) {
        Item found = itemEver(number);
        return found != null && found.there ? found : null;
    }

    /**
     * Starts from all items that are there and drops, sweep by sweep, those that no good set can
     * hold; what is left when a sweep drops none is good, and so the greatest. Each sweep but the
     * last drops one item at least. Afterwards the row after holds the values with the set done.
     */
    private void findGreatest() {
        startWithAllThere();
        for (int sweep = 0; sweep <= MOST_ITEMS; sweep++) {
            if (!dropHopeless()) {
                break;
            }
        }
    }

    private void startWithAllThere() {
        for (int i = 0; i < itemCount; i++) {
            Item item = items[i];
            if (item != null) {
                item.inSet = item.there;
            }
        }
        setCount = thereCount;
    }

    /**
     * One sweep in the items' order; answers whether an item was dropped. All that the candidates
     * give is counted before any of them takes: a good set among them gives no more than that, so
     * an item that cannot take even then is in no good set, nor is one behind it at a position
     * from which both take.
     */
    private boolean dropHopeless() {
        startRows();
        giveAll();
        int before = setCount;
        for (int i = 0; i < itemCount; i++) {
            Item item = items[i];
            if (item == null || !item.there) {
                continue;
            }
            if (item.inSet && canTake(item)) {
                take(item);
            } else {
                drop(item);
            }
        }
        return setCount < before;
    }

    private void startRows() {
        for (int p = 0; p < POSITIONS; p++) {
            after[p] = values[p];
            blocked[p] = false;
        }
    }

    private void giveAll() {
        for (int i = 0; i < itemCount; i++) {
            Item item = items[i];
            if (item == null || !item.inSet) {
                continue;
            }
            for (int slot = 0; slot < item.used; slot++) {
                if (item.amounts[slot] > 0) {
                    after[item.positions[slot]] += item.amounts[slot];
                }
            }
        }
    }

    private boolean canTake(Item item) {
        for (int slot = 0; slot < item.used; slot++) {
            int p = item.positions[slot];
            long amount = item.amounts[slot];
            if (amount < 0 && (blocked[p] || after[p] + amount < floors[p])) {
                return false;
            }
        }
        return true;
    }

    private void take(Item item) {
        for (int slot = 0; slot < item.used; slot++) {
            if (item.amounts[slot] < 0) {
                after[item.positions[slot]] += item.amounts[slot];
            }
        }
    }

    // Also for an item dropped by an earlier sweep: the rows are new, and it blocks still.
    private void drop(Item item) {
        for (int slot = 0; slot < item.used; slot++) {
            if (item.amounts[slot] < 0) {
                blocked[item.positions[slot]] = true;
            }
        }
        if (item.inSet) {
            item.inSet = false;
            setCount--;
        }
    }

    private boolean valuesFit() {
        for (int p = 0; p < POSITIONS; p++) {
            if (after[p] > MOST_VALUE) {
                return false;
            }
        }
        return true;
    }

    private void endItemsOfSet() {
        for (int i = 0; i < itemCount; i++) {
            Item item = items[i];
            if (item != null && item.inSet) {
                item.there = false;
            }
        }
        thereCount -= setCount;
    }

    /** An item, with its nets other than 0 in the first slots of its rows, in no order. */
    private static final class Item {
        private final int[] positions = new int[MOST_NETS];
        private final long[] amounts = new long[MOST_NETS];
        private int used;
        private boolean there = true;
        private boolean inSet;

        private int slotOf(int position) {
            for (int slot = 0; slot < used; slot++) {
                if (positions[slot] == position) {
                    return slot;
                }
            }
            return -1;
        }

        private long amountFor(int position) {
            int slot = slotOf(position);
            return slot < 0 ? 0 : amounts[slot];
        }

        private boolean change(int position, long amount) {
            // No greater amount leads from one net to another, and a sum with it could wrap.
            if (amount < -2 * MOST_NET || amount > 2 * MOST_NET) {
                return false;
            }
            long sum = amountFor(position) + amount;
            if (sum < -MOST_NET || sum > MOST_NET) {
                return false;
            }
            int slot = slotOf(position);
            if (slot < 0) {
                return sum == 0 || addSlot(position, sum);
            }
            amounts[slot] = sum;
            if (sum == 0) {
                freeSlot(slot);
            }
            return true;
        }

        private boolean addSlot(int position, long amount) {
            if (used >= MOST_NETS) {
                return false;
            }
            positions[used] = position;
            amounts[used] = amount;
            used++;
            return true;
        }

        private void freeSlot(int slot) {
            used--;
            positions[slot] = positions[used];
            amounts[slot] = amounts[used];
        }
    }
}
