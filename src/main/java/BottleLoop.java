/**
 * A loop of deposit bottles. The document (../shared/DOC.md) says what each method of the face does; the sections
 * here bear its names. Nothing is made after the constructor but exceptions: all rows are made once and used again.
 */
public final class BottleLoop {
    public static final int NONE = -1;

    private static final int KINDS = 3;
    private static final int MOST_BRANDS = 8;
    private static final int MOST_SHOPS = 6;
    private static final int CRATE = 12;
    private static final int MOST_CRATES = 1000;
    private static final int MOST_MONEY = 100000;

    // The greatest numbers that one call takes.
    private static final int CRATES_A_CALL = 50;
    private static final int CRATES_A_PURCHASE = 500;
    private static final int BOTTLES_A_SHOP = 500;
    private static final int BOTTLES_A_BREWERY = 5000;

    // The numbers of a brand, as brand() counts them.
    private static final int KIND = 0;
    private static final int EMPTY = 1;
    private static final int FULL = 2;
    private static final int FULL_IN_SHOPS = 3;
    private static final int EMPTY_IN_SHOPS = 4;
    private static final int OUT = 5;
    private static final int YARD = 6;
    private static final int BROKEN = 7;
    private static final int LOST = 8;
    private static final int WORN = 9;
    private static final int FILLED = 10;
    private static final int SWAPPED = 11;
    private static final int BRAND_NUMBERS = 12;

    // The numbers of a shop, as shop() counts them.
    private static final int MONEY = 0;
    private static final int CRATES = 1;
    private static final int ALL_FULL = 2;
    private static final int ALL_EMPTY = 3;
    private static final int PAID_DEPOSITS = 4;
    private static final int PAID_POOL = 5;
    private static final int SOLD = 6;
    private static final int FULL_OF = 10;
    private static final int EMPTY_OF = 20;
    private static final int SHOP_NUMBERS = EMPTY_OF + MOST_BRANDS;

    // The numbers of the loop, as count() counts them.
    private static final int BRANDS = 0;
    private static final int SHOPS = 1;
    private static final int STORE = 2;
    private static final int CRATES_IN_SHOPS = 3;
    private static final int HELD = 4;
    private static final int FORFEITED = 5;
    private static final int POOL = 6;
    private static final int ALL_OUT = 7;
    private static final int ALL_YARD = 8;
    private static final int RUN_REASON = 9;
    private static final int SAVED = 10;
    private static final int COUNTS = 11;

    // The settings; 0 to 2 are the deposits for a bottle of the kinds 0 to 2.
    private static final int CRATE_DEPOSIT = 3;
    private static final int POOL_PART = 4;
    private static final int FILLINGS = 5;
    private static final int SETTINGS = 6;
    private static final int[] FIRST_SETTING = {8, 15, 25, 150, 6, 20};
    private static final int[] LEAST_SETTING = {1, 1, 1, 0, 0, 2};
    private static final int[] MOST_SETTING = {100, 100, 100, 500, 100, 1000};

    private static final int NO_REASON = 0;
    private static final int FEW_BOTTLES = 1;
    private static final int FEW_CRATES = 2;
    private static final int LITTLE_MONEY = 3;
    private static final int NOT_THERE = 4;

    private static final long HASH_START = 2411L;
    private static final int ONE_CRATE = 1;
    private static final int BOTTLES_IN_HASH = 25;
    private static final long EXPONENT_OF_ONE = 1023L;
    private static final int FRACTION_BITS = 52;
    private static final long FRACTION_STEPS = 1L << FRACTION_BITS;

    private final State now;
    private final Past past;
    private final Trade trade;
    private final Text text;
    private final Order order;

    public BottleLoop() {
        trade = new Trade();
        now = trade.state;
        past = new Past();
        text = new Text();
        order = new Order();
    }

    // ---- brands, shops, crates, settings

    public int addBrand(int kind, int bottles) throws IllegalArgumentException, IllegalStateException {
        needKind(kind);
        needRange(bottles, 0, BOTTLES_A_BREWERY);
        int brand = now.ofAll(BRANDS);
        needState(brand < MOST_BRANDS);
        past.keep(now);
        now.addToAll(BRANDS, 1);
        now.addToBrand(brand, KIND, kind);
        now.addToBrand(brand, EMPTY, bottles);
        return brand;
    }

    public int addShop(int money) throws IllegalArgumentException, IllegalStateException {
        needRange(money, 0, MOST_MONEY);
        int shop = now.ofAll(SHOPS);
        needState(shop < MOST_SHOPS);
        past.keep(now);
        now.addToAll(SHOPS, 1);
        now.addToShop(shop, MONEY, money);
        return shop;
    }

    public int buyCrates(int many) throws IllegalArgumentException, IllegalStateException {
        needRange(many, 1, CRATES_A_PURCHASE);
        needState(now.ofAll(STORE) + now.countNumber(CRATES_IN_SHOPS) + many <= MOST_CRATES);
        past.keep(now);
        now.addToAll(STORE, many);
        return now.ofAll(STORE);
    }

    public int set(int setting, int value)
            throws IndexOutOfBoundsException, IllegalArgumentException, IllegalStateException {
        needSetting(setting);
        needRange(value, entry(LEAST_SETTING, setting), entry(MOST_SETTING, setting));
        needState(setting > CRATE_DEPOSIT || now.ofAll(HELD) == 0);
        past.keep(now);
        int previous = now.ofSetting(setting);
        now.putSetting(setting, value);
        return previous;
    }

    // ---- what is done

    public int fill(int brand, int many)
            throws IndexOutOfBoundsException, IllegalArgumentException, IllegalStateException {
        needBrand(brand);
        needRange(many, 1, BOTTLES_A_BREWERY);
        needState(now.ofBrand(brand, EMPTY) >= many);
        past.keep(now);
        return trade.fillBottles(brand, many);
    }

    public int deliver(int brand, int shop, int crates)
            throws IndexOutOfBoundsException, IllegalArgumentException, IllegalStateException {
        needBrand(brand);
        needShop(shop);
        needRange(crates, 1, CRATES_A_CALL);
        needState(trade.deliverReason(brand, shop, crates) == NO_REASON);
        past.keep(now);
        return trade.deliverCrates(brand, shop, crates);
    }

    public int sell(int shop, int brand, int many)
            throws IndexOutOfBoundsException, IllegalArgumentException, IllegalStateException {
        needShop(shop);
        needBrand(brand);
        needRange(many, 1, BOTTLES_A_SHOP);
        needState(trade.sellReason(shop, brand, many) == NO_REASON);
        past.keep(now);
        return trade.sellBottles(shop, brand, many);
    }

    public int takeBack(int shop, int brand, int many)
            throws IndexOutOfBoundsException, IllegalArgumentException, IllegalStateException {
        needShop(shop);
        needBrand(brand);
        needRange(many, 1, BOTTLES_A_SHOP);
        needState(trade.returnReason(shop, brand, many) == NO_REASON);
        past.keep(now);
        return trade.returnBottles(shop, brand, many);
    }

    public int breaks(int shop, int brand, int many)
            throws IndexOutOfBoundsException, IllegalArgumentException, IllegalStateException {
        needShop(shop);
        needBrand(brand);
        needRange(many, 1, BOTTLES_A_SHOP);
        needState(trade.breakReason(shop, brand, many) == NO_REASON);
        past.keep(now);
        return trade.breakBottles(shop, brand, many);
    }

    public int lose(int brand, int many)
            throws IndexOutOfBoundsException, IllegalArgumentException, IllegalStateException {
        needBrand(brand);
        needRange(many, 1, BOTTLES_A_BREWERY);
        needState(now.ofBrand(brand, OUT) >= many);
        past.keep(now);
        return trade.loseBottles(brand, many);
    }

    public int collect(int shop, int kind, int crates)
            throws IndexOutOfBoundsException, IllegalArgumentException, IllegalStateException {
        needShop(shop);
        needKind(kind);
        needRange(crates, 1, CRATES_A_CALL);
        needState(trade.collectReason(shop, kind, crates) == NO_REASON);
        past.keep(now);
        return trade.collectCrates(shop, kind, crates);
    }

    public int sort(int kind, int many) throws IllegalArgumentException, IllegalStateException {
        needKind(kind);
        needRange(many, 1, BOTTLES_A_BREWERY);
        needState(trade.yardOf(kind) >= many);
        past.keep(now);
        return trade.sortBottles(kind, many);
    }

    public int swap(int from, int to, int many)
            throws IndexOutOfBoundsException, IllegalArgumentException, IllegalStateException {
        needBrand(from);
        needBrand(to);
        needArgument(from != to && now.ofBrand(from, KIND) == now.ofBrand(to, KIND));
        needRange(many, 1, BOTTLES_A_BREWERY);
        needState(now.ofBrand(from, EMPTY) >= many);
        past.keep(now);
        return trade.swapBottles(from, to, many);
    }

    // ---- texts

    public int append(int code) throws IllegalArgumentException, IllegalStateException {
        needRange(code, Text.LEAST_CODE, Text.MOST_CODE);
        needState(text.length() < Text.MOST_LENGTH);
        text.add(code);
        return text.length();
    }

    public int clearBuffer() {
        int length = text.length();
        text.clear();
        return length;
    }

    public int firstError() {
        return text.errorAt();
    }

    public int run() throws IllegalArgumentException {
        needArgument(text.isRowOfOrders());
        past.keep(now);
        int done = carryOutOrders();
        text.clear();
        return done;
    }

    public int undo() throws IllegalStateException {
        needState(past.kept() > 0);
        past.giveBack(now);
        return past.kept();
    }

    // ---- what there is

    public int brand(int brand, int what) throws IndexOutOfBoundsException, IllegalArgumentException {
        needBrand(brand);
        needRange(what, 0, BRAND_NUMBERS - 1);
        return now.brandNumber(brand, what);
    }

    public int shop(int shop, int what) throws IndexOutOfBoundsException, IllegalArgumentException {
        needShop(shop);
        needArgument(isShopNumber(what));
        return now.shopNumber(shop, what);
    }

    public int count(int what) throws IllegalArgumentException {
        needRange(what, 0, COUNTS - 1);
        return what == SAVED ? past.kept() : now.countNumber(what);
    }

    public int setting(int setting) throws IndexOutOfBoundsException {
        needSetting(setting);
        return now.ofSetting(setting);
    }

    // ---- what would be; nothing is changed

    public int whyNotDeliver(int brand, int shop, int crates)
            throws IndexOutOfBoundsException, IllegalArgumentException {
        needBrand(brand);
        needShop(shop);
        needRange(crates, 1, CRATES_A_CALL);
        return trade.deliverReason(brand, shop, crates);
    }

    public int whyNotCollect(int shop, int kind, int crates)
            throws IndexOutOfBoundsException, IllegalArgumentException {
        needShop(shop);
        needKind(kind);
        needRange(crates, 1, CRATES_A_CALL);
        return trade.collectReason(shop, kind, crates);
    }

    public int mostCrates(int brand, int shop) throws IndexOutOfBoundsException {
        needBrand(brand);
        needShop(shop);
        return trade.mostDeliverable(brand, shop);
    }

    public int collected(int shop, int brand, int crates)
            throws IndexOutOfBoundsException, IllegalArgumentException {
        needShop(shop);
        needBrand(brand);
        needRange(crates, 1, CRATES_A_CALL);
        return trade.wouldCollect(shop, brand, crates);
    }

    public int filled(int brand, int many) throws IndexOutOfBoundsException, IllegalArgumentException {
        needBrand(brand);
        needRange(many, 1, BOTTLES_A_BREWERY);
        return many - trade.wornBy(brand, many);
    }

    public int bestShop(int kind) throws IllegalArgumentException {
        needKind(kind);
        return trade.bestToCollect(kind);
    }

    public double goneShare() {
        int all = now.brandSum(EMPTY, WORN);
        return all > 0 ? (double) now.brandSum(BROKEN, WORN) / (double) all : 0.0;
    }

    public long digest() {
        long hash = HASH_START;
        for (int what = 0; what < COUNTS; what++) {
            hash = mixed(hash, count(what));
        }
        for (int setting = 0; setting < SETTINGS; setting++) {
            hash = mixed(hash, now.ofSetting(setting));
        }
        for (int brand = 0; brand < now.ofAll(BRANDS); brand++) {
            hash = mixedBrand(hash, brand);
        }
        for (int shop = 0; shop < now.ofAll(SHOPS); shop++) {
            hash = mixedShop(hash, shop);
        }
        for (int kind = 0; kind < KINDS; kind++) {
            hash = mixed(hash, trade.bestToCollect(kind));
        }
        return mixedText(mixed(mixedCollected(hash), bitsOf(goneShare())));
    }

    // ---- what the hash is made of

    private static long mixed(long hash, long value) {
        return 31L * hash + value;
    }

    private long mixedBrand(long start, int brand) {
        long hash = start;
        for (int what = 0; what < BRAND_NUMBERS; what++) {
            hash = mixed(hash, now.brandNumber(brand, what));
        }
        hash = mixed(hash, BOTTLES_IN_HASH - trade.wornBy(brand, BOTTLES_IN_HASH));
        for (int shop = 0; shop < now.ofAll(SHOPS); shop++) {
            hash = mixed(hash, trade.mostDeliverable(brand, shop));
        }
        return hash;
    }

    private long mixedShop(long start, int shop) {
        long hash = start;
        for (int what = 0; what < SHOP_NUMBERS; what++) {
            if (isShopNumber(what)) {
                hash = mixed(hash, now.shopNumber(shop, what));
            }
        }
        return hash;
    }

    private long mixedCollected(long start) {
        long hash = start;
        for (int shop = 0; shop < now.ofAll(SHOPS); shop++) {
            for (int brand = 0; brand < now.ofAll(BRANDS); brand++) {
                hash = mixed(hash, trade.wouldCollect(shop, brand, ONE_CRATE));
            }
        }
        return hash;
    }

    private long mixedText(long start) {
        long hash = mixed(start, text.length());
        for (int i = 0; i < text.length(); i++) {
            hash = mixed(hash, text.codeAt(i));
        }
        return hash;
    }

    /**
     * The bits of a share from 0 to 1. They are worked out here since LANGUAGE.md leaves no Double; each step on the
     * way is exact.
     */
    private static long bitsOf(double share) {
        if (!(share > 0.0)) {
            return 0L;
        }
        double rest = share;
        long exponent = EXPONENT_OF_ONE;
        while (rest < 1.0 && exponent > 1) {
            rest = rest * 2.0;
            exponent--;
        }
        return (exponent << FRACTION_BITS) + (long) ((rest - 1.0) * (double) FRACTION_STEPS);
    }

    // ---- orders

    private int carryOutOrders() {
        int done = 0;
        int reason = NO_REASON;
        order.begin();
        for (int i = 0; i <= text.length(); i++) {
            // The end of the text ends the last order as a semicolon does.
            int code = i < text.length() ? text.codeAt(i) : ';';
            if (code == ';') {
                reason = reasonAgainstOrder(order.first(), order.second(), order.number());
                if (reason != NO_REASON) {
                    break;
                }
                carryOutOrder(order.first(), order.second(), order.number());
                done++;
            }
            order.takes(code);
        }
        now.putAll(RUN_REASON, reason);
        return done;
    }

    private int reasonAgainstOrder(int first, int second, int number) {
        if (!areThere(first, second)) {
            return NOT_THERE;
        }
        switch (order.letter()) {
            case 'd':
                return trade.deliverReason(first, second, number);
            case 's':
                return trade.sellReason(first, second, number);
            case 'r':
                return trade.returnReason(first, second, number);
            case 'b':
                return trade.breakReason(first, second, number);
            default:
                return trade.collectReason(first, second, number);
        }
    }

    private boolean areThere(int first, int second) {
        switch (order.letter()) {
            case 'd':
                return isBrand(first) && isShop(second);
            case 'c':
                return isShop(first);
            default:
                return isShop(first) && isBrand(second);
        }
    }

    private void carryOutOrder(int first, int second, int number) {
        switch (order.letter()) {
            case 'd':
                trade.deliverCrates(first, second, number);
                break;
            case 's':
                trade.sellBottles(first, second, number);
                break;
            case 'r':
                trade.returnBottles(first, second, number);
                break;
            case 'b':
                trade.breakBottles(first, second, number);
                break;
            default:
                trade.collectCrates(first, second, number);
                break;
        }
    }

    // ---- what a call needs

    private boolean isBrand(int brand) {
        return brand >= 0 && brand < now.ofAll(BRANDS);
    }

    private boolean isShop(int shop) {
        return shop >= 0 && shop < now.ofAll(SHOPS);
    }

    private static boolean isShopNumber(int what) {
        return what >= MONEY && what <= SOLD
                || what >= FULL_OF && what < FULL_OF + MOST_BRANDS
                || what >= EMPTY_OF && what < EMPTY_OF + MOST_BRANDS;
    }

    private void needBrand(int brand) {
        if (!isBrand(brand)) {
            throw new IndexOutOfBoundsException("there is no such brand");
        }
    }

    private void needShop(int shop) {
        if (!isShop(shop)) {
            throw new IndexOutOfBoundsException("there is no such shop");
        }
    }

    private static void needSetting(int setting) {
        if (setting < 0 || setting >= SETTINGS) {
            throw new IndexOutOfBoundsException("there is no such setting");
        }
    }

    private static void needKind(int kind) {
        needRange(kind, 0, KINDS - 1);
    }

    private static void needRange(int value, int least, int most) {
        needArgument(value >= least && value <= most);
    }

    private static void needArgument(boolean right) {
        if (!right) {
            throw new IllegalArgumentException("an argument is not allowed");
        }
    }

    private static void needState(boolean right) {
        if (!right) {
            throw new IllegalStateException("this cannot be done now");
        }
    }

    /** Outside a row there is 0, so that no index can be wrong. */
    private static int entry(int[] row, int at) {
        return row != null && at >= 0 && at < row.length ? row[at] : 0;
    }

    /** All numbers of one state in one row, so that a state is saved by one copy. */
    private static final class State {
        private static final int SETTINGS_FROM = COUNTS;
        private static final int BRANDS_FROM = SETTINGS_FROM + SETTINGS;
        private static final int SHOPS_FROM = BRANDS_FROM + MOST_BRANDS * BRAND_NUMBERS;
        private static final int SWAPS_FROM = SHOPS_FROM + MOST_SHOPS * SHOP_NUMBERS;
        private static final int LENGTH = SWAPS_FROM + MOST_BRANDS * MOST_BRANDS;

        private final int[] cells;

        private State() {
            cells = new int[LENGTH];
            for (int setting = 0; setting < SETTINGS; setting++) {
                putSetting(setting, entry(FIRST_SETTING, setting));
            }
        }

        private void copyFrom(State other) {
            if (other != null && other.cells.length == cells.length) {
                System.arraycopy(other.cells, 0, cells, 0, cells.length);
            }
        }

        // Outside the row there is 0 and nothing is kept, so that no index can be wrong.

        private int get(int at) {
            return at >= 0 && at < cells.length ? cells[at] : 0;
        }

        private void put(int at, int value) {
            if (at >= 0 && at < cells.length) {
                cells[at] = value;
            }
        }

        private int ofAll(int what) {
            return get(what);
        }

        private void putAll(int what, int value) {
            put(what, value);
        }

        private void addToAll(int what, int more) {
            put(what, get(what) + more);
        }

        private int ofSetting(int setting) {
            return get(SETTINGS_FROM + setting);
        }

        private void putSetting(int setting, int value) {
            put(SETTINGS_FROM + setting, value);
        }

        private int ofBrand(int brand, int what) {
            return get(BRANDS_FROM + brand * BRAND_NUMBERS + what);
        }

        private void addToBrand(int brand, int what, int more) {
            int at = BRANDS_FROM + brand * BRAND_NUMBERS + what;
            put(at, get(at) + more);
        }

        private int ofShop(int shop, int what) {
            return get(SHOPS_FROM + shop * SHOP_NUMBERS + what);
        }

        private void addToShop(int shop, int what, int more) {
            int at = SHOPS_FROM + shop * SHOP_NUMBERS + what;
            put(at, get(at) + more);
        }

        private int ofSwaps(int from, int to) {
            return get(SWAPS_FROM + from * MOST_BRANDS + to);
        }

        private void addToSwaps(int from, int to, int more) {
            int at = SWAPS_FROM + from * MOST_BRANDS + to;
            put(at, get(at) + more);
        }

        /** What shops have of a brand is kept with the shops alone, so that it can't differ; it is summed here. */
        private int brandNumber(int brand, int what) {
            switch (what) {
                case FULL_IN_SHOPS:
                    return overShops(FULL_OF + brand);
                case EMPTY_IN_SHOPS:
                    return overShops(EMPTY_OF + brand);
                default:
                    return ofBrand(brand, what);
            }
        }

        private int shopNumber(int shop, int what) {
            switch (what) {
                case ALL_FULL:
                    return overBrandsOf(shop, FULL_OF);
                case ALL_EMPTY:
                    return overBrandsOf(shop, EMPTY_OF);
                default:
                    return ofShop(shop, what);
            }
        }

        /** But for the number of the saved states, which no state can know. */
        private int countNumber(int what) {
            switch (what) {
                case CRATES_IN_SHOPS:
                    return overShops(CRATES);
                case ALL_OUT:
                    return overBrands(OUT);
                case ALL_YARD:
                    return overBrands(YARD);
                default:
                    return ofAll(what);
            }
        }

        private int overBrands(int what) {
            int sum = 0;
            for (int brand = 0; brand < MOST_BRANDS; brand++) {
                sum += ofBrand(brand, what);
            }
            return sum;
        }

        private int brandSum(int first, int last) {
            int sum = 0;
            for (int brand = 0; brand < MOST_BRANDS; brand++) {
                for (int what = first; what <= last; what++) {
                    sum += brandNumber(brand, what);
                }
            }
            return sum;
        }

        private int overShops(int what) {
            int sum = 0;
            for (int shop = 0; shop < MOST_SHOPS; shop++) {
                sum += ofShop(shop, what);
            }
            return sum;
        }

        private int overBrandsOf(int shop, int from) {
            int sum = 0;
            for (int brand = 0; brand < MOST_BRANDS; brand++) {
                sum += ofShop(shop, from + brand);
            }
            return sum;
        }
    }

    /** The saved states, in rows that are made once and used again. */
    private static final class Past {
        private static final int MOST_STATES = 6;

        private final State[] states;
        private int latest;
        private int kept;

        private Past() {
            states = new State[MOST_STATES];
            for (int i = 0; i < states.length; i++) {
                states[i] = new State();
            }
        }

        private int kept() {
            return kept;
        }

        private State latestState() {
            return latest >= 0 && latest < states.length ? states[latest] : null;
        }

        private void keep(State state) {
            latest = latest + 1 < MOST_STATES ? latest + 1 : 0;
            kept = kept < MOST_STATES ? kept + 1 : MOST_STATES;
            State saved = latestState();
            if (saved != null) {
                saved.copyFrom(state);
            }
        }

        private void giveBack(State state) {
            if (state != null && kept > 0) {
                state.copyFrom(latestState());
                latest = latest > 0 ? latest - 1 : MOST_STATES - 1;
                kept--;
            }
        }
    }

    /** What is done with bottles and crates: the reasons against it, what it changes, and what would be. */
    private static final class Trade {
        private final State state;
        /** What a shop has left of each brand while bottles are picked; made once, since many calls need it. */
        private final int[] left;

        private Trade() {
            state = new State();
            left = new int[MOST_BRANDS];
        }

        // ---- deposits

        private int depositOf(int brand) {
            return state.ofSetting(state.ofBrand(brand, KIND));
        }

        private int crateDeposits(int kind) {
            return CRATE * state.ofSetting(kind) + state.ofSetting(CRATE_DEPOSIT);
        }

        private int cratePrice(int brand) {
            return crateDeposits(state.ofBrand(brand, KIND)) + state.ofSetting(POOL_PART);
        }

        // ---- the reasons against what is done

        private static int bottleReason(int there, int needed) {
            return there < needed ? FEW_BOTTLES : NO_REASON;
        }

        private int deliverReason(int brand, int shop, int crates) {
            if (state.ofBrand(brand, FULL) < CRATE * crates) {
                return FEW_BOTTLES;
            }
            if (state.ofAll(STORE) < crates) {
                return FEW_CRATES;
            }
            return state.ofShop(shop, MONEY) < crates * cratePrice(brand) ? LITTLE_MONEY : NO_REASON;
        }

        private int sellReason(int shop, int brand, int many) {
            return bottleReason(state.ofShop(shop, FULL_OF + brand), many);
        }

        private int returnReason(int shop, int brand, int many) {
            if (state.ofBrand(brand, OUT) < many) {
                return FEW_BOTTLES;
            }
            return state.ofShop(shop, MONEY) < many * depositOf(brand) ? LITTLE_MONEY : NO_REASON;
        }

        private int breakReason(int shop, int brand, int many) {
            return bottleReason(state.ofShop(shop, EMPTY_OF + brand), many);
        }

        private int collectReason(int shop, int kind, int crates) {
            if (emptiesOf(shop, kind) < CRATE * crates) {
                return FEW_BOTTLES;
            }
            return state.ofShop(shop, CRATES) < crates ? FEW_CRATES : NO_REASON;
        }

        // ---- what is done, where there is no reason against it

        private int fillBottles(int brand, int many) {
            int worn = wornBy(brand, many);
            state.addToBrand(brand, EMPTY, -many);
            state.addToBrand(brand, FULL, many - worn);
            state.addToBrand(brand, WORN, worn);
            state.addToBrand(brand, FILLED, many);
            return many - worn;
        }

        private int deliverCrates(int brand, int shop, int crates) {
            int deposits = crates * crateDeposits(state.ofBrand(brand, KIND));
            int poolPart = crates * state.ofSetting(POOL_PART);
            state.addToBrand(brand, FULL, -CRATE * crates);
            state.addToShop(shop, FULL_OF + brand, CRATE * crates);
            state.addToAll(STORE, -crates);
            state.addToShop(shop, CRATES, crates);
            state.addToShop(shop, MONEY, -deposits - poolPart);
            state.addToShop(shop, PAID_DEPOSITS, deposits);
            state.addToAll(HELD, deposits);
            state.addToShop(shop, PAID_POOL, poolPart);
            state.addToAll(POOL, poolPart);
            return deposits + poolPart;
        }

        private int sellBottles(int shop, int brand, int many) {
            state.addToShop(shop, FULL_OF + brand, -many);
            state.addToBrand(brand, OUT, many);
            state.addToShop(shop, SOLD, many);
            state.addToShop(shop, MONEY, many * depositOf(brand));
            return state.ofShop(shop, MONEY);
        }

        private int returnBottles(int shop, int brand, int many) {
            state.addToBrand(brand, OUT, -many);
            state.addToShop(shop, EMPTY_OF + brand, many);
            state.addToShop(shop, SOLD, -many);
            state.addToShop(shop, MONEY, -many * depositOf(brand));
            return state.ofShop(shop, MONEY);
        }

        private int breakBottles(int shop, int brand, int many) {
            int deposits = many * depositOf(brand);
            int paid = Math.min(deposits, state.ofAll(POOL));
            state.addToShop(shop, EMPTY_OF + brand, -many);
            state.addToBrand(brand, BROKEN, many);
            state.addToAll(FORFEITED, deposits);
            state.addToAll(POOL, -paid);
            state.addToShop(shop, PAID_POOL, -paid);
            state.addToShop(shop, MONEY, paid);
            return paid;
        }

        private int loseBottles(int brand, int many) {
            state.addToBrand(brand, OUT, -many);
            state.addToBrand(brand, LOST, many);
            state.addToAll(FORFEITED, many * depositOf(brand));
            return state.ofBrand(brand, OUT);
        }

        private int collectCrates(int shop, int kind, int crates) {
            int deposits = crates * crateDeposits(kind);
            pickEmpties(shop, kind, CRATE * crates);
            for (int brand = 0; brand < MOST_BRANDS; brand++) {
                if (state.ofBrand(brand, KIND) == kind) {
                    int picked = pickedOf(shop, brand);
                    state.addToShop(shop, EMPTY_OF + brand, -picked);
                    state.addToBrand(brand, YARD, picked);
                }
            }
            state.addToShop(shop, CRATES, -crates);
            state.addToAll(STORE, crates);
            state.addToShop(shop, MONEY, deposits);
            state.addToShop(shop, PAID_DEPOSITS, -deposits);
            state.addToAll(HELD, -deposits);
            return deposits;
        }

        private int sortBottles(int kind, int many) {
            int rest = many;
            for (int brand = 0; brand < MOST_BRANDS; brand++) {
                if (state.ofBrand(brand, KIND) == kind) {
                    int sorted = Math.min(rest, state.ofBrand(brand, YARD));
                    state.addToBrand(brand, YARD, -sorted);
                    state.addToBrand(brand, EMPTY, sorted);
                    rest -= sorted;
                }
            }
            return yardOf(kind);
        }

        private int swapBottles(int from, int to, int many) {
            state.addToBrand(from, EMPTY, -many);
            state.addToBrand(to, EMPTY, many);
            state.addToBrand(from, SWAPPED, many);
            state.addToBrand(to, SWAPPED, -many);
            state.addToSwaps(from, to, many);
            state.addToSwaps(to, from, -many);
            return state.ofSwaps(from, to);
        }

        // ---- what there is of a kind

        private int emptiesOf(int shop, int kind) {
            int sum = 0;
            for (int brand = 0; brand < MOST_BRANDS; brand++) {
                if (state.ofBrand(brand, KIND) == kind) {
                    sum += state.ofShop(shop, EMPTY_OF + brand);
                }
            }
            return sum;
        }

        private int yardOf(int kind) {
            int sum = 0;
            for (int brand = 0; brand < MOST_BRANDS; brand++) {
                if (state.ofBrand(brand, KIND) == kind) {
                    sum += state.ofBrand(brand, YARD);
                }
            }
            return sum;
        }

        // ---- which bottles are collected

        private void pickEmpties(int shop, int kind, int many) {
            for (int brand = 0; brand < left.length; brand++) {
                boolean ofKind = state.ofBrand(brand, KIND) == kind;
                left[brand] = ofKind ? state.ofShop(shop, EMPTY_OF + brand) : 0;
            }
            for (int i = 0; i < many; i++) {
                pickOne();
            }
        }

        private void pickOne() {
            int best = 0;
            int most = 0;
            for (int brand = 0; brand < left.length; brand++) {
                if (left[brand] > most) {
                    most = left[brand];
                    best = brand;
                }
            }
            if (most > 0 && best < left.length) {
                left[best]--;
            }
        }

        private int pickedOf(int shop, int brand) {
            return state.ofShop(shop, EMPTY_OF + brand) - entry(left, brand);
        }

        // ---- what would be

        private int wornBy(int brand, int many) {
            int fillings = state.ofSetting(FILLINGS);
            int before = state.ofBrand(brand, FILLED);
            return fillings > 0 ? (before + many) / fillings - before / fillings : 0;
        }

        private int mostDeliverable(int brand, int shop) {
            int price = cratePrice(brand);
            int payable = price > 0 ? state.ofShop(shop, MONEY) / price : CRATES_A_CALL;
            int there = Math.min(state.ofBrand(brand, FULL) / CRATE, state.ofAll(STORE));
            return Math.min(Math.min(there, payable), CRATES_A_CALL);
        }

        private int mostCollectable(int shop, int kind) {
            int there = Math.min(emptiesOf(shop, kind) / CRATE, state.ofShop(shop, CRATES));
            return Math.min(there, CRATES_A_CALL);
        }

        private int wouldCollect(int shop, int brand, int crates) {
            int kind = state.ofBrand(brand, KIND);
            if (collectReason(shop, kind, crates) != NO_REASON) {
                return NONE;
            }
            pickEmpties(shop, kind, CRATE * crates);
            return pickedOf(shop, brand);
        }

        private int bestToCollect(int kind) {
            int best = NONE;
            int most = 0;
            for (int shop = 0; shop < MOST_SHOPS; shop++) {
                int crates = mostCollectable(shop, kind);
                if (crates > most) {
                    most = crates;
                    best = shop;
                }
            }
            return best;
        }
    }

    /** The buffer. */
    private static final class Text {
        private static final int MOST_LENGTH = 60;
        private static final int LEAST_CODE = 33;
        private static final int MOST_CODE = 126;

        private final int[] codes;
        private final Order order;
        private int length;

        private Text() {
            codes = new int[MOST_LENGTH];
            order = new Order();
        }

        private int length() {
            return length;
        }

        private int codeAt(int at) {
            return entry(codes, at);
        }

        private void add(int code) {
            if (length >= 0 && length < codes.length) {
                codes[length] = code;
                length++;
            }
        }

        private void clear() {
            length = 0;
        }

        private int errorAt() {
            order.begin();
            for (int i = 0; i < length; i++) {
                if (!order.takes(codeAt(i))) {
                    return i;
                }
            }
            return length;
        }

        private boolean isRowOfOrders() {
            return errorAt() == length && order.isWhole();
        }
    }

    /** Reads a row of orders, a character at a time, and holds what it has read of the order at hand. */
    private static final class Order {
        private static final int AT_LETTER = 0;
        private static final int AT_FIRST = 1;
        private static final int AT_SIGN = 2;
        private static final int AT_SECOND = 3;
        private static final int AT_STAR = 4;
        private static final int AT_NUMBER = 5;

        private int step;
        private int letter;
        private int first;
        private int second;
        private int number;

        private void begin() {
            step = AT_LETTER;
            letter = 0;
            first = 0;
            second = 0;
            number = 0;
        }

        private int letter() {
            return letter;
        }

        private int first() {
            return first;
        }

        private int second() {
            return second;
        }

        private int number() {
            return number;
        }

        private boolean isWhole() {
            return step == AT_NUMBER && number > 0;
        }

        /** False if the next character is a syntax error. */
        private boolean takes(int code) {
            if (step == AT_NUMBER) {
                return takesNumber(code);
            }
            boolean right = fits(code);
            if (right) {
                keep(code);
                step++;
            }
            return right;
        }

        private boolean fits(int code) {
            switch (step) {
                case AT_LETTER:
                    return code == 'd' || code == 's' || code == 'r' || code == 'b' || code == 'c';
                case AT_FIRST:
                    return isDigitBelow(code, letter == 'd' ? MOST_BRANDS : MOST_SHOPS);
                case AT_SIGN:
                    return code == (letter == 'd' ? '>' : ':');
                case AT_SECOND:
                    return isDigitBelow(code, secondBound());
                default:
                    return code == '*';
            }
        }

        private void keep(int code) {
            if (step == AT_LETTER) {
                letter = code;
            } else if (step == AT_FIRST) {
                first = code - '0';
            } else if (step == AT_SECOND) {
                second = code - '0';
            }
        }

        private boolean takesNumber(int code) {
            if (code == ';') {
                boolean right = isWhole();
                begin();
                return right;
            }
            boolean right = isDigitBelow(code, 10) && 10 * number + code - '0' >= 1
                    && 10 * number + code - '0' <= mostNumber();
            if (right) {
                number = 10 * number + code - '0';
            }
            return right;
        }

        private int secondBound() {
            if (letter == 'd') {
                return MOST_SHOPS;
            }
            return letter == 'c' ? KINDS : MOST_BRANDS;
        }

        private int mostNumber() {
            return letter == 'd' || letter == 'c' ? CRATES_A_CALL : BOTTLES_A_SHOP;
        }

        private static boolean isDigitBelow(int code, int bound) {
            return code >= '0' && code < '0' + bound;
        }
    }
}
