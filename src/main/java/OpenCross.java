import java.util.Arrays;
import java.util.NoSuchElementException;

/** The opening of one share: orders are gathered to one price, crossed, and opened again. */
public final class OpenCross {
    public static final int NONE = -1;

    /** Refused, where NONE already means that there is no price, or that an order has no fill to tell. */
    private static final int NO_ANSWER = -2;

    private static final int BUYS = 0;
    private static final int SELLS = 1;

    private static final int MARKET = 0;
    private static final int LIMIT = 1;
    private static final int HIDDEN = 2;
    private static final int ICE = 3;
    private static final int EVEN = 4;

    private static final int GATHERING = 0;
    private static final int FROZEN = 1;
    private static final int CROSSED = 2;

    /** The columns of an order's row, numbered as order() asks for them. */
    private static final int SIDE = 0;
    private static final int KIND = 1;
    private static final int QUANTITY = 2;
    private static final int PRICE = 3;
    private static final int SHOWS = 4;
    private static final int LEAST = 5;
    private static final int OWNER = 6;
    private static final int GONE = 7;
    private static final int WIDTH = 8;

    private static final int MOST_ORDERS = 40;
    /** One more than may stand: with() and moves() ask what one more would do. */
    private static final int ROOM = MOST_ORDERS + 1;
    private static final int MOST_QUANTITY = 9999;
    private static final int MOST_PRICE = 999;
    private static final int MOST_OWNER = 7;
    private static final int FIRST_REFERENCE = 100;
    private static final int MOST_MOVE = 200;
    private static final int MOST_ACTS = 12;
    private static final int MOST_PAST = 8;
    private static final int PAST_WIDTH = 4;

    private final Tape tape = new Tape();
    /** What stands now. */
    private Book book = new Book();
    /** Where an act, or a question, is tried out; nothing in it outlives a call. */
    private Book draft = new Book();
    private final Auction auction = new Auction(book);
    /** A ring of what stood ahead of each of the latest acts. */
    private final Book[] acts = new Book[MOST_ACTS];
    private int nextAct = 0;
    private int actCount = 0;
    /** Four numbers of each of the latest crossings, the latest first. */
    private final int[] crossings = new int[MOST_PAST * PAST_WIDTH];
    private int crossingCount = 0;

    public OpenCross() {
        for (int i = 0; i < MOST_ACTS; i++) {
            acts[i] = new Book();
        }
    }

    public int feed(int a, int b, int c, int d, int e) {
        if (!tape.hasRoom()) {
            return NONE;
        }
        tape.append(a);
        tape.append(b);
        tape.append(c);
        tape.append(d);
        tape.append(e);
        return tape.size;
    }

    public int text(int n) {
        if (n < 0 || n > tape.size) {
            return NONE;
        }
        draft.reset();
        int fault = tape.read(n, draft);
        if (fault != 0) {
            return -2 - fault;
        }
        Book old = book;
        book = draft;
        draft = old;
        actCount = 0;
        crossingCount = 0;
        return book.size;
    }

    public int told(int side, int kind, int quantity, int price, int shows, int least, int owner) {
        if (!canBe(side, kind, quantity, price) || !within(least, 0, quantity) || !within(owner, 0, MOST_OWNER)) {
            return NONE;
        }
        if (kind == ICE && !within(shows, 1, quantity)) {
            return NONE;
        }
        if (book.phase == CROSSED || book.size >= MOST_ORDERS) {
            return NONE;
        }
        draft.become(book);
        int number = draft.add(side, kind, quantity, price, shows, least, owner);
        return keepUnlessWorse() ? number : NONE;
    }

    public int gone(int order) {
        if (book.phase == CROSSED || !book.stands(order)) {
            return NONE;
        }
        int quantity = book.get(order, QUANTITY);
        draft.become(book);
        draft.set(order, GONE, 1);
        return keepUnlessWorse() ? quantity : NONE;
    }

    public int less(int order, int quantity) {
        if (book.phase == CROSSED || !book.stands(order)) {
            return NONE;
        }
        int old = book.get(order, QUANTITY);
        if (quantity < 1 || quantity >= old) {
            return NONE;
        }
        draft.become(book);
        draft.lower(order, quantity);
        return keepUnlessWorse() ? old : NONE;
    }

    public boolean freeze() {
        if (book.phase != GATHERING) {
            return false;
        }
        draft.become(book);
        draft.phase = FROZEN;
        keep();
        return true;
    }

    public int cross() {
        if (book.phase == CROSSED) {
            return NONE;
        }
        runCross();
        auction.match();
        draft.become(book);
        draft.leave(auction.fills);
        keepCrossing();
        keep();
        return auction.choice.volume;
    }

    public int open() {
        if (book.phase != CROSSED) {
            return NONE;
        }
        runCross();
        draft.become(book);
        draft.phase = GATHERING;
        if (auction.choice.price != NONE) {
            draft.reference = auction.choice.price;
        }
        draft.forgetGone();
        keep();
        return book.size;
    }

    public int reference(int price) {
        if (book.phase != GATHERING || !isPrice(price)) {
            return NONE;
        }
        int old = book.reference;
        draft.become(book);
        draft.reference = price;
        keep();
        return old;
    }

    public boolean collar(int low, int high) {
        if (book.phase != GATHERING || !isPrice(low) || !isPrice(high) || low > high) {
            return false;
        }
        draft.become(book);
        draft.low = low;
        draft.high = high;
        keep();
        return true;
    }

    public boolean back() {
        if (actCount <= 0) {
            return false;
        }
        actCount--;
        nextAct = nextAct == 0 ? MOST_ACTS - 1 : nextAct - 1;
        Book undone = book;
        book = acts[nextAct];
        acts[nextAct] = undone;
        return true;
    }

    public int order(int order, int what) {
        return book.has(order) && within(what, 0, WIDTH - 1) ? book.get(order, what) : NONE;
    }

    public int curve(int price, int what) throws NoSuchElementException {
        if (!isPrice(price) || !within(what, 0, 5)) {
            throw new NoSuchElementException("no such price or what");
        }
        Balance balance = auction.balance;
        balance.sum(book, price);
        switch (what) {
            case 0: return balance.bought;
            case 1: return balance.sold;
            case 2: return balance.over;
            case 3: return balance.help;
            case 4: return balance.volume;
            default: return balance.rest;
        }
    }

    public int crossed(int what) throws NoSuchElementException {
        if (!within(what, 0, 6)) {
            throw new NoSuchElementException("no such what");
        }
        runCross();
        switch (what) {
            case 4: return auction.rounds;
            case 5: return auction.outs;
            default: return auction.choice.tell(what);
        }
    }

    public int fill(int order) {
        if (!book.has(order)) {
            return NONE;
        }
        runCross();
        if (auction.isGone(order)) {
            return NONE;
        }
        return auction.isOut(order) ? NO_ANSWER : auction.fills[order];
    }

    public int slice(int side, int price, int i, int what) {
        if (!isSide(side) || !isPrice(price) || !within(what, 0, 1)) {
            return NONE;
        }
        auction.hold(book, book.rows);
        if (i == NONE) {
            return auction.countSlices(side, price);
        }
        int key = auction.findSlice(side, price, i);
        if (key == NONE) {
            return NONE;
        }
        return what == 0 ? Auction.numberOf(key) : auction.sizeOf(key);
    }

    public int trade(int i, int what) {
        if (!within(what, 0, 2)) {
            return NONE;
        }
        runCross();
        auction.match();
        if (i == NONE) {
            return auction.tradeCount;
        }
        return within(i, 0, auction.tradeCount - 1) ? auction.tradePart(i, what) : NONE;
    }

    public int notice(int what) throws NoSuchElementException {
        if (!within(what, 0, 3) && what != 6) {
            throw new NoSuchElementException("no such what");
        }
        draft.become(book);
        draft.keepShown();
        auction.hold(draft, draft.rows);
        auction.run(NONE);
        return auction.choice.tell(what);
    }

    public int without(int order) {
        if (book.phase == CROSSED || !book.stands(order)) {
            return NO_ANSWER;
        }
        auction.hold(book, book.rows);
        auction.run(order);
        return auction.choice.price;
    }

    public int with(int side, int kind, int quantity, int price) {
        if (book.phase == CROSSED || !canBe(side, kind, quantity, price)) {
            return NO_ANSWER;
        }
        draft.become(book);
        draft.add(side, kind, quantity, price, quantity, 0, 0);
        auction.hold(draft, draft.rows);
        auction.run(NONE);
        return auction.choice.price;
    }

    public int moves(int side, int what) {
        if (book.phase == CROSSED || !isSide(side) || !within(what, 0, 1)) {
            return NONE;
        }
        runCross();
        int price = auction.choice.price;
        draft.become(book);
        int extra = draft.add(side, MARKET, 1, 0, 0, 0, 0);
        auction.hold(draft, draft.rows);
        for (int quantity = 1; quantity <= MOST_MOVE; quantity++) {
            draft.set(extra, QUANTITY, quantity);
            auction.run(NONE);
            if (auction.choice.price != price) {
                return what == 0 ? quantity : auction.choice.price;
            }
        }
        return NONE;
    }

    public long swings() {
        if (book.phase == CROSSED) {
            return 0L;
        }
        runCross();
        int price = auction.choice.price;
        long bits = 0L;
        for (int order = 0; order < book.size; order++) {
            if (book.stands(order)) {
                auction.run(order);
                bits |= auction.choice.price != price ? 1L << order : 0L;
            }
        }
        return bits;
    }

    public int level(int side, int i, int what) {
        if (!isSide(side) || !within(what, 0, 3)) {
            return NONE;
        }
        if (i == NONE) {
            return book.countLevels(side);
        }
        if (!within(i, 0, MOST_ORDERS - 1)) {
            return NONE;
        }
        int price = book.levelPrice(side, i);
        if (price == NONE || what == 0) {
            return price;
        }
        return book.levelSum(side, price, what);
    }

    public int past(int i, int what) throws NoSuchElementException {
        if (!within(i, 0, Math.min(crossingCount, MOST_PAST) - 1) || !within(what, 0, PAST_WIDTH - 1)) {
            throw new NoSuchElementException("no such crossing or what");
        }
        return crossings[i * PAST_WIDTH + what];
    }

    public int owner(int owner, int what) {
        if (!within(owner, 0, MOST_OWNER) || !within(what, 0, 3)) {
            return NONE;
        }
        if (what == 3) {
            return book.countOf(owner);
        }
        runCross();
        if (what == 2) {
            auction.match();
            return auction.tradedWithin(owner);
        }
        return auction.filledOf(owner, what);
    }

    public long gain() {
        runCross();
        return auction.gained();
    }

    public int left() {
        runCross();
        draft.become(book);
        draft.leaveOf(auction);
        auction.hold(draft, draft.rows);
        auction.run(NONE);
        return auction.choice.volume;
    }

    public int count(int what) {
        switch (what) {
            case 0: return book.size;
            case 1: return book.phase;
            case 2: return book.reference;
            case 3: return book.low;
            case 4: return book.high;
            case 5: return book.countStanding();
            case 6: return Math.max(0, book.levelPrice(BUYS, 0));
            case 7: return book.levelPrice(SELLS, 0) == NONE ? MOST_PRICE + 1 : book.levelPrice(SELLS, 0);
            case 8: return actCount;
            case 9: return tape.size;
            case 10: return crossingCount;
            default: return NONE;
        }
    }

    private static boolean within(int number, int low, int high) {
        return number >= low && number <= high;
    }

    private static boolean isSide(int side) {
        return side == BUYS || side == SELLS;
    }

    private static boolean isPrice(int price) {
        return within(price, 1, MOST_PRICE);
    }

    private static boolean canBe(int side, int kind, int quantity, int price) {
        return isSide(side) && within(kind, MARKET, EVEN) && within(quantity, 1, MOST_QUANTITY)
                && (kind == MARKET || isPrice(price));
    }

    /** THE CROSS as it would be now or, once crossed, as it was. */
    private void runCross() {
        auction.hold(book, book.phase == CROSSED ? book.was : book.rows);
        auction.run(NONE);
    }

    private boolean keepUnlessWorse() {
        if (book.phase == FROZEN) {
            auction.hold(book, book.rows);
            auction.run(NONE);
            int rest = Math.abs(auction.choice.rest);
            auction.hold(draft, draft.rows);
            auction.run(NONE);
            if (Math.abs(auction.choice.rest) > rest) {
                return false;
            }
        }
        keep();
        return true;
    }

    /** The draft is what stands from now on; the book of the oldest act is used again as the next draft. */
    private void keep() {
        Book oldest = acts[nextAct];
        acts[nextAct] = book;
        book = draft;
        draft = oldest;
        nextAct = nextAct == MOST_ACTS - 1 ? 0 : nextAct + 1;
        actCount = Math.min(actCount + 1, MOST_ACTS);
    }

    private void keepCrossing() {
        System.arraycopy(crossings, 0, crossings, PAST_WIDTH, (MOST_PAST - 1) * PAST_WIDTH);
        crossings[0] = auction.choice.price;
        crossings[1] = auction.choice.volume;
        crossings[2] = auction.choice.rest;
        crossings[3] = auction.tradeCount;
        crossingCount++;
    }

    /** The orders and terms of an opening: all that an act changes and that comes back with it. */
    private static final class Book {
        final int[] rows = new int[ROOM * WIDTH];
        /** The rows ahead of the crossing; they count while the phase is CROSSED. */
        final int[] was = new int[MOST_ORDERS * WIDTH];
        int size = 0;
        int phase = GATHERING;
        int reference = FIRST_REFERENCE;
        int low = 1;
        int high = MOST_PRICE;

        void reset() {
            size = 0;
            phase = GATHERING;
            reference = FIRST_REFERENCE;
            low = 1;
            high = MOST_PRICE;
        }

        /** All but what was: no act goes from CROSSED to CROSSED. */
        void become(Book other) {
            size = other.size;
            phase = other.phase;
            reference = other.reference;
            low = other.low;
            high = other.high;
            System.arraycopy(other.rows, 0, rows, 0, size * WIDTH);
        }

        boolean has(int order) {
            return order >= 0 && order < size;
        }

        boolean stands(int order) {
            return has(order) && get(order, GONE) == 0;
        }

        int get(int order, int what) {
            return rows[order * WIDTH + what];
        }

        void set(int order, int what, int number) {
            rows[order * WIDTH + what] = number;
        }

        int add(int side, int kind, int quantity, int price, int shows, int least, int owner) {
            if (size >= ROOM) {
                return NONE;
            }
            int number = size;
            size++;
            set(number, SIDE, side);
            set(number, KIND, kind);
            set(number, QUANTITY, quantity);
            set(number, PRICE, kind == MARKET ? 0 : price);
            set(number, SHOWS, kind == ICE ? shows : 0);
            set(number, LEAST, least);
            set(number, OWNER, owner);
            set(number, GONE, 0);
            return number;
        }

        void lower(int order, int quantity) {
            set(order, QUANTITY, quantity);
            set(order, SHOWS, Math.min(get(order, SHOWS), quantity));
            set(order, LEAST, Math.min(get(order, LEAST), quantity));
        }

        void leave(int[] fills) {
            System.arraycopy(rows, 0, was, 0, size * WIDTH);
            phase = CROSSED;
            for (int order = 0; order < size; order++) {
                if (stands(order)) {
                    leaveOne(order, fills[order]);
                }
            }
        }

        private void leaveOne(int order, int fill) {
            lower(order, get(order, QUANTITY) - fill);
            int kind = get(order, KIND);
            if (get(order, QUANTITY) == 0 || kind == MARKET || kind == EVEN) {
                set(order, GONE, 1);
            }
        }

        /** What could still trade behind a cross: its rows less the fills, without those that are out. */
        void leaveOf(Auction auction) {
            System.arraycopy(auction.rows, 0, rows, 0, size * WIDTH);
            for (int order = 0; order < size; order++) {
                if (stands(order)) {
                    leaveOne(order, auction.fills[order]);
                    set(order, LEAST, 0);
                }
                if (auction.isOut(order)) {
                    set(order, GONE, 1);
                }
            }
        }

        void forgetGone() {
            int kept = 0;
            for (int order = 0; order < size; order++) {
                if (stands(order)) {
                    System.arraycopy(rows, order * WIDTH, rows, kept * WIDTH, WIDTH);
                    kept++;
                }
            }
            size = kept;
        }

        void keepShown() {
            for (int order = 0; order < size; order++) {
                set(order, LEAST, 0);
                set(order, QUANTITY, shownOf(order));
            }
        }

        private int shownOf(int order) {
            switch (get(order, KIND)) {
                case HIDDEN: return 0;
                case ICE: return get(order, SHOWS);
                default: return get(order, QUANTITY);
            }
        }

        private boolean standsAtLevel(int order, int side) {
            return stands(order) && get(order, SIDE) == side && get(order, KIND) != MARKET;
        }

        /** The best price of a side that is worse than the one told; NONE behind the last. */
        private int nextLevel(int side, int price) {
            int best = NONE;
            for (int order = 0; order < size; order++) {
                int own = get(order, PRICE);
                boolean worse = side == BUYS ? own < price : own > price;
                boolean better = best == NONE || (side == BUYS ? own > best : own < best);
                if (standsAtLevel(order, side) && worse && better) {
                    best = own;
                }
            }
            return best;
        }

        private static int aheadOfLevels(int side) {
            return side == BUYS ? MOST_PRICE + 1 : 0;
        }

        int countLevels(int side) {
            int count = 0;
            int price = nextLevel(side, aheadOfLevels(side));
            while (price != NONE && count < MOST_ORDERS) {
                count++;
                price = nextLevel(side, price);
            }
            return count;
        }

        int levelPrice(int side, int i) {
            int price = nextLevel(side, aheadOfLevels(side));
            for (int passed = 0; passed < i && price != NONE; passed++) {
                price = nextLevel(side, price);
            }
            return price;
        }

        int levelSum(int side, int price, int what) {
            int sum = 0;
            for (int order = 0; order < size; order++) {
                if (standsAtLevel(order, side) && get(order, PRICE) == price) {
                    sum += what == 1 ? shownOf(order) : what == 2 ? get(order, QUANTITY) : 1;
                }
            }
            return sum;
        }

        int countStanding() {
            int count = 0;
            for (int order = 0; order < size; order++) {
                count += stands(order) ? 1 : 0;
            }
            return count;
        }

        int countOf(int owner) {
            int count = 0;
            for (int order = 0; order < size; order++) {
                count += stands(order) && get(order, OWNER) == owner ? 1 : 0;
            }
            return count;
        }
    }

    /** What the willing orders come to at one price. */
    private static final class Balance {
        int bought = 0;
        int sold = 0;
        int over = 0;
        int help = 0;
        int volume = 0;
        int rest = 0;
        private int evenBuys = 0;
        private int evenSells = 0;

        void reset() {
            bought = 0;
            sold = 0;
            evenBuys = 0;
            evenSells = 0;
        }

        void add(int side, int kind, int quantity) {
            if (side == BUYS) {
                bought += kind == EVEN ? 0 : quantity;
                evenBuys += kind == EVEN ? quantity : 0;
            } else {
                sold += kind == EVEN ? 0 : quantity;
                evenSells += kind == EVEN ? quantity : 0;
            }
        }

        void sum(Book book, int price) {
            reset();
            for (int order = 0; order < book.size; order++) {
                int side = book.get(order, SIDE);
                int kind = book.get(order, KIND);
                if (book.stands(order) && isWilling(side, kind, book.get(order, PRICE), price)) {
                    add(side, kind, book.get(order, QUANTITY));
                }
            }
            even();
        }

        static boolean isWilling(int side, int kind, int own, int price) {
            return kind == MARKET || (side == BUYS ? own >= price : own <= price);
        }

        void even() {
            over = bought - sold;
            help = over > 0 ? Math.min(evenSells, over) : Math.min(evenBuys, -over);
            volume = Math.min(bought, sold) + help;
            rest = over > 0 ? over - help : over + help;
        }
    }

    /** Which of the prices is THE PRICE. They are weighed from the lowest up, in stretches that are alike. */
    private static final class Choice {
        int price = NONE;
        int volume = 0;
        int rest = 0;
        private int key = 0;
        private int wide = 0;
        private int reference = 0;
        private int narrow = 0;
        private int restSize = 0;
        private int lowest = 0;
        private int highest = 0;
        private int nearest = 0;
        private int nearestRest = 0;
        private boolean allAbove = false;
        private boolean allBelow = false;

        void start(int nearTo) {
            reference = nearTo;
            volume = 0;
            wide = 0;
            narrow = 0;
        }

        void weigh(int from, int to, Balance balance) {
            int many = balance.volume;
            if (many == 0 || many < volume) {
                return;
            }
            if (many > volume) {
                volume = many;
                wide = 0;
                narrow = 0;
            }
            wide += to - from + 1;
            weighRest(from, to, balance.rest);
        }

        private void weighRest(int from, int to, int some) {
            int size = Math.abs(some);
            if (narrow > 0 && size > restSize) {
                return;
            }
            if (narrow == 0 || size < restSize) {
                restSize = size;
                narrow = 0;
                lowest = from;
                nearest = NONE;
                allAbove = true;
                allBelow = true;
            }
            narrow += to - from + 1;
            highest = to;
            allAbove = allAbove && some > 0;
            allBelow = allBelow && some < 0;
            int near = Math.max(from, Math.min(to, reference));
            if (nearest == NONE || Math.abs(near - reference) <= Math.abs(nearest - reference)) {
                nearest = near;
                nearestRest = some;
            }
        }

        void decide() {
            if (volume == 0) {
                price = NONE;
                rest = 0;
                key = 0;
                return;
            }
            if (narrow == 1 || !(allAbove || allBelow)) {
                price = nearest;
                rest = nearestRest;
            } else {
                price = allAbove ? highest : lowest;
                rest = allAbove ? restSize : -restSize;
            }
            key = wide == 1 ? 0 : narrow == 1 ? 1 : allAbove || allBelow ? 2 : 3;
        }

        int tell(int what) {
            switch (what) {
                case 0: return price;
                case 1: return volume;
                case 2: return rest;
                case 3: return key;
                default: return wide;
            }
        }
    }

    /** THE CROSS of some rows: its price, fills, rounds and trades. */
    private static final class Auction {
        private static final int MOST_SLICES = 2 * ROOM;
        private static final int TRADE_WIDTH = 3;
        /** A slice's key tells its turn by its size: even, not market, price, not shown, number. */
        private static final int NUMBER_BITS = 6;
        private static final int NUMBER_MASK = (1 << NUMBER_BITS) - 1;
        private static final int UNSHOWN_BIT = 1 << NUMBER_BITS;
        private static final int PRICE_SHIFT = NUMBER_BITS + 1;
        private static final int PRICED_BIT = 1 << (PRICE_SHIFT + 10);
        private static final int EVEN_BIT = PRICED_BIT << 1;

        private static final int IN = 0;
        private static final int AWAY = 1;
        private static final int OUT = 2;

        final Balance balance = new Balance();
        final Choice choice = new Choice();
        final int[] fills = new int[ROOM];
        int rounds = 0;
        int outs = 0;
        int tradeCount = 0;
        private final int[] trades = new int[MOST_SLICES * TRADE_WIDTH];
        private final int[] states = new int[ROOM];
        private final int[][] slices = new int[2][MOST_SLICES];
        private final int[][] parts = new int[2][MOST_SLICES];
        private final int[] sliceCounts = new int[2];
        /** The prices from which on an order is willing no longer (buys) or is so (sells), with its number. */
        private final int[] turns = new int[ROOM];
        private int turnCount = 0;
        private Book terms;
        private int[] rows;

        Auction(Book book) {
            terms = book;
            rows = book.rows;
        }

        /** What does not change from round to round is put in order here, once. */
        void hold(Book book, int[] some) {
            terms = book;
            rows = some;
            sliceCounts[BUYS] = 0;
            sliceCounts[SELLS] = 0;
            turnCount = 0;
            for (int order = 0; order < book.size; order++) {
                if (!isGone(order)) {
                    holdSlices(order);
                    holdTurn(order);
                }
            }
        }

        private int get(int order, int what) {
            return rows[order * WIDTH + what];
        }

        boolean isGone(int order) {
            return get(order, GONE) != 0;
        }

        boolean isOut(int order) {
            return states[order] == OUT;
        }

        private void holdSlices(int order) {
            int side = get(order, SIDE);
            int kind = get(order, KIND);
            int key = keyOf(side, kind, get(order, PRICE)) | order;
            holdSlice(side, kind == HIDDEN ? key | UNSHOWN_BIT : key);
            if (kind == ICE && get(order, QUANTITY) > get(order, SHOWS)) {
                holdSlice(side, key | UNSHOWN_BIT);
            }
        }

        private static int keyOf(int side, int kind, int price) {
            if (kind == MARKET) {
                return 0;
            }
            int turn = side == BUYS ? MOST_PRICE - price : price;
            return (kind == EVEN ? EVEN_BIT : 0) | PRICED_BIT | (turn << PRICE_SHIFT);
        }

        private void holdSlice(int side, int key) {
            insert(slices[side], sliceCounts[side], key);
            sliceCounts[side]++;
        }

        private void holdTurn(int order) {
            if (get(order, KIND) != MARKET) {
                int from = get(order, SIDE) == BUYS ? get(order, PRICE) + 1 : get(order, PRICE);
                insert(turns, turnCount, (from << NUMBER_BITS) | order);
                turnCount++;
            }
        }

        private static void insert(int[] keys, int count, int key) {
            int at = count;
            while (at > 0 && keys[at - 1] > key) {
                keys[at] = keys[at - 1];
                at--;
            }
            keys[at] = key;
        }

        static int numberOf(int key) {
            return key & NUMBER_MASK;
        }

        int sizeOf(int key) {
            int order = numberOf(key);
            int quantity = get(order, QUANTITY);
            if (get(order, KIND) != ICE) {
                return quantity;
            }
            int shows = get(order, SHOWS);
            return (key & UNSHOWN_BIT) == 0 ? shows : quantity - shows;
        }

        private boolean isWilling(int order, int price) {
            return Balance.isWilling(get(order, SIDE), get(order, KIND), get(order, PRICE), price);
        }

        int countSlices(int side, int price) {
            int count = 0;
            for (int i = 0; i < sliceCounts[side]; i++) {
                count += isWilling(numberOf(slices[side][i]), price) ? 1 : 0;
            }
            return count;
        }

        int findSlice(int side, int price, int wanted) {
            int count = 0;
            for (int i = 0; i < sliceCounts[side]; i++) {
                if (isWilling(numberOf(slices[side][i]), price)) {
                    if (count == wanted) {
                        return slices[side][i];
                    }
                    count++;
                }
            }
            return NONE;
        }

        /** The rounds of THE CROSS, one order left aside (NONE: none is). */
        void run(int aside) {
            for (int order = 0; order < terms.size; order++) {
                states[order] = order == aside || isGone(order) ? AWAY : IN;
            }
            outs = 0;
            for (rounds = 1; rounds <= terms.size + 1; rounds++) {
                findPrice();
                Arrays.fill(fills, 0);
                share(BUYS);
                share(SELLS);
                int unserved = lastUnserved();
                if (unserved == NONE) {
                    return;
                }
                states[unserved] = OUT;
                outs++;
            }
        }

        private void findPrice() {
            choice.start(terms.reference);
            startBelowAll();
            int from = terms.low;
            int passed = 0;
            for (int i = 0; i <= turnCount && from <= terms.high; i++) {
                while (passed < turnCount && turns[passed] >> NUMBER_BITS <= from) {
                    pass(numberOf(turns[passed]));
                    passed++;
                }
                int alikeTo = passed < turnCount ? (turns[passed] >> NUMBER_BITS) - 1 : MOST_PRICE;
                int to = Math.min(terms.high, alikeTo);
                balance.even();
                choice.weigh(from, to, balance);
                from = to + 1;
            }
            choice.decide();
        }

        private void startBelowAll() {
            balance.reset();
            for (int order = 0; order < terms.size; order++) {
                if (states[order] == IN && (get(order, KIND) == MARKET || get(order, SIDE) == BUYS)) {
                    balance.add(get(order, SIDE), get(order, KIND), get(order, QUANTITY));
                }
            }
        }

        private void pass(int order) {
            if (states[order] == IN) {
                int quantity = get(order, QUANTITY);
                balance.add(get(order, SIDE), get(order, KIND), get(order, SIDE) == BUYS ? -quantity : quantity);
            }
        }

        private void share(int side) {
            int open = choice.volume;
            for (int i = 0; i < sliceCounts[side]; i++) {
                int key = slices[side][i];
                int order = numberOf(key);
                boolean served = open > 0 && states[order] == IN && isWilling(order, choice.price);
                int part = served ? Math.min(open, sizeOf(key)) : 0;
                parts[side][i] = part;
                fills[order] += part;
                open -= part;
            }
        }

        private int lastUnserved() {
            for (int order = terms.size - 1; order >= 0; order--) {
                if (fills[order] > 0 && fills[order] < get(order, LEAST)) {
                    return order;
                }
            }
            return NONE;
        }

        /** Puts the filled slices of both sides side by side; it uses them up, so once behind a run. */
        void match() {
            tradeCount = 0;
            int buy = 0;
            int sell = 0;
            while (buy < sliceCounts[BUYS] && sell < sliceCounts[SELLS]) {
                int many = Math.min(parts[BUYS][buy], parts[SELLS][sell]);
                if (many > 0 && tradeCount < MOST_SLICES) {
                    noteTrade(slices[BUYS][buy], slices[SELLS][sell], many);
                }
                parts[BUYS][buy] -= many;
                parts[SELLS][sell] -= many;
                if (parts[BUYS][buy] == 0) {
                    buy++;
                } else {
                    sell++;
                }
            }
        }

        private void noteTrade(int buyKey, int sellKey, int many) {
            int at = tradeCount * TRADE_WIDTH;
            trades[at] = numberOf(buyKey);
            trades[at + 1] = numberOf(sellKey);
            trades[at + 2] = many;
            tradeCount++;
        }

        int tradePart(int i, int what) {
            return trades[i * TRADE_WIDTH + what];
        }

        int tradedWithin(int owner) {
            int sum = 0;
            for (int i = 0; i < tradeCount; i++) {
                boolean buys = get(tradePart(i, 0), OWNER) == owner;
                boolean sells = get(tradePart(i, 1), OWNER) == owner;
                sum += buys && sells ? tradePart(i, 2) : 0;
            }
            return sum;
        }

        int filledOf(int owner, int side) {
            int sum = 0;
            for (int order = 0; order < terms.size; order++) {
                boolean counts = get(order, OWNER) == owner && get(order, SIDE) == side;
                sum += counts ? fills[order] : 0;
            }
            return sum;
        }

        long gained() {
            long sum = 0L;
            for (int order = 0; order < terms.size; order++) {
                int better = choice.price - get(order, PRICE);
                int each = get(order, SIDE) == BUYS ? -better : better;
                sum += get(order, KIND) == MARKET ? 0L : (long) fills[order] * each;
            }
            return sum;
        }
    }

    /** The tape, and the reading of a text from its first bytes. */
    private static final class Tape {
        private static final int MOST_BYTES = 800;
        private static final int FED_BYTES = 20;
        private static final int LONGEST_WORD = 9;
        private static final int LONGEST_WHOLE = 4;

        private static final int END = 0;
        private static final int WORD = 1;
        private static final int WHOLE = 2;
        private static final int PARTING = 3;
        private static final int NO_TOKEN = 4;

        private static final int FORM = 1;
        private static final int BOUNDS = 2;
        private static final int TWICE_OR_LATE = 3;
        private static final int TOO_MANY = 4;

        int size = 0;
        private final byte[] bytes = new byte[MOST_BYTES];
        private int end = 0;
        /** The token that is looked at: where it starts, where what follows does, what it is. */
        private int start = 0;
        private int after = 0;
        private int type = END;
        private int value = 0;
        private int fault = 0;
        private boolean hasReference = false;
        private boolean hasCollar = false;

        boolean hasRoom() {
            return size + FED_BYTES <= MOST_BYTES;
        }

        void append(int four) {
            for (int shift = 24; shift >= 0 && size < MOST_BYTES; shift -= 8) {
                bytes[size] = (byte) (four >>> shift);
                size++;
            }
        }

        /** Writes what the text tells into a book as at first: 0, or eight times the place and the kind of a fault. */
        int read(int length, Book book) {
            end = Math.min(length, size);
            size = 0;
            after = 0;
            fault = 0;
            hasReference = false;
            hasCollar = false;
            next();
            readLine(book);
            for (int i = 0; i < MOST_BYTES && fault == 0 && type != END; i++) {
                if (type == PARTING) {
                    next();
                    readLine(book);
                } else {
                    fail(FORM);
                }
            }
            return fault;
        }

        private void readLine(Book book) {
            if (is("reference")) {
                readReference(book);
            } else if (is("collar")) {
                readCollar(book);
            } else if (is("buy")) {
                readOrder(book, BUYS);
            } else if (is("sell")) {
                readOrder(book, SELLS);
            } else {
                fail(FORM);
            }
        }

        private void readReference(Book book) {
            if (hasReference || book.size > 0) {
                fail(TWICE_OR_LATE);
                return;
            }
            hasReference = true;
            next();
            book.reference = readWhole(1, MOST_PRICE);
        }

        private void readCollar(Book book) {
            if (hasCollar || book.size > 0) {
                fail(TWICE_OR_LATE);
                return;
            }
            hasCollar = true;
            next();
            book.low = readWhole(1, MOST_PRICE);
            book.high = readWhole(book.low, MOST_PRICE);
        }

        private void readOrder(Book book, int side) {
            if (book.size >= MOST_ORDERS) {
                fail(TOO_MANY);
                return;
            }
            next();
            int kind = readKind();
            int quantity = readWhole(1, MOST_QUANTITY);
            int price = kind != MARKET && passes("at") ? readWhole(1, MOST_PRICE) : 0;
            int shows = kind == ICE && passes("shows") ? readWhole(1, quantity) : 0;
            int least = is("least") && passes("least") ? readWhole(0, quantity) : 0;
            int owner = is("by") && passes("by") ? readWhole(0, MOST_OWNER) : 0;
            if (fault == 0) {
                book.add(side, kind, quantity, price, shows, least, owner);
            }
        }

        private int readKind() {
            int kind = is("market") ? MARKET : is("limit") ? LIMIT : is("hidden") ? HIDDEN
                    : is("ice") ? ICE : is("even") ? EVEN : NONE;
            if (kind == NONE) {
                fail(FORM);
            } else {
                next();
            }
            return kind;
        }

        private boolean passes(String word) {
            if (!is(word)) {
                fail(FORM);
                return false;
            }
            next();
            return true;
        }

        private int readWhole(int low, int high) {
            if (type != WHOLE) {
                fail(FORM);
            } else if (!within(value, low, high)) {
                fail(BOUNDS);
            }
            int found = value;
            next();
            return found;
        }

        /** Reading goes on behind a fault; the first one, the leftmost, is the one that is told. */
        private void fail(int kind) {
            if (fault == 0) {
                fault = 8 * start + kind;
            }
        }

        private boolean is(String word) {
            if (type != WORD || after - start != word.length()) {
                return false;
            }
            for (int i = 0; i < word.length(); i++) {
                if (bytes[start + i] != word.charAt(i)) {
                    return false;
                }
            }
            return true;
        }

        /** Signs of one type that stand together are one token; where they are too many, there is none. */
        private void next() {
            start = after;
            while (start < end && (bytes[start] == ' ' || bytes[start] == '\n')) {
                start++;
            }
            value = 0;
            type = start < end ? typeOf(bytes[start]) : END;
            after = type == PARTING ? start + 1 : start;
            boolean runs = type == WORD || type == WHOLE;
            while (runs && after < end && typeOf(bytes[after]) == type) {
                value = value * 10 + bytes[after] - '0';
                after++;
            }
            if (after - start > (type == WORD ? LONGEST_WORD : LONGEST_WHOLE)) {
                type = NO_TOKEN;
            }
        }

        private static int typeOf(int sign) {
            if (sign >= 'a' && sign <= 'z') {
                return WORD;
            }
            if (sign >= '0' && sign <= '9') {
                return WHOLE;
            }
            return sign == ';' ? PARTING : NO_TOKEN;
        }
    }
}
