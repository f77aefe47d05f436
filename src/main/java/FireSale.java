/**
 * A spiral of sales: houses sell as they are worth less than their floors, prices fall by what is
 * sold, till nothing more is sold. ../shared/DOC.md says what each call answers; words in capitals
 * in the comments are that document's own.
 */
public final class FireSale {
    public static final int NONE = -1;

    private static final int NO_ANSWER = -2;
    private static final int SHELF_FULL = -3;
    private static final int TEXT_FAULT = -4;
    private static final int NO_WORTH = -1000000;

    private static final int ASSETS = 4;
    private static final int HOUSES = 6;
    private static final int SHELVES = 3;
    private static final int PLACES = 4;
    private static final int MOST_UNDOS = 12;
    private static final int MOST_BYTES = 800;
    private static final int FED_BYTES = 20;
    private static final int LINE_END = 10;

    private static final int MOST_BASE = 200;
    private static final int MOST_SLOPE = 9;
    private static final int MOST_COINS = 9999;
    private static final int MOST_STEP = 99;
    private static final int MOST_HOLDING = 60;
    private static final int MOST_LOAN = 999;
    private static final int MOST_CAP = 360;
    private static final int MOST_SHOCK = 200;
    private static final int MOST_ROUND = 2000;
    private static final int MOST_GIFTS = 6;
    private static final int MOST_BEST_GIFTS = 4;
    private static final int MOST_GIFT = 999;
    private static final int MOST_ROWS = 1000;
    private static final int ALL_HUNDREDTHS = 100;

    private static final int BASE = 0;
    private static final int SLOPE = 1;
    private static final int CURVE = 2;

    private static final int CASH = 0;
    private static final int DEBT = 1;
    private static final int FLOOR = 2;
    private static final int STEP = 3;
    private static final int WAY = 4;
    private static final int FACTS = 5;

    private static final int CAP = 0;
    private static final int SHOCK = 1;
    private static final int BOTH_SHELF = 2;
    private static final int ITEM = 3;

    private static final int CALM = 0;
    private static final int LEAST = 1;
    private static final int GREATEST = 2;
    private static final int PANIC = 3;

    private static final int TOLD_FALLEN = 4;
    private static final int TOLD_LOST = 5;
    private static final int TOLD_FALLEN_COUNT = 6;
    private static final int TOLD_ALL_SOLD = 7;

    private static final int GIVEN = 0;
    private static final int TAKEN = 1;
    private static final int CAPPED = 2;
    private static final int SHOCKED = 3;
    private static final int STRESSED = 4;

    private final Tape tape = new Tape();
    private final Speller speller = new Speller();
    private final Book book = new Book();
    private final Book draft = new Book();
    private final Book[] past = new Book[MOST_UNDOS];
    private int pastNext = 0;
    private int pastCount = 0;
    private final Market market = new Market();
    private final State found = new State();
    private final State spare = new State();
    private final int[] firstFallen = new int[HOUSES];
    private final int[] parts = new int[ASSETS];
    private final int[] gifts = new int[HOUSES];
    private final int[] bestGifts = new int[HOUSES];

    public FireSale() {
        for (int i = 0; i < MOST_UNDOS; i++) {
            past[i] = new Book();
        }
    }

    // ---- told

    public int feed(int a, int b, int c, int d, int e) {
        if (tape.size + FED_BYTES > MOST_BYTES) {
            return NONE;
        }
        tape.addFour(a);
        tape.addFour(b);
        tape.addFour(c);
        tape.addFour(d);
        tape.addFour(e);
        return tape.size;
    }

    public int back(int n) {
        if (n < 0 || n > tape.size) {
            return NONE;
        }
        tape.size -= n;
        return tape.size;
    }

    public int text() {
        int fault = tape.read(draft);
        tape.size = 0;
        if (fault >= 0) {
            return TEXT_FAULT - fault;
        }
        book.copyFrom(draft);
        pastCount = 0;
        return book.houses;
    }

    // ---- acts

    public int asset(int base, int slope) {
        if (book.assets >= ASSETS || !curveFits(BASE, base) || !curveFits(SLOPE, slope)) {
            return NONE;
        }
        remember();
        return book.addAsset(base, slope);
    }

    public int house(int cash, int debt) {
        if (book.houses >= HOUSES || !factFits(CASH, cash) || !factFits(DEBT, debt)) {
            return NONE;
        }
        remember();
        int house = book.addHouse();
        book.setFact(house, CASH, cash);
        book.setFact(house, DEBT, debt);
        return house;
    }

    public int set(int house, int what, int v) {
        if (!book.isHouse(house) || !factFits(what, v)) {
            return NONE;
        }
        return change(book.facts, house * FACTS + what, v);
    }

    public int hold(int house, int asset, int n) {
        if (!book.isHouse(house) || !book.isAsset(asset) || !isWithin(n, 0, MOST_HOLDING)) {
            return NONE;
        }
        return change(book.holdings, house * ASSETS + asset, n);
    }

    public int loan(int from, int to, int v) {
        if (!book.areTwoHouses(from, to) || !isWithin(v, 0, MOST_LOAN)) {
            return NONE;
        }
        return change(book.loans, from * HOUSES + to, v);
    }

    public int curve(int asset, int what, int v) {
        if (!book.isAsset(asset) || !curveFits(what, v)) {
            return NONE;
        }
        return change(book.curves, asset * CURVE + what, v);
    }

    public int lay(int shelf, int kind, int asset, int v) {
        if (!isWithin(shelf, 0, SHELVES - 1) || !book.isAsset(asset) || !itemFits(kind, v)) {
            return NONE;
        }
        // SHELF 0 is for kind 0, SHELF 1 for kind 1
        if (shelf != BOTH_SHELF && shelf != kind) {
            return NO_ANSWER;
        }
        if (book.laid[shelf] >= PLACES) {
            return SHELF_FULL;
        }
        remember();
        return book.put(shelf, kind, asset, v);
    }

    public int lift(int shelf, int place) {
        if (!book.isPlace(shelf, place)) {
            return NONE;
        }
        remember();
        return book.takeAway(shelf, place);
    }

    public int net(int house, int other) {
        if (!book.areTwoHouses(house, other)) {
            return NONE;
        }
        int there = book.loanOf(house, other);
        int back = book.loanOf(other, house);
        int lesser = Math.min(there, back);
        if (lesser == 0) {
            return NONE;
        }
        remember();
        book.setLoan(house, other, there - lesser);
        book.setLoan(other, house, back - lesser);
        return lesser;
    }

    public int merge(int house, int other) {
        if (!book.areTwoHouses(house, other)) {
            return NONE;
        }
        remember();
        book.join(house, other);
        book.removeHouse(other);
        return other < house ? house - 1 : house;
    }

    public int close(int house) {
        if (!book.isHouse(house)) {
            return NONE;
        }
        remember();
        book.removeHouse(house);
        return book.houses;
    }

    public int live() {
        find(LEAST);
        if (found.allSold() == 0 && found.fallen == 0) {
            return NONE;
        }
        remember();
        sellAsFound();
        for (int house = 0; house < book.houses; house++) {
            if (found.isFallen(house)) {
                book.emptyHouse(house);
            }
        }
        for (int asset = 0; asset < book.assets; asset++) {
            int fall = book.slopeOf(asset) * found.sold[asset];
            book.setBase(asset, Math.max(1, book.baseOf(asset) - fall));
        }
        return found.allSold();
    }

    public int undo() {
        if (pastCount == 0) {
            return NONE;
        }
        pastNext = (pastNext + MOST_UNDOS - 1) % MOST_UNDOS;
        pastCount--;
        book.copyFrom(past[pastNext]);
        return pastCount;
    }

    // ---- asked

    public int of(int house, int what) {
        if (!book.isHouse(house) || !isWithin(what, 0, FACTS + 2)) {
            return NONE;
        }
        switch (what) {
            case FACTS:
                return book.piecesOf(house);
            case FACTS + 1:
                return book.owedBy(house);
            case FACTS + 2:
                return book.owedTo(house);
            default:
                return book.fact(house, what);
        }
    }

    public int holding(int house, int asset) {
        if (!book.isHouse(house) || !book.isAsset(asset)) {
            return NONE;
        }
        return book.holdingOf(house, asset);
    }

    public int owes(int from, int to) {
        if (!book.isHouse(from) || !book.isHouse(to)) {
            return NONE;
        }
        return book.loanOf(from, to);
    }

    public int ofAsset(int asset, int what) {
        if (!book.isAsset(asset)) {
            return NONE;
        }
        switch (what) {
            case 0:
                return book.baseOf(asset);
            case 1:
                return book.slopeOf(asset);
            case 2:
                return book.heldOf(asset);
            case 3:
                return book.capOf(asset);
            case 4:
                return book.shocksOf(asset);
            default:
                return NONE;
        }
    }

    public int shelf(int shelf, int place, int what) {
        if (!book.isPlace(shelf, place) || !isWithin(what, 0, ITEM - 1)) {
            return NONE;
        }
        return book.item(shelf, place, what);
    }

    // ---- states

    public int state(int which, int what) {
        if (!isState(which) || !isTold(what)) {
            return NONE;
        }
        find(which);
        return market.tell(found, what);
    }

    public int rounds(boolean greatest) {
        return find(greatest ? GREATEST : LEAST);
    }

    public int price(int which, int asset) {
        if (!isState(which) || !book.isAsset(asset)) {
            return NONE;
        }
        find(which);
        return market.priceAt(asset, found.sold[asset]);
    }

    public int worth(int which, int house) {
        if (!isState(which) || !book.isHouse(house)) {
            return NO_WORTH;
        }
        find(which);
        market.priceBy(found);
        return market.worthOf(house, found);
    }

    public int mustSell(int which, int house, int asset) {
        if (!isState(which) || !book.isHouse(house) || asset != NONE && !book.isAsset(asset)) {
            return NONE;
        }
        find(which);
        market.priceBy(found);
        int due = market.dueOf(house, market.worthOf(house, found));
        if (asset == NONE) {
            return due;
        }
        clear(parts);
        market.addSales(house, due, parts);
        return parts[asset];
    }

    public int round(int k, int what) {
        if (!isWithin(k, 0, MOST_ROUND) || !isTold(what)) {
            return NONE;
        }
        findRound(k);
        return market.tell(found, what);
    }

    public int worthIn(int k, int house) {
        if (!isWithin(k, 0, MOST_ROUND) || !book.isHouse(house)) {
            return NO_WORTH;
        }
        findRound(k);
        market.priceBy(found);
        return market.worthOf(house, found);
    }

    public int sharpest() {
        findRound(0);
        int lost = market.lostIn(found);
        int sharpestRound = NO_ANSWER;
        int most = 0;
        for (int k = 1; k <= MOST_ROUND; k++) {
            if (!market.advance(found, spare)) {
                break;
            }
            int lostNow = market.lostIn(found);
            if (lostNow - lost > most) {
                most = lostNow - lost;
                sharpestRound = k;
            }
            lost = lostNow;
        }
        return sharpestRound;
    }

    public int ranked(int k) {
        if (!book.isHouse(k)) {
            return NONE;
        }
        findFirstFallen();
        for (int house = 0; house < book.houses; house++) {
            if (rankOf(house) == k) {
                return house;
            }
        }
        return NONE;
    }

    public int fellIn(int house) {
        if (!book.isHouse(house)) {
            return NONE;
        }
        findFirstFallen();
        return firstFallen[house] > MOST_ROUND ? NO_ANSWER : firstFallen[house];
    }

    public int next(int sold, int more, int fallen, int what) {
        if (!isTold(what)) {
            return NONE;
        }
        if (!findTold(sold, more, fallen)) {
            return NO_ANSWER;
        }
        market.advance(found, spare);
        return market.tell(found, what);
    }

    public int isSteady(int sold, int more, int fallen) {
        if (!findTold(sold, more, fallen)) {
            return NO_ANSWER;
        }
        return market.advance(found, spare) ? 0 : 1;
    }

    // ---- floats

    public int index(int which) {
        if (!isState(which)) {
            return NONE;
        }
        find(which);
        return floatBits(market.indexOf(found));
    }

    public int drop(int which) {
        if (!isState(which)) {
            return NONE;
        }
        find(which);
        return (int) ((1.0f - market.indexOf(found)) * 1000.0f);
    }

    public int ratio(int which, int asset) {
        if (!isState(which) || !book.isAsset(asset)) {
            return NONE;
        }
        find(which);
        return floatBits(market.ratioOf(asset, found.sold[asset]));
    }

    public long mood() {
        return bitsOf(findMood(), 1023, 52);
    }

    public int hundredths() {
        return (int) (findMood() * 100.0);
    }

    // ---- were

    public int rescue(int house, int coins, int what) {
        if (!book.isHouse(house) || !isWithin(coins, 0, MOST_COINS) || !isTold(what)) {
            return NONE;
        }
        return tellLeast(GIVEN, house, coins, what);
    }

    public int helper(int coins, int what) {
        if (!isWithin(coins, 0, MOST_COINS) || !isWithin(what, 0, 1)) {
            return NONE;
        }
        if (book.houses == 0) {
            return NO_ANSWER;
        }
        market.load(book);
        int best = bestHouseFor(coins);
        return what == 0 ? best : lostWith(best, coins);
    }

    public int coinsFor(int house) {
        return book.isHouse(house) ? fewestThatHolds(GIVEN, house, MOST_COINS) : NONE;
    }

    public int aid(int n, int v, int house) {
        if (!isWithin(n, 0, MOST_GIFTS) || !isWithin(v, 1, MOST_GIFT) || !isHouseOrNone(house)) {
            return NONE;
        }
        if (book.houses == 0) {
            return NO_ANSWER;
        }
        market.load(book);
        clear(gifts);
        for (int i = 0; i < n; i++) {
            int best = bestHouseFor(v);
            market.give(best, v);
            gifts[best]++;
        }
        return house == NONE ? lostWith(0, 0) : gifts[house];
    }

    public int bestAid(int n, int v, int house) {
        if (!isWithin(n, 0, MOST_BEST_GIFTS) || !isWithin(v, 1, MOST_GIFT)
                || !isHouseOrNone(house)) {
            return NONE;
        }
        if (book.houses == 0) {
            return NO_ANSWER;
        }
        market.load(book);
        int lost = findBestGifts(n, v);
        return house == NONE ? lost : bestGifts[house];
    }

    public int buyer(int asset, int n, int what) {
        if (!book.isAsset(asset) || !isWithin(n, 0, MOST_CAP) || !isTold(what)) {
            return NONE;
        }
        market.load(book);
        market.bought[asset] = n;
        market.toLeast(found, spare);
        return market.tell(found, what);
    }

    public int capFor(int asset) {
        return book.isAsset(asset) ? mostThatHolds(CAPPED, asset, MOST_CAP) : NONE;
    }

    public int shockFor(int asset) {
        return book.isAsset(asset) ? mostThatHolds(SHOCKED, asset, MOST_SHOCK) : NONE;
    }

    public int domino(int house, int what) {
        if (!book.isHouse(house) || !isTold(what)) {
            return NONE;
        }
        findLeastWith(house);
        return market.tell(found, what);
    }

    public int keystone() {
        int best = NO_ANSWER;
        int most = 0;
        for (int house = 0; house < book.houses; house++) {
            findLeastWith(house);
            int count = Integer.bitCount(found.fallen);
            if (count > most) {
                most = count;
                best = house;
            }
        }
        return best;
    }

    public int pulls(int house) {
        if (!book.isHouse(house)) {
            return NONE;
        }
        find(LEAST);
        int fallenAnyway = found.fallen;
        findLeastWith(house);
        return found.fallen & ~fallenAnyway & ~(1 << house);
    }

    public int room(int house) {
        return book.isHouse(house)
                ? mostThatHolds(TAKEN, house, book.fact(house, CASH)) : NONE;
    }

    public int stress(int hundredths, int what) {
        if (!isWithin(hundredths, 0, ALL_HUNDREDTHS) || !isTold(what)) {
            return NONE;
        }
        return tellLeast(STRESSED, 0, hundredths, what);
    }

    public int fewest() {
        return fewestThatHolds(STRESSED, 0, ALL_HUNDREDTHS);
    }

    public int doubtful() {
        find(LEAST);
        int fallenInLeast = found.fallen;
        find(GREATEST);
        return found.fallen & ~fallenInLeast;
    }

    // ---- texts

    public int spell(int i) {
        if (i < NONE) {
            return NONE;
        }
        speller.spellBook(book);
        if (i == NONE) {
            return speller.size;
        }
        return i < speller.size ? speller.bytes[i] : NO_ANSWER;
    }

    public int count(int what) {
        switch (what) {
            case 0:
                return book.assets;
            case 1:
                return book.houses;
            case 2:
                return pastCount;
            case 3:
                return tape.size;
            case 4:
            case 5:
            case 6:
                return book.laid[what - 4];
            case 7:
                return book.loanCount();
            case 8:
                return book.heldOfAll();
            default:
                return NONE;
        }
    }

    // ---- bounds

    private static boolean isWithin(int v, int least, int most) {
        return v >= least && v <= most;
    }

    private static boolean curveFits(int what, int v) {
        if (what == BASE) {
            return isWithin(v, 1, MOST_BASE);
        }
        return what == SLOPE && isWithin(v, 0, MOST_SLOPE);
    }

    private static boolean factFits(int what, int v) {
        return isWithin(what, CASH, WAY) && isWithin(v, leastFact(what), mostFact(what));
    }

    private static int leastFact(int what) {
        return what == STEP ? 1 : 0;
    }

    private static int mostFact(int what) {
        if (what == STEP) {
            return MOST_STEP;
        }
        return what == WAY ? 1 : MOST_COINS;
    }

    private static boolean itemFits(int kind, int v) {
        return isWithin(kind, CAP, SHOCK) && isWithin(v, 0, kind == CAP ? MOST_CAP : MOST_SHOCK);
    }

    private static boolean isState(int which) {
        return isWithin(which, CALM, PANIC);
    }

    private boolean isTold(int what) {
        return isWithin(what, TOLD_FALLEN, TOLD_ALL_SOLD) || book.isAsset(what);
    }

    private boolean isHouseOrNone(int house) {
        return house == NONE || book.isHouse(house);
    }

    // ---- acts that can be undone

    private void remember() {
        past[pastNext].copyFrom(book);
        pastNext = (pastNext + 1) % MOST_UNDOS;
        pastCount = Math.min(MOST_UNDOS, pastCount + 1);
    }

    private int change(int[] cells, int at, int v) {
        if (at < 0 || at >= cells.length || cells[at] == v) {
            return NONE;
        }
        int was = cells[at];
        remember();
        cells[at] = v;
        return was;
    }

    private void sellAsFound() {
        market.priceBy(found);
        // spare keeps what of LEAST is still to be sold: a CAP may leave less than HOUSES MUST SELL
        spare.copyFrom(found);
        for (int house = 0; house < book.houses; house++) {
            clear(parts);
            market.addSales(house, market.dueOf(house, market.worthOf(house, found)), parts);
            int cash = book.fact(house, CASH);
            for (int asset = 0; asset < book.assets; asset++) {
                int part = Math.min(parts[asset], spare.sold[asset]);
                spare.sold[asset] -= part;
                cash += part * market.prices[asset];
                book.setHolding(house, asset, book.holdingOf(house, asset) - part);
            }
            book.setFact(house, CASH, Math.min(MOST_COINS, cash));
        }
    }

    // ---- states that are found

    /** The STATE told comes into found; the answer: after how many NEXTS. */
    private int find(int which) {
        market.load(book);
        switch (which) {
            case LEAST:
                return market.toLeast(found, spare);
            case GREATEST:
                return market.toGreatest(found, spare);
            case PANIC:
                market.panic(found);
                return 0;
            default:
                market.calm(found);
                return 0;
        }
    }

    private void findLeastWith(int house) {
        market.load(book);
        market.forced = 1 << house;
        market.toLeast(found, spare);
    }

    private void findRound(int k) {
        market.load(book);
        market.calm(found);
        for (int i = 0; i < k; i++) {
            if (!market.advance(found, spare)) {
                return;
            }
        }
    }

    private boolean findTold(int sold, int more, int fallen) {
        if (sold < 0 || more < 0 || fallen < 0 || fallen >= 1 << book.houses) {
            return false;
        }
        market.load(book);
        found.sold[0] = sold / 1000;
        found.sold[1] = sold % 1000;
        found.sold[2] = more / 1000;
        found.sold[3] = more % 1000;
        found.fallen = fallen;
        for (int asset = 0; asset < ASSETS; asset++) {
            if (found.sold[asset] > market.held[asset]) {
                return false;
            }
        }
        return true;
    }

    /** Those that never fall get a ROUND behind all that can be asked for. */
    private void findFirstFallen() {
        for (int house = 0; house < HOUSES; house++) {
            firstFallen[house] = MOST_ROUND + 1;
        }
        findRound(0);
        for (int k = 1; k <= MOST_ROUND; k++) {
            if (!market.advance(found, spare)) {
                return;
            }
            for (int house = 0; house < book.houses; house++) {
                if (found.isFallen(house)) {
                    firstFallen[house] = Math.min(firstFallen[house], k);
                }
            }
        }
    }

    private int rankOf(int house) {
        int ahead = 0;
        for (int other = 0; other < book.houses; other++) {
            boolean earlier = firstFallen[other] < firstFallen[house];
            boolean alike = firstFallen[other] == firstFallen[house];
            if (earlier || alike && other < house) {
                ahead++;
            }
        }
        return ahead;
    }

    // ---- floats and their bits

    private double findMood() {
        double mood = 1.0;
        findRound(0);
        for (int k = 1; k <= MOST_ROUND; k++) {
            if (!market.advance(found, spare)) {
                break;
            }
            mood = mood / 2.0 + (double) market.indexOf(found) / 2.0;
        }
        return mood;
    }

    private static int floatBits(float x) {
        return (int) bitsOf((double) x, 127, 23);
    }

    /**
     * LANGUAGE.md lists no library call that tells bits: so x is scaled by hand. INDEX, RATIO and
     * MOOD are 1 at most, and 0 or far above the least number of their type.
     */
    private static long bitsOf(double x, int bias, int width) {
        if (x <= 0.0) {
            return 0L;
        }
        double scaled = x;
        int exponent = bias;
        while (scaled < 1.0 && exponent > 1) {
            scaled = scaled * 2.0;
            exponent--;
        }
        double unit = (double) (1L << width);
        return ((long) exponent << width) + (long) ((scaled - 1.0) * unit);
    }

    // ---- what if

    private void loadChanged(int kind, int target, int v) {
        market.load(book);
        switch (kind) {
            case GIVEN:
                market.give(target, v);
                break;
            case TAKEN:
                market.give(target, -v);
                break;
            case CAPPED:
                market.caps[target] = Math.min(market.caps[target], v);
                break;
            case SHOCKED:
                market.tops[target] -= v;
                break;
            default:
                market.stressTo(book, v);
                break;
        }
    }

    private int tellLeast(int kind, int target, int v, int what) {
        loadChanged(kind, target, v);
        market.toLeast(found, spare);
        return market.tell(found, what);
    }

    private boolean holdsWith(int kind, int target, int v) {
        loadChanged(kind, target, v);
        market.toLeast(found, spare);
        return found.fallen == 0;
    }

    /** LEAST never has more FALLEN for more coins or a higher BASE: so halving finds the fewest. */
    private int fewestThatHolds(int kind, int target, int most) {
        if (!holdsWith(kind, target, most)) {
            return NO_ANSWER;
        }
        int low = 0;
        int high = most;
        while (low < high) {
            int middle = (low + high) / 2;
            if (holdsWith(kind, target, middle)) {
                high = middle;
            } else {
                low = middle + 1;
            }
        }
        return low;
    }

    /** LEAST never has fewer FALLEN for a higher CAP, SHOCK or loss: so halving finds the most. */
    private int mostThatHolds(int kind, int target, int most) {
        if (!holdsWith(kind, target, 0)) {
            return NO_ANSWER;
        }
        int low = 0;
        int high = most;
        while (low < high) {
            int middle = (low + high + 1) / 2;
            if (holdsWith(kind, target, middle)) {
                low = middle;
            } else {
                high = middle - 1;
            }
        }
        return low;
    }

    private int lostWith(int house, int coins) {
        market.give(house, coins);
        market.toLeast(found, spare);
        market.give(house, -coins);
        return market.lostIn(found);
    }

    private int bestHouseFor(int coins) {
        int best = 0;
        int least = lostWith(0, coins);
        for (int house = 1; house < book.houses; house++) {
            int lost = lostWith(house, coins);
            if (lost < least) {
                least = lost;
                best = house;
            }
        }
        return best;
    }

    /** Goes through all rows of gifts, the first row first; the answer: LOST by the best one. */
    private int findBestGifts(int n, int v) {
        clear(gifts);
        gifts[book.houses - 1] = n;
        copyAll(gifts, bestGifts);
        int least = lostWithGifts(v);
        // less than 0 can't be LOST
        for (int i = 1; i < MOST_ROWS && least > 0 && toNextRow(book.houses); i++) {
            int lost = lostWithGifts(v);
            if (lost < least) {
                least = lost;
                copyAll(gifts, bestGifts);
            }
        }
        return least;
    }

    private int lostWithGifts(int v) {
        for (int house = 0; house < book.houses; house++) {
            market.give(house, gifts[house] * v);
        }
        market.toLeast(found, spare);
        for (int house = 0; house < book.houses; house++) {
            market.give(house, -gifts[house] * v);
        }
        return market.lostIn(found);
    }

    /** The next row of as many gifts, as rows are ordered; false behind the last one. */
    private boolean toNextRow(int houses) {
        int rest = 0;
        for (int i = houses - 1; i > 0; i--) {
            rest += gifts[i];
            gifts[i] = 0;
            if (rest > 0) {
                gifts[i - 1]++;
                gifts[houses - 1] = rest - 1;
                return true;
            }
        }
        return false;
    }

    // ---- rows

    private static void clear(int[] cells) {
        for (int i = 0; i < cells.length; i++) {
            cells[i] = 0;
        }
    }

    private static void copyAll(int[] from, int[] to) {
        int length = Math.min(from.length, to.length);
        for (int i = 0; i < length; i++) {
            to[i] = from[i];
        }
    }

    /** All that ACTS change: kept in rows of one size, so that a copy makes nothing new. */
    private static final class Book {
        int assets = 0;
        int houses = 0;
        final int[] curves = new int[ASSETS * CURVE];
        final int[] facts = new int[HOUSES * FACTS];
        final int[] holdings = new int[HOUSES * ASSETS];
        final int[] loans = new int[HOUSES * HOUSES];
        final int[] laid = new int[SHELVES];
        final int[] items = new int[SHELVES * PLACES * ITEM];

        void copyFrom(Book other) {
            assets = other.assets;
            houses = other.houses;
            copyAll(other.curves, curves);
            copyAll(other.facts, facts);
            copyAll(other.holdings, holdings);
            copyAll(other.loans, loans);
            copyAll(other.laid, laid);
            copyAll(other.items, items);
        }

        void empty() {
            assets = 0;
            houses = 0;
            clear(curves);
            clear(facts);
            clear(holdings);
            clear(loans);
            clear(laid);
            clear(items);
        }

        boolean isAsset(int asset) {
            return asset >= 0 && asset < assets;
        }

        boolean isHouse(int house) {
            return house >= 0 && house < houses;
        }

        boolean areTwoHouses(int house, int other) {
            return isHouse(house) && isHouse(other) && house != other;
        }

        boolean isPlace(int shelf, int place) {
            return shelf >= 0 && shelf < SHELVES && place >= 0 && place < laid[shelf];
        }

        int baseOf(int asset) {
            return curves[asset * CURVE + BASE];
        }

        void setBase(int asset, int v) {
            curves[asset * CURVE + BASE] = v;
        }

        int slopeOf(int asset) {
            return curves[asset * CURVE + SLOPE];
        }

        int fact(int house, int what) {
            return facts[house * FACTS + what];
        }

        void setFact(int house, int what, int v) {
            facts[house * FACTS + what] = v;
        }

        int holdingOf(int house, int asset) {
            return holdings[house * ASSETS + asset];
        }

        void setHolding(int house, int asset, int v) {
            holdings[house * ASSETS + asset] = v;
        }

        int loanOf(int from, int to) {
            return loans[from * HOUSES + to];
        }

        void setLoan(int from, int to, int v) {
            loans[from * HOUSES + to] = v;
        }

        int item(int shelf, int place, int what) {
            return items[(shelf * PLACES + place) * ITEM + what];
        }

        int piecesOf(int house) {
            int sum = 0;
            for (int asset = 0; asset < assets; asset++) {
                sum += holdingOf(house, asset);
            }
            return sum;
        }

        int owedBy(int house) {
            int sum = 0;
            for (int other = 0; other < houses; other++) {
                sum += loanOf(house, other);
            }
            return sum;
        }

        int owedTo(int house) {
            int sum = 0;
            for (int other = 0; other < houses; other++) {
                sum += loanOf(other, house);
            }
            return sum;
        }

        int loanCount() {
            int sum = 0;
            for (int i = 0; i < loans.length; i++) {
                sum += loans[i] != 0 ? 1 : 0;
            }
            return sum;
        }

        int heldOf(int asset) {
            int sum = 0;
            for (int house = 0; house < houses; house++) {
                sum += holdingOf(house, asset);
            }
            return sum;
        }

        int heldOfAll() {
            int sum = 0;
            for (int asset = 0; asset < assets; asset++) {
                sum += heldOf(asset);
            }
            return sum;
        }

        int capOf(int asset) {
            int least = MOST_CAP;
            for (int shelf = 0; shelf < SHELVES; shelf++) {
                for (int place = 0; place < laid[shelf]; place++) {
                    if (item(shelf, place, 0) == CAP && item(shelf, place, 1) == asset) {
                        least = Math.min(least, item(shelf, place, 2));
                    }
                }
            }
            return least;
        }

        int shocksOf(int asset) {
            int sum = 0;
            for (int shelf = 0; shelf < SHELVES; shelf++) {
                for (int place = 0; place < laid[shelf]; place++) {
                    if (item(shelf, place, 0) == SHOCK && item(shelf, place, 1) == asset) {
                        sum += item(shelf, place, 2);
                    }
                }
            }
            return sum;
        }

        int addAsset(int base, int slope) {
            int asset = assets;
            assets++;
            curves[asset * CURVE + BASE] = base;
            curves[asset * CURVE + SLOPE] = slope;
            return asset;
        }

        int addHouse() {
            int house = houses;
            houses++;
            // all else of a place without a HOUSE is 0
            setFact(house, STEP, 1);
            setFact(house, WAY, 0);
            return house;
        }

        int put(int shelf, int kind, int asset, int v) {
            int place = laid[shelf];
            int at = (shelf * PLACES + place) * ITEM;
            items[at] = kind;
            items[at + 1] = asset;
            items[at + 2] = v;
            laid[shelf]++;
            return place;
        }

        int takeAway(int shelf, int place) {
            int last = laid[shelf] - 1;
            int end = (shelf * PLACES + last) * ITEM;
            for (int at = (shelf * PLACES + place) * ITEM; at < end; at++) {
                items[at] = items[at + ITEM];
            }
            laid[shelf] = last;
            return last;
        }

        /** All of a HOUSE but STEP and WAY becomes 0. */
        void emptyHouse(int house) {
            setFact(house, CASH, 0);
            setFact(house, DEBT, 0);
            setFact(house, FLOOR, 0);
            for (int asset = 0; asset < ASSETS; asset++) {
                setHolding(house, asset, 0);
            }
            for (int other = 0; other < HOUSES; other++) {
                setLoan(house, other, 0);
                setLoan(other, house, 0);
            }
        }

        void join(int house, int other) {
            for (int what = CASH; what <= FLOOR; what++) {
                int both = fact(house, what) + fact(other, what);
                setFact(house, what, Math.min(MOST_COINS, both));
            }
            for (int asset = 0; asset < assets; asset++) {
                int both = holdingOf(house, asset) + holdingOf(other, asset);
                setHolding(house, asset, Math.min(MOST_HOLDING, both));
            }
            for (int third = 0; third < houses; third++) {
                if (third != house && third != other) {
                    int from = loanOf(house, third) + loanOf(other, third);
                    int to = loanOf(third, house) + loanOf(third, other);
                    setLoan(house, third, Math.min(MOST_LOAN, from));
                    setLoan(third, house, Math.min(MOST_LOAN, to));
                }
            }
        }

        void removeHouse(int house) {
            int last = houses - 1;
            for (int i = 0; i < last; i++) {
                int source = i < house ? i : i + 1;
                for (int what = 0; what < FACTS; what++) {
                    setFact(i, what, fact(source, what));
                }
                for (int asset = 0; asset < ASSETS; asset++) {
                    setHolding(i, asset, holdingOf(source, asset));
                }
                for (int j = 0; j < last; j++) {
                    setLoan(i, j, loanOf(source, j < house ? j : j + 1));
                }
            }
            // the next HOUSE that comes there has nothing of this one
            emptyHouse(last);
            houses = last;
        }
    }

    /** A STATE: what is SOLD of each ASSET, which HOUSES are FALLEN. */
    private static final class State {
        final int[] sold = new int[ASSETS];
        int fallen = 0;

        boolean isFallen(int house) {
            return (fallen >> house & 1) == 1;
        }

        int allSold() {
            int sum = 0;
            for (int asset = 0; asset < ASSETS; asset++) {
                sum += sold[asset];
            }
            return sum;
        }

        void copyFrom(State other) {
            copyAll(other.sold, sold);
            fallen = other.fallen;
        }

        boolean isLike(State other) {
            for (int asset = 0; asset < ASSETS; asset++) {
                if (sold[asset] != other.sold[asset]) {
                    return false;
                }
            }
            return fallen == other.fallen;
        }
    }

    /** Things as they are, or as they WERE: loaded from a Book, then changed for one question. */
    private static final class Market {
        int assets = 0;
        int houses = 0;
        int forced = 0;
        final int[] tops = new int[ASSETS];
        final int[] slopes = new int[ASSETS];
        final int[] caps = new int[ASSETS];
        final int[] bought = new int[ASSETS];
        final int[] held = new int[ASSETS];
        final int[] prices = new int[ASSETS];
        final int[] own = new int[HOUSES];
        final int[] pieces = new int[HOUSES];
        final int[] facts = new int[HOUSES * FACTS];
        final int[] holdings = new int[HOUSES * ASSETS];
        final int[] loans = new int[HOUSES * HOUSES];

        void load(Book book) {
            assets = book.assets;
            houses = book.houses;
            forced = 0;
            clear(held);
            for (int asset = 0; asset < assets; asset++) {
                tops[asset] = book.baseOf(asset) - book.shocksOf(asset);
                slopes[asset] = book.slopeOf(asset);
                caps[asset] = book.capOf(asset);
                bought[asset] = 0;
                held[asset] = book.heldOf(asset);
            }
            for (int house = 0; house < houses; house++) {
                own[house] = book.fact(house, CASH) - book.fact(house, DEBT) - book.owedBy(house);
                pieces[house] = book.piecesOf(house);
            }
            copyAll(book.facts, facts);
            copyAll(book.holdings, holdings);
            copyAll(book.loans, loans);
        }

        void give(int house, int coins) {
            own[house] += coins;
        }

        void stressTo(Book book, int hundredths) {
            for (int asset = 0; asset < assets; asset++) {
                int base = book.baseOf(asset) * hundredths / ALL_HUNDREDTHS;
                tops[asset] = base - book.shocksOf(asset);
            }
        }

        void calm(State state) {
            clear(state.sold);
            state.fallen = forced;
        }

        void panic(State state) {
            clear(state.sold);
            for (int asset = 0; asset < assets; asset++) {
                state.sold[asset] = Math.min(held[asset], caps[asset]);
            }
            state.fallen = (1 << houses) - 1;
        }

        int priceAt(int asset, int sold) {
            int counted = Math.max(0, sold - bought[asset]);
            return Math.max(0, tops[asset] - slopes[asset] * counted);
        }

        void priceBy(State state) {
            for (int asset = 0; asset < assets; asset++) {
                prices[asset] = priceAt(asset, state.sold[asset]);
            }
        }

        /** By the prices that priceBy has put. */
        int worthOf(int house, State state) {
            int worth = own[house];
            for (int asset = 0; asset < assets; asset++) {
                worth += holdings[house * ASSETS + asset] * prices[asset];
            }
            for (int other = 0; other < houses; other++) {
                if (!state.isFallen(other)) {
                    worth += loans[other * HOUSES + house];
                }
            }
            return worth;
        }

        int dueOf(int house, int worth) {
            if (worth < 0) {
                return pieces[house];
            }
            int lack = facts[house * FACTS + FLOOR] - worth;
            if (lack <= 0) {
                return 0;
            }
            int step = Math.max(1, facts[house * FACTS + STEP]);
            return Math.min(pieces[house], (lack + step - 1) / step);
        }

        void addSales(int house, int due, int[] sold) {
            boolean falling = facts[house * FACTS + WAY] == 1;
            int left = due;
            for (int i = 0; i < assets && left > 0; i++) {
                int asset = falling ? assets - 1 - i : i;
                int part = Math.min(left, holdings[house * ASSETS + asset]);
                sold[asset] += part;
                left -= part;
            }
        }

        /** The STATE becomes its NEXT; false: it was STEADY. */
        boolean advance(State state, State spare) {
            priceBy(state);
            clear(spare.sold);
            spare.fallen = forced;
            for (int house = 0; house < houses; house++) {
                int worth = worthOf(house, state);
                if (worth < 0) {
                    spare.fallen |= 1 << house;
                }
                addSales(house, dueOf(house, worth), spare.sold);
            }
            for (int asset = 0; asset < assets; asset++) {
                spare.sold[asset] = Math.min(spare.sold[asset], caps[asset]);
            }
            if (spare.isLike(state)) {
                return false;
            }
            state.copyFrom(spare);
            return true;
        }

        /** More SOLD or FALLEN never makes NEXT less: so this ends long before the bound. */
        int toLeast(State state, State spare) {
            calm(state);
            int count = 0;
            while (count < MOST_ROUND && advance(state, spare)) {
                count++;
            }
            return count;
        }

        /** Likewise downwards. */
        int toGreatest(State state, State spare) {
            panic(state);
            int count = 0;
            while (count < MOST_ROUND && advance(state, spare)) {
                count++;
            }
            return count;
        }

        int lostIn(State state) {
            int sum = 0;
            for (int asset = 0; asset < assets; asset++) {
                int less = priceAt(asset, 0) - priceAt(asset, state.sold[asset]);
                sum += held[asset] * less;
            }
            return sum;
        }

        int tell(State state, int what) {
            switch (what) {
                case TOLD_FALLEN:
                    return state.fallen;
                case TOLD_LOST:
                    return lostIn(state);
                case TOLD_FALLEN_COUNT:
                    return Integer.bitCount(state.fallen);
                case TOLD_ALL_SOLD:
                    return state.allSold();
                default:
                    return what >= 0 && what < assets ? state.sold[what] : NONE;
            }
        }

        float ratioOf(int asset, int sold) {
            float calmPrice = (float) priceAt(asset, 0);
            if (calmPrice == 0.0f) {
                return 1.0f;
            }
            return (float) priceAt(asset, sold) / calmPrice;
        }

        float indexOf(State state) {
            float sum = 0.0f;
            int all = 0;
            for (int asset = 0; asset < assets; asset++) {
                sum = sum + ratioOf(asset, state.sold[asset]) * (float) held[asset];
                all += held[asset];
            }
            if (all == 0) {
                return 1.0f;
            }
            return sum / (float) all;
        }
    }

    /** The bytes fed; it reads itself as a TEXT, whose first fault stays and ends it. */
    private static final class Tape {
        private static final int NO_FAULT = -1;

        final int[] bytes = new int[MOST_BYTES];
        int size = 0;
        private int at = 0;
        private int fault = NO_FAULT;
        private int wordStart = 0;
        private int wordEnd = 0;
        private int numberStart = 0;

        void addFour(int four) {
            for (int shift = 24; shift >= 0; shift -= 8) {
                if (size < MOST_BYTES) {
                    bytes[size] = four >>> shift & 255;
                    size++;
                }
            }
        }

        /** The TEXT comes into the Book; the answer: its FAULT, below 0 if it has none. */
        int read(Book book) {
            book.empty();
            at = 0;
            fault = NO_FAULT;
            skipBlanks();
            for (int i = 0; i < MOST_BYTES && at < size && fault == NO_FAULT; i++) {
                readSentence(book);
                skipBlanks();
            }
            return fault;
        }

        private int byteAt(int place) {
            return place >= 0 && place < size ? bytes[place] : 0;
        }

        private boolean isDigitAt(int place) {
            return byteAt(place) >= '0' && byteAt(place) <= '9';
        }

        private boolean isLetterAt(int place) {
            return byteAt(place) >= 'a' && byteAt(place) <= 'z';
        }

        private void skipBlanks() {
            while (at < size && (byteAt(at) == ' ' || byteAt(at) == LINE_END)) {
                at++;
            }
        }

        private void failAt(int place) {
            if (fault == NO_FAULT) {
                fault = place;
            }
        }

        private boolean isWord(String word) {
            if (wordEnd - wordStart != word.length()) {
                return false;
            }
            for (int i = 0; i < word.length(); i++) {
                if (byteAt(wordStart + i) != word.charAt(i)) {
                    return false;
                }
            }
            return true;
        }

        private void readSentence(Book book) {
            wordStart = at;
            while (at < size && isLetterAt(at)) {
                at++;
            }
            wordEnd = at;
            if (isWord("asset")) {
                readAsset(book);
            } else if (isWord("house")) {
                readHouse(book);
            } else if (isWord("loan")) {
                readLoan(book);
            } else if (isWord("cap")) {
                readItem(book, CAP);
            } else if (isWord("shock")) {
                readItem(book, SHOCK);
            } else {
                failAt(wordStart);
            }
        }

        /** Behind a fault the answer counts for nothing. */
        private int readNumber(int least, int most) {
            skipBlanks();
            numberStart = at;
            int v = 0;
            while (at < size && isDigitAt(at)) {
                // a fifth digit is a fault already: without the others v can't wrap round
                if (at - numberStart < 5) {
                    v = v * 10 + byteAt(at) - '0';
                }
                at++;
            }
            int digits = at - numberStart;
            boolean glued = numberStart == wordEnd;
            if (glued || digits == 0 || digits > 4 || v < least || v > most) {
                failAt(numberStart);
            }
            return v;
        }

        private void readEnd() {
            skipBlanks();
            if (byteAt(at) == ';') {
                at++;
            } else {
                failAt(at);
            }
        }

        private void readAsset(Book book) {
            if (book.assets >= ASSETS) {
                failAt(wordStart);
                return;
            }
            int base = readNumber(1, MOST_BASE);
            int slope = readNumber(0, MOST_SLOPE);
            readEnd();
            if (fault == NO_FAULT) {
                book.addAsset(base, slope);
            }
        }

        private void readHouse(Book book) {
            if (book.houses >= HOUSES) {
                failAt(wordStart);
                return;
            }
            int house = book.addHouse();
            for (int what = CASH; what <= WAY; what++) {
                book.setFact(house, what, readNumber(leastFact(what), mostFact(what)));
            }
            skipBlanks();
            for (int asset = 0; asset < book.assets && isDigitAt(at); asset++) {
                book.setHolding(house, asset, readNumber(0, MOST_HOLDING));
                skipBlanks();
            }
            readEnd();
        }

        private void readLoan(Book book) {
            int from = readNumber(0, book.houses - 1);
            int to = readNumber(0, book.houses - 1);
            if (from == to) {
                failAt(numberStart);
            }
            int v = readNumber(0, MOST_LOAN);
            readEnd();
            if (fault == NO_FAULT) {
                book.setLoan(from, to, v);
            }
        }

        private void readItem(Book book, int kind) {
            // the SHELF that takes one kind alone has that kind's number
            if (book.laid[kind] >= PLACES) {
                failAt(wordStart);
                return;
            }
            int asset = readNumber(0, book.assets - 1);
            int v = readNumber(0, kind == CAP ? MOST_CAP : MOST_SHOCK);
            readEnd();
            if (fault == NO_FAULT) {
                book.put(kind, kind, asset, v);
            }
        }
    }

    /** Writes a Book as a TEXT, which is always shorter than the longest tape. */
    private static final class Speller {
        final int[] bytes = new int[MOST_BYTES];
        int size = 0;

        void spellBook(Book book) {
            size = 0;
            for (int asset = 0; asset < book.assets; asset++) {
                addWord("asset");
                addNumber(book.baseOf(asset));
                addNumber(book.slopeOf(asset));
                addByte(';');
            }
            for (int house = 0; house < book.houses; house++) {
                spellHouse(book, house);
            }
            for (int from = 0; from < book.houses; from++) {
                for (int to = 0; to < book.houses; to++) {
                    spellLoan(book, from, to);
                }
            }
            spellShelf(book, CAP, "cap");
            spellShelf(book, SHOCK, "shock");
        }

        private void spellHouse(Book book, int house) {
            addWord("house");
            for (int what = 0; what < FACTS; what++) {
                addNumber(book.fact(house, what));
            }
            for (int asset = 0; asset < book.assets; asset++) {
                addNumber(book.holdingOf(house, asset));
            }
            addByte(';');
        }

        private void spellLoan(Book book, int from, int to) {
            if (book.loanOf(from, to) == 0) {
                return;
            }
            addWord("loan");
            addNumber(from);
            addNumber(to);
            addNumber(book.loanOf(from, to));
            addByte(';');
        }

        private void spellShelf(Book book, int shelf, String word) {
            for (int place = 0; place < book.laid[shelf]; place++) {
                addWord(word);
                addNumber(book.item(shelf, place, 1));
                addNumber(book.item(shelf, place, 2));
                addByte(';');
            }
        }

        private void addByte(int b) {
            if (size < MOST_BYTES) {
                bytes[size] = b;
                size++;
            }
        }

        private void addWord(String word) {
            for (int i = 0; i < word.length(); i++) {
                addByte(word.charAt(i));
            }
        }

        /** No N has more than four digits. */
        private void addNumber(int n) {
            addByte(' ');
            for (int unit = 1000; unit > 0; unit /= 10) {
                if (n >= unit || unit == 1) {
                    addByte('0' + n / unit % 10);
                }
            }
        }
    }
}
