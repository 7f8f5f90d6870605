import java.util.Arrays;

/** A valley on strike. The promises that it keeps stand in ../shared/DOC.md; README.md says how to use it. */
public final class LongStrike {
    public static final int BAD = -1, FULL = -2, NONE = -3, STATE = -4;

    /** What the host refuses. */
    private static final int NOTHING = -11, OUTSIDE = -12, OTHER_KIND = -13, BELOW_ZERO = -14, PARTED_BY_ZERO = -15;
    /** The answer for a line, a row or a gate that isn't there. */
    private static final int NO_SUCH = -9;
    private static final int FAULTS_BELOW = -100;

    private static final int LAST_DAY = 999, DAYS_AT_ONCE = 60, WEEK = 7, HELD_MOST = 120;
    private static final int GIFT_MOST = 9999, HEAP_MOST = 99999;
    private static final int VILLAGES = 6, PITS = 4, SHOPS = 4, HOUSEHOLDS = 16;
    private static final int SHIPS = 6, TOLD = 12, GATES = 4, MEN = 8, CLAUSES = 9;
    private static final int UNION = 0, COUNTY = 1, COMPANY = 2, SIDES = 3;

    private static final int SHEETS = 4, SHEET_SIZE = 40, SHELVES = 4;
    private static final int BYTES = 0, SHORTS = 1, BOOLEANS = 4, MISSING = -1;
    private static final int HOLDS_HOUSEHOLD = 0, HOLDS_SHOP = 1, HOLDS_PIT = 2, HOLDS_ROW = 3, HOLDS_NOTHING = 4;
    private static final int FIRST_ROW_KIND = 10;
    /** How many shorts of a sheet tell of one household. */
    private static final int TOLD_OF_HOUSEHOLD = 5;

    private final Valley now = new Valley();
    private final Valley kept = new Valley();
    /** Where last() lets days go by that don't come to pass; made once, for objects are counted. */
    private final Valley imagined = new Valley();
    private boolean isKept = false;

    private final TextReader reader = new TextReader();
    private final Deals deals = new Deals();

    /** ROWS as they are, and as watch() told them: man and gate in turn. */
    private final int[] rows = new int[2 * GATES];
    private final int[] toldRows = new int[2 * GATES];
    private int rowCount = 0;
    private int toldCount = 0;
    private boolean isWatchTold = false;

    private final int[] sheetSort = new int[SHEETS];
    private final int[] sheetSize = new int[SHEETS];
    private final int[][] sheetItems = new int[SHEETS][SHEET_SIZE];

    /** A row on a shelf is known by its sort (as its number) and size alone: nobody asks a shelf for items. */
    private final int[] shelfHolds = new int[SHELVES];
    private final int[] shelfNumber = new int[SHELVES];
    private final int[] shelfSize = new int[SHELVES];

    public LongStrike() {
        Arrays.fill(sheetSort, MISSING);
        Arrays.fill(shelfHolds, HOLDS_NOTHING);
    }

    // ---- the valley

    public int days(int n) {
        if (!isIn(n, 1, DAYS_AT_ONCE)) {
            return BAD;
        }
        if (now.today + n > LAST_DAY) {
            return STATE;
        }
        for (int i = 0; i < n; i++) {
            now.goOn();
        }
        return now.today;
    }

    public int village() {
        if (now.villageCount >= VILLAGES) {
            return FULL;
        }
        now.villageCount++;
        return now.villageCount - 1;
    }

    public int road(int a, int b, int n) {
        if (!now.hasVillage(a) || !now.hasVillage(b) || a == b || !isIn(n, 1, 9)) {
            return BAD;
        }
        int was = now.roads[a][b];
        now.roads[a][b] = n;
        now.roads[b][a] = n;
        return was;
    }

    public int pit(int village, int inflow, int pumped, int limit) {
        if (!now.hasVillage(village) || !isIn(inflow, 1, 50) || !isIn(pumped, 0, 50) || !isIn(limit, 1, 9999)) {
            return BAD;
        }
        if (now.pitCount >= PITS) {
            return FULL;
        }
        now.pits[now.pitCount].dig(village, inflow, pumped, limit);
        now.pitCount++;
        return now.pitCount - 1;
    }

    public int shop(int village, int credit) {
        if (!now.hasVillage(village) || !isIn(credit, 0, 999)) {
            return BAD;
        }
        if (now.shopCount >= SHOPS) {
            return FULL;
        }
        now.shops[now.shopCount].open(village, credit);
        now.shopCount++;
        return now.shopCount - 1;
    }

    public int household(int village, int pit, int mouths, int how, int will) {
        if (!now.hasVillage(village) || !now.hasPit(pit)) {
            return BAD;
        }
        if (!isIn(mouths, 1, 9) || !isIn(how, 0, 9999) || !isIn(will, 0, 99)) {
            return BAD;
        }
        if (now.householdCount >= HOUSEHOLDS) {
            return FULL;
        }
        now.households[now.householdCount].settle(village, pit, mouths, how, will);
        now.householdCount++;
        return now.householdCount - 1;
    }

    public int of(int household, int what) {
        if (!now.hasHousehold(household)) {
            return BAD;
        }
        Household home = now.households[household];
        switch (what) {
            case 0: return home.village;
            case 1: return home.pit;
            case 2: return home.mouths;
            case 3: return home.garden;
            case 4: return home.coal;
            case 5: return home.will;
            case 6: return home.larder;
            case 7: return home.owes;
            case 8: return home.hungryDays;
            case 9: return home.coldDays;
            case 10: return asBit(home.isBack);
            case 11: return asBit(home.isEvicted);
            case 12: return now.ticketOf(home);
            case 13: return now.rankOf(home);
            case 14: return now.reliefOf(home);
            case 15: return asBit(now.mayVote(home));
            default: return BAD;
        }
    }

    public int pitOf(int pit, int what) {
        if (!now.hasPit(pit)) {
            return BAD;
        }
        Pit asked = now.pits[pit];
        switch (what) {
            case 0: return asked.village;
            case 1: return asked.water;
            case 2: return asked.isLost() ? asked.lostOn : NONE;
            case 3: return asked.want;
            case 4: return asked.daysAbove(now.safety());
            default: return BAD;
        }
    }

    public int shopOf(int shop, int what) {
        if (!now.hasShop(shop)) {
            return BAD;
        }
        switch (what) {
            case 0: return now.shops[shop].village;
            case 1: return now.shops[shop].credit;
            case 2: return now.shops[shop].lent;
            default: return BAD;
        }
    }

    public int set(int what, int v) {
        switch (what) {
            case 0: return chooseCold(v);
            case 1: return chooseBurn(v);
            case 2: return chooseMiles(v);
            default: return chooseWant(what, v);
        }
    }

    private int chooseCold(int v) {
        if (!isIn(v, 0, 1)) {
            return BAD;
        }
        int was = asBit(now.isCold);
        now.isCold = v == 1;
        return was;
    }

    private int chooseBurn(int v) {
        if (!isIn(v, 0, 999)) {
            return BAD;
        }
        int was = now.works.burn;
        now.works.burn = v;
        return was;
    }

    private int chooseMiles(int v) {
        if (!isIn(v, 0, 9)) {
            return BAD;
        }
        int was = now.pickets.miles;
        now.pickets.miles = v;
        return was;
    }

    private int chooseWant(int what, int v) {
        if (!isIn(what, 10, 10 + PITS - 1) || !now.hasPit(what - 10) || !isIn(v, 0, 900)) {
            return BAD;
        }
        Pit wanting = now.pits[what - 10];
        int was = wanting.want;
        wanting.want = v;
        return was;
    }

    public int gift(boolean fund, int n) {
        if (!isIn(n, 1, GIFT_MOST)) {
            return BAD;
        }
        if (fund) {
            now.fund = Math.min(HEAP_MOST, now.fund + n);
            return now.fund;
        }
        now.works.bring(n);
        return now.works.stock;
    }

    public int ship(int day, int n) {
        if (!isIn(n, 1, GIFT_MOST) || day <= now.today || day > LAST_DAY) {
            return BAD;
        }
        if (now.works.shipCount >= SHIPS) {
            return FULL;
        }
        now.works.expect(day, n);
        return now.works.shipCount;
    }

    // ---- rules

    public int feed(long eight, int n) {
        if (!isIn(n, 1, 8)) {
            return BAD;
        }
        if (reader.size + n > TextReader.TAPE) {
            return FULL;
        }
        for (int i = 0; i < n; i++) {
            reader.take((byte) (eight >>> (8 * i)));
        }
        return reader.size;
    }

    public int read(int side) {
        int fault = reader.useUp();
        if (!isIn(side, 0, SIDES - 1)) {
            return BAD;
        }
        if (fault != TextReader.NO_FAULT) {
            return FAULTS_BELOW - fault;
        }
        now.rules[side].takeFrom(reader.draft);
        return now.rules[side].count;
    }

    public int line(int side, int i, int what) {
        if (!isIn(side, 0, SIDES - 1) || !isIn(i, 0, now.rules[side].count - 1)) {
            return NO_SUCH;
        }
        Rules asked = now.rules[side];
        switch (what) {
            case 0: return asked.sorts[i];
            case 1: return asked.sorts[i] == Rules.VOTE ? NO_SUCH : asked.numbers[i];
            case 2: return asBit(asked.hasCond(i));
            default: return NO_SUCH;
        }
    }

    public int rule(int what) {
        switch (what) {
            case 0: return now.quorum();
            case 1: return now.safety();
            case 2: return now.evictWeeks();
            default: return BAD;
        }
    }

    public int why(int household, int what) {
        if (!now.hasHousehold(household) || !isIn(what, 0, 2)) {
            return BAD;
        }
        Household home = now.households[household];
        int found;
        if (what == 0) {
            found = now.rules[UNION].firstHolding(Rules.TICKET, home);
        } else if (what == 1) {
            found = now.rules[UNION].firstHolding(Rules.RANK, home);
        } else {
            found = now.rules[COUNTY].firstHolding(Rules.RELIEF, home);
        }
        return found == Rules.NO_LINE ? NONE : found;
    }

    // ---- news, papers

    public int news(int village, int weight) {
        if (!now.hasVillage(village) || !isIn(weight, -20, 20)) {
            return BAD;
        }
        if (now.talk.newsCount >= TOLD) {
            return FULL;
        }
        return now.talk.tell(village, weight, now.today);
    }

    public int hears(int household, int news) {
        if (!now.hasHousehold(household) || !isIn(news, 0, now.talk.newsCount - 1)) {
            return BAD;
        }
        return now.talk.dayHeard(news, now.households[household].village, now.roads);
    }

    public int press(boolean fund) {
        if (fund) {
            now.talk.pressOfFund = now.fund;
            return now.fund;
        }
        now.talk.pressOfStock = now.works.stock;
        return now.works.stock;
    }

    public int paper(int household) {
        if (!now.hasHousehold(household)) {
            return BAD;
        }
        if (now.households[household].isEvicted || now.households[household].isBack) {
            return STATE;
        }
        if (now.talk.paperCount >= TOLD) {
            return FULL;
        }
        return now.talk.writePaper(household, now.today);
    }

    public int evict(int paper) {
        if (!isIn(paper, 0, now.talk.paperCount - 1)) {
            return BAD;
        }
        Household home = now.households[now.talk.paperHousehold[paper]];
        if (home.isEvicted || home.isBack) {
            return STATE;
        }
        int found = now.talk.findPaper(paper, now.today, now.evictWeeks());
        if (found == Talk.DUE) {
            home.leaveHome();
        }
        return found;
    }

    // ---- lasting

    public int draws(int household) {
        if (!now.hasHousehold(household)) {
            return BAD;
        }
        now.reckonShares();
        return now.drawn[household];
    }

    public int least(int n) {
        return isIn(n, 0, 9) ? now.leastGift(n) : BAD;
    }

    public int last(int what) {
        switch (what) {
            case 0:
                imagined.takeFrom(now);
                return imagined.holdOut(now.fund);
            case 1: return now.works.daysLeft(now.works.stock, now.today, true);
            case 2:
                imagined.takeFrom(now);
                return imagined.holdOut(now.talk.pressOfFund);
            case 3: return now.works.daysLeft(now.talk.pressOfStock, now.today, false);
            default: return BAD;
        }
    }

    // ---- pickets

    public int post(boolean man, int village) {
        if (!now.hasVillage(village)) {
            return BAD;
        }
        if (man) {
            return now.pickets.manCount < MEN ? now.pickets.addMan(village) : FULL;
        }
        return now.pickets.gateCount < GATES ? now.pickets.addGate(village) : FULL;
    }

    public int watch(int what) {
        boolean asksMan = isIn(what, 10, 10 + now.pickets.manCount - 1);
        if (what != 0 && what != 1 && !asksMan) {
            return BAD;
        }
        if (!now.pickets.plan(now.roads)) {
            return NONE;
        }
        tellRows();
        if (asksMan) {
            int gate = now.pickets.gateOfMan[what - 10];
            return gate == Pickets.NOWHERE ? NO_SUCH : gate;
        }
        return what == 0 ? rowCount : now.pickets.leastSum();
    }

    private void tellRows() {
        int told = 0;
        for (int man = 0; man < now.pickets.manCount && told < GATES; man++) {
            if (now.pickets.gateOfMan[man] != Pickets.NOWHERE) {
                toldRows[2 * told] = man;
                toldRows[2 * told + 1] = now.pickets.gateOfMan[man];
                told++;
            }
        }
        System.arraycopy(toldRows, 0, rows, 0, toldRows.length);
        rowCount = told;
        toldCount = told;
        isWatchTold = true;
    }

    public int row(int i, int what) {
        return hasRow(i, what) ? rows[2 * i + what] : NO_SUCH;
    }

    public int alterRow(int i, int what, int v) {
        if (!hasRow(i, what)) {
            return NO_SUCH;
        }
        int was = rows[2 * i + what];
        rows[2 * i + what] = v;
        return was;
    }

    private boolean hasRow(int i, int what) {
        return isIn(i, 0, rowCount - 1) && isIn(what, 0, 1);
    }

    public int dropRow() {
        if (rowCount == 0) {
            return NONE;
        }
        rowCount--;
        return rowCount;
    }

    public int judge() {
        if (!isWatchTold) {
            return NONE;
        }
        for (int i = 0; i < rowCount; i++) {
            if (rows[2 * i] != toldRows[2 * i] || rows[2 * i + 1] != toldRows[2 * i + 1]) {
                return i + 1;
            }
        }
        return rowCount < toldCount ? rowCount + 1 : 0;
    }

    // ---- offers

    public int clause(int cost) {
        if (!isIn(cost, 0, 99)) {
            return BAD;
        }
        return now.offers.count < CLAUSES ? now.offers.addClause(cost) : FULL;
    }

    public int worth(int clause, int pit, int v) {
        if (!isIn(clause, 0, now.offers.count - 1) || !now.hasPit(pit) || !isIn(v, 0, 99)) {
            return BAD;
        }
        int was = now.offers.worths[clause][pit];
        now.offers.worths[clause][pit] = v;
        return was;
    }

    public int ballot(int set, int what) {
        Offers offers = now.offers;
        if (!isIn(set, 0, offers.setCount() - 1) || !isIn(what, 0, 4)) {
            return BAD;
        }
        offers.callVoters(now);
        int content = offers.contentPits(set, now);
        switch (what) {
            case 0: return offers.yesOf(content);
            case 1: return offers.votes() - offers.yesOf(content);
            case 2: return asBit(offers.isCarried(content, now));
            case 3: return content;
            default: return offers.costOf(set);
        }
    }

    public int offer() {
        int found = now.offers.leastOffer(now);
        return found == Offers.NO_SET ? NONE : found;
    }

    // ---- the host

    public int sheet(int sheet, int sort, int n) {
        if (!isSheet(sheet) || !isIn(sort, MISSING, BOOLEANS)) {
            return BAD;
        }
        if (sort == MISSING) {
            sheetSort[sheet] = MISSING;
            return 1;
        }
        if (n > SHEET_SIZE) {
            return BAD;
        }
        if (n < 0) {
            return BELOW_ZERO;
        }
        sheetSort[sheet] = sort;
        sheetSize[sheet] = n;
        Arrays.fill(sheetItems[sheet], 0);
        return 1;
    }

    public int put(int sheet, int i, int v) {
        if (!isSheet(sheet)) {
            return BAD;
        }
        if (sheetSort[sheet] == MISSING) {
            return NOTHING;
        }
        if (!isIn(i, 0, sheetSize[sheet] - 1)) {
            return OUTSIDE;
        }
        sheetItems[sheet][i] = narrowed(v, sheetSort[sheet]);
        return 1;
    }

    /** Longs need no more than an int here: what is put is an int, and what is asked are the lowest 32 bits. */
    private static int narrowed(int v, int sort) {
        switch (sort) {
            case BYTES: return (byte) v;
            case SHORTS: return (short) v;
            case BOOLEANS: return asBit(v != 0);
            default: return v;
        }
    }

    public int item(int sheet, int sort, int i) {
        if (!isSheet(sheet) || !isIn(sort, BYTES, BOOLEANS)) {
            return BAD;
        }
        int refusal = refuseItems(sheet, sort, i, 1);
        return refusal < 0 ? refusal : sheetItems[sheet][i];
    }

    public int comes(int sheet, int i) {
        if (!isSheet(sheet)) {
            return BAD;
        }
        int refusal = refuseItems(sheet, SHORTS, i, TOLD_OF_HOUSEHOLD);
        if (refusal < 0) {
            return refusal;
        }
        int[] told = sheetItems[sheet];
        return household(told[i], told[i + 1], told[i + 2], told[i + 3], told[i + 4]);
    }

    /** Why n items from i on can't be had of a sheet taken for a sort; 0 if they can. */
    private int refuseItems(int sheet, int sort, int i, int n) {
        if (sheetSort[sheet] == MISSING) {
            return NOTHING;
        }
        if (sheetSort[sheet] != sort) {
            return OTHER_KIND;
        }
        return isIn(i, 0, sheetSize[sheet] - n) ? 0 : OUTSIDE;
    }

    private static boolean isSheet(int sheet) {
        return isIn(sheet, 0, SHEETS - 1);
    }

    public int shelf(int shelf, int what, int n) {
        if (!isShelf(shelf)) {
            return BAD;
        }
        switch (what) {
            case HOLDS_HOUSEHOLD: return holdThing(shelf, what, n, now.hasHousehold(n));
            case HOLDS_SHOP: return holdThing(shelf, what, n, now.hasShop(n));
            case HOLDS_PIT: return holdThing(shelf, what, n, now.hasPit(n));
            case HOLDS_ROW: return isSheet(n) ? holdRow(shelf, n) : BAD;
            case HOLDS_NOTHING: return holdThing(shelf, what, 0, true);
            default: return BAD;
        }
    }

    private int holdThing(int shelf, int what, int n, boolean isThere) {
        if (!isThere) {
            return BAD;
        }
        shelfHolds[shelf] = what;
        shelfNumber[shelf] = n;
        return 1;
    }

    private int holdRow(int shelf, int sheet) {
        boolean isMissing = sheetSort[sheet] == MISSING;
        shelfHolds[shelf] = isMissing ? HOLDS_NOTHING : HOLDS_ROW;
        shelfNumber[shelf] = sheetSort[sheet];
        shelfSize[shelf] = sheetSize[sheet];
        return 1;
    }

    public int taken(int shelf, int as) {
        boolean asRow = isIn(as, FIRST_ROW_KIND + BYTES, FIRST_ROW_KIND + BOOLEANS);
        if (!isShelf(shelf) || !asRow && !isIn(as, Deals.HOLDER, Deals.LOST)) {
            return BAD;
        }
        if (isBare(shelf)) {
            return NOTHING;
        }
        boolean isRow = shelfHolds[shelf] == HOLDS_ROW;
        if (isRow != asRow) {
            return OTHER_KIND;
        }
        if (isRow) {
            return shelfNumber[shelf] == as - FIRST_ROW_KIND ? shelfSize[shelf] : OTHER_KIND;
        }
        return Deals.isOrIsUnder(kindOn(shelf), as) ? shelfNumber[shelf] : OTHER_KIND;
    }

    public int deal(int shelf, int deal, int x) {
        deals.forget();
        if (!isShelf(shelf) || !isIn(deal, Deals.EATS, Deals.PARTS)) {
            return 0;
        }
        if (isBare(shelf) || shelfHolds[shelf] == HOLDS_ROW) {
            return 0;
        }
        int n = shelfNumber[shelf];
        switch (shelfHolds[shelf]) {
            case HOLDS_HOUSEHOLD:
                deals.meet(kindOn(shelf), n, now.households[n].village, now.households[n].mouths);
                break;
            case HOLDS_SHOP:
                deals.meet(kindOn(shelf), n, now.shops[n].village, now.shops[n].credit);
                break;
            default:
                deals.meet(kindOn(shelf), n, now.pits[n].village, now.pits[n].limit);
        }
        return deals.run(deal, x);
    }

    private static boolean isShelf(int shelf) {
        return isIn(shelf, 0, SHELVES - 1);
    }

    /** A thing may be gone since again(): then the shelf holds nothing, till a new one has its number. */
    private boolean isBare(int shelf) {
        switch (shelfHolds[shelf]) {
            case HOLDS_HOUSEHOLD: return !now.hasHousehold(shelfNumber[shelf]);
            case HOLDS_SHOP: return !now.hasShop(shelfNumber[shelf]);
            case HOLDS_PIT: return !now.hasPit(shelfNumber[shelf]);
            case HOLDS_ROW: return false;
            default: return true;
        }
    }

    /** Asked only of a shelf that isn't bare and holds no row. */
    private int kindOn(int shelf) {
        int n = shelfNumber[shelf];
        if (shelfHolds[shelf] == HOLDS_HOUSEHOLD) {
            if (now.households[n].isBack) {
                return Deals.GONE_BACK;
            }
            return now.households[n].isEvicted ? Deals.LODGER : Deals.HOUSEHOLD;
        }
        if (shelfHolds[shelf] == HOLDS_SHOP) {
            return Deals.SHOP;
        }
        return now.pits[n].isLost() ? Deals.LOST : Deals.PIT;
    }

    public int trace(int i) {
        return isIn(i, 0, deals.bodyCount - 1) ? deals.bodies[i] : NONE;
    }

    public int many(int what) {
        switch (what) {
            case 0: return now.today;
            case 1: return now.villageCount;
            case 2: return now.pitCount;
            case 3: return now.shopCount;
            case 4: return now.householdCount;
            case 5: return now.talk.newsCount;
            case 6: return now.talk.paperCount;
            case 7: return now.works.shipCount;
            case 8: return now.fund;
            case 9: return now.works.stock;
            case 10: return now.pickets.gateCount;
            case 11: return now.pickets.manCount;
            case 12: return rowCount;
            case 13: return now.offers.count;
            case 14: return reader.size;
            case 15: return deals.bodyCount;
            case 16: return now.backCount();
            default: return BAD;
        }
    }

    // ---- kept

    public int keep() {
        kept.takeFrom(now);
        isKept = true;
        return 1;
    }

    public int again() {
        if (!isKept) {
            return NONE;
        }
        now.takeFrom(kept);
        return 1;
    }

    private static boolean isIn(int v, int least, int most) {
        return v >= least && v <= most;
    }

    private static int asBit(boolean yes) {
        return yes ? 1 : 0;
    }

    /** All that keep() keeps, and how its days go by. */
    private static final class Valley {
        private static final int LAST_RANK = 9, LARDER_MOST = 999;

        int today = 0;
        int villageCount = 0;
        int pitCount = 0;
        int shopCount = 0;
        int householdCount = 0;
        int fund = 0;
        boolean isCold = false;
        final int[][] roads = new int[VILLAGES][VILLAGES];
        final Pit[] pits = new Pit[PITS];
        final Shop[] shops = new Shop[SHOPS];
        final Household[] households = new Household[HOUSEHOLDS];
        final Rules[] rules = new Rules[SIDES];
        final Works works = new Works();
        final Talk talk = new Talk();
        final Pickets pickets = new Pickets();
        final Offers offers = new Offers();

        /** What reckonShares() found, by households. */
        final int[] drawn = new int[HOUSEHOLDS];
        private final int[] tickets = new int[HOUSEHOLDS];
        private final int[] ranks = new int[HOUSEHOLDS];

        Valley() {
            for (int a = 0; a < VILLAGES; a++) {
                Arrays.fill(roads[a], 1);
                roads[a][a] = 0;
            }
            for (int i = 0; i < PITS; i++) {
                pits[i] = new Pit();
            }
            for (int i = 0; i < SHOPS; i++) {
                shops[i] = new Shop();
            }
            for (int i = 0; i < HOUSEHOLDS; i++) {
                households[i] = new Household();
            }
            for (int i = 0; i < SIDES; i++) {
                rules[i] = new Rules();
            }
        }

        void takeFrom(Valley other) {
            today = other.today;
            villageCount = other.villageCount;
            pitCount = other.pitCount;
            shopCount = other.shopCount;
            householdCount = other.householdCount;
            fund = other.fund;
            isCold = other.isCold;
            // Roads of villages that aren't there yet, too: they must be 1 again when such a village comes.
            for (int a = 0; a < VILLAGES; a++) {
                System.arraycopy(other.roads[a], 0, roads[a], 0, VILLAGES);
            }
            for (int i = 0; i < pitCount; i++) {
                pits[i].takeFrom(other.pits[i]);
            }
            for (int i = 0; i < shopCount; i++) {
                shops[i].takeFrom(other.shops[i]);
            }
            for (int i = 0; i < householdCount; i++) {
                households[i].takeFrom(other.households[i]);
            }
            for (int i = 0; i < SIDES; i++) {
                rules[i].takeFrom(other.rules[i]);
            }
            works.takeFrom(other.works);
            talk.takeFrom(other.talk);
            pickets.takeFrom(other.pickets);
            offers.takeFrom(other.offers);
        }

        boolean hasVillage(int village) {
            return isIn(village, 0, villageCount - 1);
        }

        boolean hasPit(int pit) {
            return isIn(pit, 0, pitCount - 1);
        }

        boolean hasShop(int shop) {
            return isIn(shop, 0, shopCount - 1);
        }

        boolean hasHousehold(int household) {
            return isIn(household, 0, householdCount - 1);
        }

        int ticketOf(Household home) {
            return rules[UNION].numberFor(Rules.TICKET, home, 0);
        }

        int rankOf(Household home) {
            return rules[UNION].numberFor(Rules.RANK, home, LAST_RANK);
        }

        int reliefOf(Household home) {
            return rules[COUNTY].numberFor(Rules.RELIEF, home, 0);
        }

        boolean mayVote(Household home) {
            return rules[UNION].firstOf(Rules.VOTE) == Rules.NO_LINE
                || rules[UNION].firstHolding(Rules.VOTE, home) != Rules.NO_LINE;
        }

        int quorum() {
            return rules[UNION].numberOf(Rules.QUORUM, 50);
        }

        int safety() {
            return Math.min(rules[UNION].numberOf(Rules.SAFETY, 0), rules[COMPANY].numberOf(Rules.SAFETY, 0));
        }

        int evictWeeks() {
            return rules[COMPANY].numberOf(Rules.EVICT, 12);
        }

        int backCount() {
            int back = 0;
            for (int i = 0; i < householdCount; i++) {
                if (households[i].isBack) {
                    back++;
                }
            }
            return back;
        }

        void goOn() {
            today++;
            int safetyMen = safety();
            for (int i = 0; i < pitCount; i++) {
                pits[i].fill(safetyMen, today);
            }
            shareIfDue();
            for (int i = 0; i < householdCount; i++) {
                liveOn(households[i], talk.weightHeard(households[i], today, roads));
            }
            works.goOn(today);
        }

        /** How many days the valley can hold with such a fund; this valley is used up by it. */
        int holdOut(int withFund) {
            fund = withFund;
            for (int held = 0; held < HELD_MOST; held++) {
                if (2 * (householdCount - backCount()) < householdCount) {
                    return held;
                }
                today++;
                shareIfDue();
                for (int i = 0; i < householdCount; i++) {
                    liveOn(households[i], 0);
                }
            }
            return HELD_MOST;
        }

        private void shareIfDue() {
            if (today % WEEK != 0) {
                return;
            }
            fund -= reckonShares();
            for (int i = 0; i < householdCount; i++) {
                Household home = households[i];
                if (!home.isBack) {
                    home.larder = Math.min(LARDER_MOST, home.larder + drawn[i] + reliefOf(home));
                }
            }
        }

        /** What each would draw, were THE FUND shared now, into drawn; how much that is together. */
        int reckonShares() {
            for (int i = 0; i < householdCount; i++) {
                Household home = households[i];
                tickets[i] = home.isBack ? 0 : rules[UNION].numberFor(Rules.TICKET, home, 0);
                ranks[i] = rules[UNION].numberFor(Rules.RANK, home, LAST_RANK);
                drawn[i] = 0;
            }
            int left = fund;
            for (int rank = 0; rank <= LAST_RANK; rank++) {
                left -= drawByRank(rank, left);
            }
            return fund - left;
        }

        private int drawByRank(int rank, int there) {
            int wanted = 0;
            for (int i = 0; i < householdCount; i++) {
                if (ranks[i] == rank) {
                    wanted += tickets[i];
                }
            }
            if (wanted == 0) {
                return 0;
            }
            int given = Math.min(wanted, there);
            int left = given;
            for (int i = 0; i < householdCount; i++) {
                if (ranks[i] == rank) {
                    drawn[i] = given * tickets[i] / wanted;
                    left -= drawn[i];
                }
            }
            // Once around is enough: fewer are left over than there are households that still want.
            for (int i = 0; i < householdCount && left > 0; i++) {
                if (ranks[i] == rank && drawn[i] < tickets[i]) {
                    drawn[i]++;
                    left--;
                }
            }
            return given;
        }

        int leastGift(int rank) {
            int wanted = 0;
            for (int i = 0; i < householdCount; i++) {
                if (!households[i].isBack && rankOf(households[i]) <= rank) {
                    wanted += ticketOf(households[i]);
                }
            }
            return Math.max(0, wanted - fund);
        }

        private void liveOn(Household home, int newsWeight) {
            if (home.isBack) {
                return;
            }
            int lacking = home.eatOwn();
            for (int i = 0; i < shopCount && lacking > 0; i++) {
                if (shops[i].village == home.village) {
                    int lent = shops[i].lend(lacking);
                    home.owes += lent;
                    lacking -= lent;
                }
            }
            home.endDay(lacking > 0, isCold, newsWeight);
        }
    }

    private static final class Household {
        private static final int WILL_MOST = 99;

        int village;
        int pit;
        int mouths;
        int garden;
        int coal;
        int will;
        int larder;
        int owes;
        int hungryDays;
        int coldDays;
        boolean isBack;
        boolean isEvicted;

        void settle(int newVillage, int newPit, int newMouths, int how, int newWill) {
            village = newVillage;
            pit = newPit;
            mouths = newMouths;
            garden = how / 1000;
            coal = how % 1000 / 10;
            will = newWill;
            larder = 0;
            owes = 0;
            hungryDays = 0;
            coldDays = 0;
            isBack = false;
            isEvicted = false;
        }

        void takeFrom(Household other) {
            village = other.village;
            pit = other.pit;
            mouths = other.mouths;
            garden = other.garden;
            coal = other.coal;
            will = other.will;
            larder = other.larder;
            owes = other.owes;
            hungryDays = other.hungryDays;
            coldDays = other.coldDays;
            isBack = other.isBack;
            isEvicted = other.isEvicted;
        }

        /** By numbers as FACTS stand in TextReader.WORDS. */
        int fact(int number) {
            switch (number) {
                case 0: return mouths;
                case 1: return owes;
                case 2: return will;
                case 3: return coal;
                case 4: return hungryDays;
                case 5: return pit;
                default: return village;
            }
        }

        void leaveHome() {
            isEvicted = true;
            garden = 0;
        }

        /** Eats of garden and larder: how many meals lack yet. */
        int eatOwn() {
            int lacking = Math.max(0, mouths - garden);
            int stored = Math.min(lacking, larder);
            larder -= stored;
            return lacking - stored;
        }

        void endDay(boolean isHungry, boolean isColdToday, int newsWeight) {
            boolean isFreezing = coal == 0 && isColdToday;
            coal = Math.max(0, coal - 1);
            int change = newsWeight;
            if (isHungry) {
                hungryDays++;
                change -= 2;
            }
            if (isFreezing) {
                coldDays++;
                change--;
            }
            if (!isHungry && !isFreezing) {
                change++;
            }
            will = Math.max(0, Math.min(WILL_MOST, will + change));
            isBack = will == 0;
        }
    }

    private static final class Pit {
        private static final int NOT_LOST = -1, FIRST_WANT = 50, FORESEEN_MOST = 500;

        int village;
        int inflow;
        int pumped;
        int limit;
        int water;
        int lostOn;
        int want;

        void dig(int newVillage, int newInflow, int newPumped, int newLimit) {
            village = newVillage;
            inflow = newInflow;
            pumped = newPumped;
            limit = newLimit;
            water = 0;
            lostOn = NOT_LOST;
            want = FIRST_WANT;
        }

        void takeFrom(Pit other) {
            village = other.village;
            inflow = other.inflow;
            pumped = other.pumped;
            limit = other.limit;
            water = other.water;
            lostOn = other.lostOn;
            want = other.want;
        }

        boolean isLost() {
            return lostOn != NOT_LOST;
        }

        void fill(int safetyMen, int today) {
            if (isLost()) {
                return;
            }
            water = waterAfter(water, safetyMen);
            if (water > limit) {
                lostOn = today;
            }
        }

        private int waterAfter(int before, int safetyMen) {
            return Math.max(0, before + inflow - pumped * safetyMen);
        }

        /** On how many more days it isn't lost. */
        int daysAbove(int safetyMen) {
            if (isLost()) {
                return 0;
            }
            int foreseen = water;
            for (int day = 0; day < FORESEEN_MOST; day++) {
                foreseen = waterAfter(foreseen, safetyMen);
                if (foreseen > limit) {
                    return day;
                }
            }
            return FORESEEN_MOST;
        }
    }

    private static final class Shop {
        int village;
        int credit;
        int lent;

        void open(int newVillage, int newCredit) {
            village = newVillage;
            credit = newCredit;
            lent = 0;
        }

        void takeFrom(Shop other) {
            village = other.village;
            credit = other.credit;
            lent = other.lent;
        }

        int lend(int asked) {
            int given = Math.min(asked, credit - lent);
            lent += given;
            return given;
        }
    }

    /** The company's stock, and the ships that are due. */
    private static final class Works {
        int stock = 0;
        int burn = 0;
        int shipCount = 0;
        private final int[] shipDay = new int[SHIPS];
        private final int[] shipLoad = new int[SHIPS];

        void takeFrom(Works other) {
            stock = other.stock;
            burn = other.burn;
            shipCount = other.shipCount;
            System.arraycopy(other.shipDay, 0, shipDay, 0, SHIPS);
            System.arraycopy(other.shipLoad, 0, shipLoad, 0, SHIPS);
        }

        void bring(int n) {
            stock = Math.min(HEAP_MOST, stock + n);
        }

        void expect(int day, int n) {
            shipDay[shipCount] = day;
            shipLoad[shipCount] = n;
            shipCount++;
        }

        void goOn(int today) {
            stock = stockAfter(stock, today, true);
            int due = 0;
            for (int i = 0; i < shipCount; i++) {
                if (shipDay[i] != today) {
                    shipDay[due] = shipDay[i];
                    shipLoad[due] = shipLoad[i];
                    due++;
                }
            }
            shipCount = due;
        }

        private int stockAfter(int before, int day, boolean withShips) {
            int after = Math.max(0, before - burn);
            for (int i = 0; i < shipCount && withShips; i++) {
                if (shipDay[i] == day) {
                    after = Math.min(HEAP_MOST, after + shipLoad[i]);
                }
            }
            return after;
        }

        int daysLeft(int from, int today, boolean withShips) {
            int left = from;
            for (int held = 0; held < HELD_MOST; held++) {
                if (left == 0) {
                    return held;
                }
                left = stockAfter(left, today + held + 1, withShips);
            }
            return HELD_MOST;
        }
    }

    /** What goes from mouth to mouth and on paper: news, papers, the press. */
    private static final class Talk {
        static final int TOO_EARLY = 0, DUE = 1, VOID = 2;

        int newsCount = 0;
        private final int[] newsVillage = new int[TOLD];
        private final int[] newsWeight = new int[TOLD];
        private final int[] newsDay = new int[TOLD];

        int paperCount = 0;
        final int[] paperHousehold = new int[TOLD];
        private final int[] paperDay = new int[TOLD];
        private final boolean[] paperVoid = new boolean[TOLD];

        int pressOfFund = 0;
        int pressOfStock = 0;

        void takeFrom(Talk other) {
            newsCount = other.newsCount;
            System.arraycopy(other.newsVillage, 0, newsVillage, 0, TOLD);
            System.arraycopy(other.newsWeight, 0, newsWeight, 0, TOLD);
            System.arraycopy(other.newsDay, 0, newsDay, 0, TOLD);
            paperCount = other.paperCount;
            System.arraycopy(other.paperHousehold, 0, paperHousehold, 0, TOLD);
            System.arraycopy(other.paperDay, 0, paperDay, 0, TOLD);
            System.arraycopy(other.paperVoid, 0, paperVoid, 0, TOLD);
            pressOfFund = other.pressOfFund;
            pressOfStock = other.pressOfStock;
        }

        int tell(int village, int weight, int today) {
            newsVillage[newsCount] = village;
            newsWeight[newsCount] = weight;
            newsDay[newsCount] = today;
            newsCount++;
            return newsCount - 1;
        }

        int dayHeard(int number, int village, int[][] roads) {
            boolean isToldThere = newsVillage[number] == village;
            return newsDay[number] + (isToldThere ? 1 : roads[newsVillage[number]][village]);
        }

        int weightHeard(Household home, int today, int[][] roads) {
            if (home.isEvicted) {
                return 0;
            }
            int weight = 0;
            for (int i = 0; i < newsCount; i++) {
                if (dayHeard(i, home.village, roads) == today) {
                    weight += newsWeight[i];
                }
            }
            return weight;
        }

        int writePaper(int household, int today) {
            paperHousehold[paperCount] = household;
            paperDay[paperCount] = today;
            paperVoid[paperCount] = false;
            paperCount++;
            return paperCount - 1;
        }

        /** A paper found void stays so, whatever the rules say later. */
        int findPaper(int number, int today, int weeks) {
            int due = paperDay[number] + WEEK * weeks;
            if (today > due) {
                paperVoid[number] = true;
            }
            if (paperVoid[number]) {
                return VOID;
            }
            return today == due ? DUE : TOO_EARLY;
        }
    }

    /** Gates, men, and who goes where. */
    private static final class Pickets {
        static final int NOWHERE = -1;
        private static final int SETS = 1 << GATES, IMPOSSIBLE = 1000000;

        int miles = 9;
        int gateCount = 0;
        int manCount = 0;
        private final int[] gateVillage = new int[GATES];
        private final int[] manVillage = new int[MEN];

        /** What plan() found: the gate of each man. */
        final int[] gateOfMan = new int[MEN];
        /** By man and set of gates: the least walk for him and those behind him to stand at just these gates. */
        private final int[][] leastWalk = new int[MEN + 1][SETS];

        void takeFrom(Pickets other) {
            miles = other.miles;
            gateCount = other.gateCount;
            manCount = other.manCount;
            System.arraycopy(other.gateVillage, 0, gateVillage, 0, GATES);
            System.arraycopy(other.manVillage, 0, manVillage, 0, MEN);
        }

        int addGate(int village) {
            gateVillage[gateCount] = village;
            gateCount++;
            return gateCount - 1;
        }

        int addMan(int village) {
            manVillage[manCount] = village;
            manCount++;
            return manCount - 1;
        }

        /** The fewest men are one to a gate, so each gate of a set is given away once. False: there is no watch. */
        boolean plan(int[][] roads) {
            Arrays.fill(leastWalk[manCount], IMPOSSIBLE);
            leastWalk[manCount][0] = 0;
            for (int man = manCount - 1; man >= 0; man--) {
                for (int bare = 0; bare < 1 << gateCount; bare++) {
                    leastWalk[man][bare] = leastFrom(man, bare, roads);
                }
            }
            if (leastSum() >= IMPOSSIBLE) {
                return false;
            }
            sendMen(roads);
            return true;
        }

        int leastSum() {
            return leastWalk[0][(1 << gateCount) - 1];
        }

        private int leastFrom(int man, int bare, int[][] roads) {
            int least = leastWalk[man + 1][bare];
            for (int gate = 0; gate < gateCount; gate++) {
                least = Math.min(least, leastIfAt(man, gate, bare, roads));
            }
            return least;
        }

        private int leastIfAt(int man, int gate, int bare, int[][] roads) {
            int walk = roads[manVillage[man]][gateVillage[gate]];
            if ((bare & 1 << gate) == 0 || walk > miles) {
                return IMPOSSIBLE;
            }
            return walk + leastWalk[man + 1][bare & ~(1 << gate)];
        }

        /** Man by man to the least gate with which the least sum can still be had. */
        private void sendMen(int[][] roads) {
            int bare = (1 << gateCount) - 1;
            for (int man = 0; man < manCount; man++) {
                gateOfMan[man] = NOWHERE;
                for (int gate = 0; gate < gateCount && gateOfMan[man] == NOWHERE; gate++) {
                    if (leastIfAt(man, gate, bare, roads) == leastWalk[man][bare]) {
                        gateOfMan[man] = gate;
                        bare &= ~(1 << gate);
                    }
                }
            }
        }
    }

    /** Clauses, and how the lodges vote on sets of them. */
    private static final class Offers {
        static final int NO_SET = -1;
        private static final int YES_BELOW = 10, NO_ABOVE = 90, PERCENTS = 100;

        int count = 0;
        private final int[] costs = new int[CLAUSES];
        final int[][] worths = new int[CLAUSES][PITS];

        /** Voters as callVoters() found them: those whose will decides, and those that go with their pit. */
        private int always = 0;
        private int never = 0;
        private final int[] withPit = new int[PITS];

        void takeFrom(Offers other) {
            count = other.count;
            System.arraycopy(other.costs, 0, costs, 0, CLAUSES);
            for (int i = 0; i < CLAUSES; i++) {
                System.arraycopy(other.worths[i], 0, worths[i], 0, PITS);
            }
        }

        int addClause(int cost) {
            costs[count] = cost;
            Arrays.fill(worths[count], 0);
            count++;
            return count - 1;
        }

        int setCount() {
            return 1 << count;
        }

        int costOf(int set) {
            int cost = 0;
            for (int i = 0; i < count; i++) {
                if ((set & 1 << i) != 0) {
                    cost += costs[i];
                }
            }
            return cost;
        }

        /** Asked once for all sets: who votes doesn't hang on the set. */
        void callVoters(Valley valley) {
            always = 0;
            never = 0;
            Arrays.fill(withPit, 0);
            for (int i = 0; i < valley.householdCount; i++) {
                Household home = valley.households[i];
                if (home.isBack || !valley.mayVote(home)) {
                    continue;
                }
                if (home.will < YES_BELOW) {
                    always++;
                } else if (home.will > NO_ABOVE) {
                    never++;
                } else {
                    withPit[home.pit]++;
                }
            }
        }

        int votes() {
            int votes = always + never;
            for (int pit = 0; pit < PITS; pit++) {
                votes += withPit[pit];
            }
            return votes;
        }

        int yesOf(int content) {
            int yes = always;
            for (int pit = 0; pit < PITS; pit++) {
                if ((content & 1 << pit) != 0) {
                    yes += withPit[pit];
                }
            }
            return yes;
        }

        int contentPits(int set, Valley valley) {
            int content = 0;
            for (int pit = 0; pit < valley.pitCount; pit++) {
                int together = 0;
                for (int i = 0; i < count; i++) {
                    if ((set & 1 << i) != 0) {
                        together += worths[i][pit];
                    }
                }
                if (together >= valley.pits[pit].want) {
                    content |= 1 << pit;
                }
            }
            return content;
        }

        boolean isCarried(int content, Valley valley) {
            int votes = votes();
            int yes = yesOf(content);
            return votes * PERCENTS >= valley.quorum() * valley.householdCount && yes > votes - yes;
        }

        int leastOffer(Valley valley) {
            callVoters(valley);
            int best = NO_SET;
            int bestCost = 0;
            for (int set = 0; set < setCount(); set++) {
                int cost = costOf(set);
                boolean isCheaper = best == NO_SET || cost < bestCost;
                if (isCheaper && isCarried(contentPits(set, valley), valley)) {
                    best = set;
                    bestCost = cost;
                }
            }
            return best;
        }
    }

    /** The lines of one side, with their conditions as code: tests, each followed by what joins it to those ahead. */
    private static final class Rules {
        static final int TICKET = 0, RANK = 1, SAFETY = 2, QUORUM = 3, EVICT = 4, VOTE = 5, RELIEF = 6;
        static final int LINES = 10, NO_LINE = -1;
        static final int CODE_AND = -1, CODE_OR = -2, CODE_NOT = -3;
        private static final int NUMBERS = 1000, SIGNS = 3;

        int count = 0;
        final int[] sorts = new int[LINES];
        final int[] numbers = new int[LINES];
        private final int[] codeFrom = new int[LINES];
        private final int[] codeTo = new int[LINES];
        private int codeSize = 0;
        private final int[] code = new int[TextReader.TAPE];

        void clear() {
            count = 0;
            codeSize = 0;
        }

        void takeFrom(Rules other) {
            count = other.count;
            codeSize = other.codeSize;
            System.arraycopy(other.sorts, 0, sorts, 0, count);
            System.arraycopy(other.numbers, 0, numbers, 0, count);
            System.arraycopy(other.codeFrom, 0, codeFrom, 0, count);
            System.arraycopy(other.codeTo, 0, codeTo, 0, count);
            System.arraycopy(other.code, 0, code, 0, codeSize);
        }

        /** A line whose condition is the code from a place on to the end. */
        void addLine(int sort, int number, int from) {
            if (count < LINES) {
                sorts[count] = sort;
                numbers[count] = number;
                codeFrom[count] = from;
                codeTo[count] = codeSize;
                count++;
            }
        }

        int codeEnd() {
            return codeSize;
        }

        void addCode(int part) {
            if (codeSize < code.length) {
                code[codeSize] = part;
                codeSize++;
            }
        }

        static int codeOfTest(int fact, int sign, int number) {
            return (fact * SIGNS + sign) * NUMBERS + number;
        }

        boolean hasCond(int line) {
            return codeFrom[line] < codeTo[line];
        }

        int firstOf(int sort) {
            for (int line = 0; line < count; line++) {
                if (sorts[line] == sort) {
                    return line;
                }
            }
            return NO_LINE;
        }

        int firstHolding(int sort, Household home) {
            for (int line = 0; line < count; line++) {
                if (sorts[line] == sort && holds(line, home)) {
                    return line;
                }
            }
            return NO_LINE;
        }

        int numberOf(int sort, int without) {
            int line = firstOf(sort);
            return line == NO_LINE ? without : numbers[line];
        }

        int numberFor(int sort, Household home, int without) {
            int line = firstHolding(sort, home);
            return line == NO_LINE ? without : numbers[line];
        }

        /** Findings are piled up as bits, the latest one lowest: brackets nest so little that they fit an int. */
        private boolean holds(int line, Household home) {
            if (!hasCond(line)) {
                return true;
            }
            int pile = 0;
            for (int i = codeFrom[line]; i < codeTo[line]; i++) {
                int latest = pile & 1;
                switch (code[i]) {
                    case CODE_AND:
                        pile = latest == 1 ? pile >>> 1 : pile >>> 1 & ~1;
                        break;
                    case CODE_OR:
                        pile = pile >>> 1 | latest;
                        break;
                    case CODE_NOT:
                        pile ^= 1;
                        break;
                    default:
                        int fact = home.fact(code[i] / NUMBERS / SIGNS);
                        pile = pile << 1 | asBit(isTrue(fact, code[i]));
                }
            }
            return (pile & 1) == 1;
        }

        private static boolean isTrue(int fact, int test) {
            int number = test % NUMBERS;
            switch (test / NUMBERS % SIGNS) {
                case 0: return fact < number;
                case 1: return fact == number;
                default: return fact > number;
            }
        }
    }

    /** THE TAPE, and how its text is read: what stands next is looked at once, and must be as told. */
    private static final class TextReader {
        static final int TAPE = 300, NO_FAULT = -1;

        /** By their places: the sorts of lines (as in Rules), what joins, the facts (as in Household.fact). */
        private static final String WORDS =
            "ticket rank safety quorum evict vote relief if and or not mouths owes will coal hungry pit village ";
        private static final int IF = 7, AND = 8, OR = 9, NOT = 10, FIRST_FACT = 11, LAST_FACT = 17;
        /** Parts that are no known words; signs are parts by their own numbers, which are above those of words. */
        private static final int END = -1, NUMBER = -2, STRANGE = -3;
        private static final int BRACKETS = 4, DIGITS = 3, NUMBER_MOST = 999, RANK_MOST = 9, TOO_MUCH = 1000;

        private final byte[] bytes = new byte[TAPE];
        int size = 0;
        /** The lines of the latest text: to be taken only if it had no fault. */
        final Rules draft = new Rules();

        /** The text in its parts: words, numbers and signs, with their places, and END behind them. */
        private final int[] parts = new int[TAPE + 1];
        private final int[] places = new int[TAPE + 1];
        private final int[] values = new int[TAPE + 1];
        private int at = 0;
        private int next = END;

        void take(byte b) {
            if (size < TAPE) {
                bytes[size] = b;
                size++;
            }
        }

        /** Reads all that is there into the draft: the fault. Whatever can't stand is next then: its place tells. */
        int useUp() {
            splitTape();
            size = 0;
            draft.clear();
            at = 0;
            next = parts[0];
            boolean isGood = true;
            for (int lines = 0; lines < Rules.LINES && isGood && next != END; lines++) {
                isGood = readLine();
            }
            return isGood && next == END ? NO_FAULT : places[at];
        }

        private void splitTape() {
            int count = 0;
            int place = endOfRun(0, ' ', ' ');
            for (; count < TAPE && place < size; count++) {
                byte first = bytes[place];
                int end = place + 1;
                places[count] = place;
                if (isIn(first, 'a', 'z')) {
                    end = endOfRun(place, 'a', 'z');
                    parts[count] = wordBetween(place, end);
                } else if (isIn(first, '0', '9')) {
                    end = endOfRun(place, '0', '9');
                    parts[count] = NUMBER;
                    values[count] = numberBetween(place, end);
                } else {
                    parts[count] = isSign(first) ? first : STRANGE;
                }
                place = endOfRun(end, ' ', ' ');
            }
            places[count] = size;
            parts[count] = END;
        }

        private void step() {
            if (next != END) {
                at++;
                next = parts[at];
            }
        }

        private boolean readLine() {
            int sort = next;
            if (!isIn(sort, Rules.TICKET, Rules.RELIEF)) {
                return false;
            }
            step();
            int number = 0;
            if (sort != Rules.VOTE) {
                if (!isNumberUpTo(sort == Rules.RANK ? RANK_MOST : NUMBER_MOST)) {
                    return false;
                }
                number = values[at];
                step();
            }
            int codeFrom = draft.codeEnd();
            if (next == IF && mayHaveCond(sort)) {
                step();
                if (!readCond(0)) {
                    return false;
                }
            }
            draft.addLine(sort, number, codeFrom);
            if (next != ';') {
                return false;
            }
            step();
            return true;
        }

        private static boolean mayHaveCond(int sort) {
            return sort == Rules.TICKET || sort == Rules.RANK || sort == Rules.VOTE || sort == Rules.RELIEF;
        }

        private boolean isNumberUpTo(int most) {
            return next == NUMBER && values[at] <= most;
        }

        /** open: how many brackets stand open around it. */
        private boolean readCond(int open) {
            boolean isGood = readAll(open);
            for (int i = 0; i < TAPE && isGood && next == OR; i++) {
                step();
                isGood = readAll(open);
                draft.addCode(Rules.CODE_OR);
            }
            return isGood;
        }

        private boolean readAll(int open) {
            boolean isGood = readOne(open);
            for (int i = 0; i < TAPE && isGood && next == AND; i++) {
                step();
                isGood = readOne(open);
                draft.addCode(Rules.CODE_AND);
            }
            return isGood;
        }

        private boolean readOne(int open) {
            boolean isTurned = false;
            for (int i = 0; i < TAPE && next == NOT; i++) {
                step();
                isTurned = !isTurned;
            }
            boolean isGood = next == '(' ? readBrackets(open) : readTest();
            if (isGood && isTurned) {
                draft.addCode(Rules.CODE_NOT);
            }
            return isGood;
        }

        private boolean readBrackets(int open) {
            if (open >= BRACKETS) {
                return false;
            }
            step();
            if (!readCond(open + 1) || next != ')') {
                return false;
            }
            step();
            return true;
        }

        private boolean readTest() {
            int fact = next - FIRST_FACT;
            if (!isIn(next, FIRST_FACT, LAST_FACT)) {
                return false;
            }
            step();
            int sign = next - '<';
            if (!isIn(next, '<', '>')) {
                return false;
            }
            step();
            if (!isNumberUpTo(NUMBER_MOST)) {
                return false;
            }
            draft.addCode(Rules.codeOfTest(fact, sign, values[at]));
            step();
            return true;
        }

        private static boolean isSign(int b) {
            return b == ';' || b == '(' || b == ')' || isIn(b, '<', '>');
        }

        private int endOfRun(int from, char least, char most) {
            int end = from;
            while (end < size && isIn(bytes[end], least, most)) {
                end++;
            }
            return end;
        }

        private int numberBetween(int from, int to) {
            if (to - from > DIGITS) {
                return TOO_MUCH;
            }
            int number = 0;
            for (int i = from; i < to; i++) {
                number = number * 10 + bytes[i] - '0';
            }
            return number;
        }

        private int wordBetween(int from, int to) {
            int word = 0;
            int start = 0;
            for (int i = 0; i < WORDS.length(); i++) {
                if (WORDS.charAt(i) == ' ') {
                    if (i - start == to - from && isSame(start, from, to)) {
                        return word;
                    }
                    word++;
                    start = i + 1;
                }
            }
            return STRANGE;
        }

        /** Asked only if the word that starts there is as long. */
        private boolean isSame(int start, int from, int to) {
            for (int i = from; i < to; i++) {
                if (WORDS.charAt(start + i - from) != bytes[i]) {
                    return false;
                }
            }
            return true;
        }
    }

    /** Deals with one thing: a body asks the kind above for super, and the thing's own kind for the rest. */
    private static final class Deals {
        static final int HOLDER = 0, HOUSEHOLD = 1, SHOP = 2, PIT = 3, LODGER = 4, GONE_BACK = 5, LOST = 6;
        static final int EATS = 0, OWES = 1, VOTES = 2, PARTS = 3;
        private static final int TRACED = 30;

        final int[] bodies = new int[TRACED];
        int bodyCount = 0;

        private int kind = HOLDER;
        private int number = 0;
        private int village = 0;
        private int measure = 0;
        private boolean isParted = false;

        static boolean isOrIsUnder(int kind, int above) {
            return kind == above || above == HOLDER || kindAbove(kind) == above;
        }

        private static int kindAbove(int kind) {
            switch (kind) {
                case LODGER: return HOUSEHOLD;
                case GONE_BACK: return HOUSEHOLD;
                case LOST: return PIT;
                default: return HOLDER;
            }
        }

        void forget() {
            bodyCount = 0;
        }

        void meet(int newKind, int newNumber, int newVillage, int newMeasure) {
            kind = newKind;
            number = newNumber;
            village = newVillage;
            measure = newMeasure;
        }

        int run(int which, int x) {
            isParted = false;
            int answer;
            switch (which) {
                case EATS: answer = eats(kind, x); break;
                case OWES: answer = owes(kind, x); break;
                case VOTES: answer = votes(kind, x); break;
                default: answer = parts(kind, x);
            }
            return isParted ? PARTED_BY_ZERO : answer;
        }

        private void begin(int body) {
            if (bodyCount < TRACED) {
                bodies[bodyCount] = body;
                bodyCount++;
            }
        }

        private int eats(int as, int x) {
            switch (as) {
                case LOST:
                    begin(71);
                    return eats(PIT, x) * number;
                case LODGER:
                    begin(50);
                    return eats(HOUSEHOLD, x - 1);
                case GONE_BACK:
                    return eats(HOUSEHOLD, x);
                case HOUSEHOLD:
                    begin(20);
                    return eats(HOLDER, x) ^ number;
                default:
                    begin(10);
                    return x + measure;
            }
        }

        private int owes(int as, int x) {
            switch (as) {
                case GONE_BACK:
                    begin(60);
                    return owes(HOUSEHOLD, x) + 5;
                case SHOP:
                    begin(30);
                    return 0 - owes(HOLDER, x);
                default:
                    begin(11);
                    return eats(kind, x) * 2;
            }
        }

        private int votes(int as, int x) {
            switch (as) {
                case LOST:
                    begin(70);
                    return votes(PIT, x) - owes(kind, 0);
                case PIT:
                    begin(40);
                    return votes(HOLDER, x) * 3;
                case LODGER:
                case GONE_BACK:
                case HOUSEHOLD:
                    begin(21);
                    return votes(HOLDER, x) + eats(kind, 1);
                default:
                    begin(12);
                    return owes(kind, x) - village;
            }
        }

        private int parts(int as, int x) {
            switch (as) {
                case GONE_BACK:
                    begin(61);
                    return 0 - parts(HOUSEHOLD, x);
                case LOST:
                case PIT:
                    begin(41);
                    return parts(HOLDER, x + village);
                default:
                    begin(13);
                    return quotient(x, number - 1);
            }
        }

        private int quotient(int x, int by) {
            if (by == 0) {
                isParted = true;
                return 0;
            }
            return x / by;
        }
    }
}
