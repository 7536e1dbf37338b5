import java.util.Arrays;

/**
 * Sellers on the pavement, watchers who whistle and raids that walk a route:
 * the promises are numbered in the document DOC.md.
 */
public final class StringsSheet {
    public static final int NONE = -1000000;
    public static final long NOT = -9000000000000000000L;

    private static final long BAD = NOT - 1;
    private static final long STATE = NOT - 2;
    private static final long FULL = NOT - 3;

    private static final int NULL = 1;
    private static final int PLACE = 2;
    private static final int KIND = 3;
    private static final int SIZE = 4;
    private static final int STORE = 5;

    private static final int MOST_CORNERS = 7;
    private static final int MOST_GOODS = 4;
    private static final int MOST_SELLERS = 5;
    private static final int MOST_WATCHERS = 4;
    private static final int MOST_CELLARS = 6;
    private static final int MOST_DAYS = 12;
    private static final int LONGEST_ROUTE = 10;
    private static final int IMAGES = 2;
    private static final int GREATEST_SUM = 9999;
    private static final int GREATEST_FINE = 99;

    // Stands for "no way" and "never": above every sum of streets or minutes,
    // and low enough that two of them still add up in an int.
    private static final int FAR = 1000000;

    private final Rows rows;
    private final Reader reader;
    private final Sheet now;
    private final Sheet draft;
    private final Sheet[] images;
    private final boolean[] imaged;
    private final Stands stands;
    private final Reckoner reckoner;
    private final Asks asks;
    private int latestFault;
    private int latestFinding;

    public StringsSheet() {
        rows = new Rows();
        reader = new Reader();
        now = new Sheet();
        draft = new Sheet();
        images = new Sheet[IMAGES];
        for (int k = 0; k < IMAGES; k++) {
            images[k] = new Sheet();
        }
        imaged = new boolean[IMAGES];
        stands = new Stands(now);
        reckoner = new Reckoner(now);
        asks = new Asks(now);
        latestFault = 0;
        latestFinding = 0;
    }

    // ---- rows

    public long row(int row, int lane, int n) {
        if (!rows.isRow(row) || lane < 0 || lane >= Rows.LANES || n > Rows.MOST_ITEMS) {
            return BAD;
        }
        if (n < 0) {
            return found(SIZE);
        }
        rows.lay(row, lane, n);
        return foundNothing(n);
    }

    public long set(int row, int i, int v) {
        if (!rows.isRow(row)) {
            return BAD;
        }
        if (rows.isMissing(row)) {
            return found(NULL);
        }
        if (!rows.hasPlaces(row, i, 1)) {
            return found(PLACE);
        }
        return foundNothing(rows.put(row, i, v));
    }

    public long copy(int a, int i, int b, int j, int n) {
        if (!rows.isRow(a) || !rows.isRow(b)) {
            return BAD;
        }
        if (rows.isMissing(a) || rows.isMissing(b)) {
            return found(NULL);
        }
        if (!rows.areOfOneLane(a, b)) {
            return found(STORE);
        }
        if (!rows.hasPlaces(a, i, n) || !rows.hasPlaces(b, j, n)) {
            return found(PLACE);
        }
        rows.move(a, i, b, j, n);
        return foundNothing(n);
    }

    public long drop(int row) {
        if (!rows.isRow(row)) {
            return BAD;
        }
        if (rows.isMissing(row)) {
            return found(NULL);
        }
        return foundNothing(rows.takeAway(row));
    }

    // ---- pavements

    public long feed(long w, int n) {
        if (n < 1 || n > Reader.MOST_FED) {
            return BAD;
        }
        if (!reader.hasRoomFor(n)) {
            return FULL;
        }
        return reader.append(w, n);
    }

    public long pavement() {
        int found = reader.readInto(draft);
        int place = reader.place();
        reader.empty();
        if (found != 0) {
            latestFault = found;
            return NOT - 100 - place;
        }
        now.takeFrom(draft);
        return now.town.corners;
    }

    public int fault() {
        return latestFault;
    }

    public long walk(int a, int b, int what) {
        if (!now.town.isCorner(a) || !now.town.isCorner(b) || !isHalf(what)) {
            return BAD;
        }
        return orNone(what == 0 ? now.town.walkTo(a, b) : now.town.hearingTo(a, b));
    }

    public long goes(int seller, int corner) {
        if (!now.trade.isSeller(seller) || !now.town.isCorner(corner)) {
            return BAD;
        }
        int was = now.trade.cornerOf[seller];
        now.trade.cornerOf[seller] = corner;
        return was;
    }

    public long seller(int seller, int what) {
        if (!now.trade.isSeller(seller)) {
            return BAD;
        }
        switch (what) {
            case 0:
                return now.trade.goodsOf[seller];
            case 1:
                return now.trade.cornerOf[seller];
            case 2:
                return now.trade.foldOf(seller);
            case 3:
                return now.trade.worthOf(seller);
            case 4:
                return now.trade.fineOf(seller);
            default:
                return BAD;
        }
    }

    public long watch(int watcher, int corner) {
        if (!now.trade.isWatcher(watcher) || !now.town.isCorner(corner)) {
            return BAD;
        }
        int was = now.trade.watchOf[watcher];
        now.trade.watchOf[watcher] = corner;
        return was;
    }

    // ---- raids

    public long raid(int row, int i, int n) {
        return raidFrom(row, i, i, n, 1);
    }

    public long two(int row, int i, int j, int n) {
        return raidFrom(row, i, j, n, 2);
    }

    private long raidFrom(int row, int i, int j, int n, int sides) {
        if (!rows.isRow(row) || n < 1 || n > LONGEST_ROUTE) {
            return BAD;
        }
        if (!now.present) {
            return STATE;
        }
        if (rows.isMissing(row)) {
            return found(NULL);
        }
        if (!rows.hasPlaces(row, i, n) || !rows.hasPlaces(row, j, n)) {
            return found(PLACE);
        }
        if (!isRoute(row, i, n) || !isRoute(row, j, n)) {
            return BAD;
        }
        now.latest.begin(sides);
        walkRoute(row, i, n);
        if (sides == 2) {
            walkRoute(row, j, n);
        }
        now.latest.judge(now.town, now.trade);
        return foundNothing(now.latest.caughtBits(now.trade.sellers));
    }

    private boolean isRoute(int row, int from, int n) {
        for (int k = 0; k < n; k++) {
            int corner = rows.item(row, from + k);
            if (!now.town.isCorner(corner)) {
                return false;
            }
            if (k > 0 && now.town.streetTo(rows.item(row, from + k - 1), corner) == 0) {
                return false;
            }
        }
        return true;
    }

    private void walkRoute(int row, int from, int n) {
        int minute = 0;
        for (int k = 0; k < n; k++) {
            int corner = rows.item(row, from + k);
            if (k > 0) {
                minute += now.town.streetTo(rows.item(row, from + k - 1), corner);
            }
            now.latest.comesTo(corner, minute);
        }
    }

    public long after(int seller, int what) {
        boolean ofAll = seller == -1 && what == 4;
        boolean ofOne = now.trade.isSeller(seller) && what >= 0 && what <= 3;
        if (!ofAll && !ofOne) {
            return BAD;
        }
        if (now.latest.sides == 0) {
            return STATE;
        }
        switch (what) {
            case 0:
                return orNone(now.latest.warned[seller]);
            case 1:
                return orNone(now.latest.met[seller]);
            case 2:
                return now.latest.outcome[seller];
            case 3:
                return goneOf(seller);
            default:
                return lostInAll();
        }
    }

    private long goneOf(int seller) {
        return now.latest.outcome[seller] == Raid.FLED ? now.minutesGone(seller) : 0;
    }

    private long lostInAll() {
        long lost = 0;
        for (int s = 0; s < now.trade.sellers; s++) {
            if (now.latest.outcome[s] == Raid.CAUGHT) {
                lost += now.trade.lossOf(s);
            }
        }
        return lost;
    }

    public long nothing(int watcher) {
        if (!now.trade.isWatcher(watcher)) {
            return BAD;
        }
        long minutes = 0;
        int from = now.trade.watchOf[watcher];
        for (int s = 0; s < now.trade.sellers; s++) {
            if (now.town.hearingTo(from, now.trade.cornerOf[s]) < FAR) {
                minutes += now.minutesGone(s);
            }
        }
        return minutes;
    }

    public long keep() {
        if (now.latest.sides != 1 || now.latest.kept) {
            return STATE;
        }
        if (now.days.howMany >= MOST_DAYS) {
            return FULL;
        }
        now.days.add(now.latest);
        now.latest.kept = true;
        return now.days.howMany;
    }

    public long feared(int corner, int what) {
        if (!now.town.isCorner(corner) || !isHalf(what)) {
            return BAD;
        }
        return half(now.days.fearedAbove(corner), now.days.fearedBelow(), what);
    }

    // ---- where to stand

    public long score(int seller, int corner) {
        if (!now.trade.isSeller(seller) || !now.town.isCorner(corner)) {
            return BAD;
        }
        return stands.scoreAt(seller, corner);
    }

    public long may(int seller) {
        if (!now.trade.isSeller(seller)) {
            return BAD;
        }
        return stands.lawfulCorners(now.trade.goodsOf[seller], seller);
    }

    public long newcomer(int goods) {
        if (!now.trade.isGoods(goods)) {
            return BAD;
        }
        return stands.lawfulCorners(goods, Stands.NOBODY);
    }

    public long rest() {
        if (!now.present) {
            return STATE;
        }
        return stands.allAtRest() ? 1 : 0;
    }

    public long settle() {
        if (!now.present) {
            return STATE;
        }
        return stands.moveTillRest();
    }

    public long rests(int i) {
        if (i < -1) {
            return BAD;
        }
        if (!now.present) {
            return STATE;
        }
        return stands.findRest(i);
    }

    // ---- pay, cellars, ways, rounds, debts

    public long saved(int watcher, int seller) {
        if (!now.trade.isWatcher(watcher) || !now.trade.isSeller(seller)) {
            return BAD;
        }
        return now.days.savedBy(watcher, seller);
    }

    public long pays(int watcher, int pay, int seller, int what) {
        if (!now.trade.isWatcher(watcher) || !now.trade.isSeller(seller)) {
            return BAD;
        }
        if (pay < 1 || pay > GREATEST_SUM || !isHalf(what)) {
            return BAD;
        }
        reckoner.share(watcher, pay, seller);
        return half(reckoner.above, reckoner.below, what);
    }

    public long stored(int k) {
        if (k < -1) {
            return BAD;
        }
        if (!now.present) {
            return STATE;
        }
        int least = reckoner.leastStorage();
        if (least >= FAR || k >= now.trade.sellers) {
            return NONE;
        }
        return k == -1 ? least : reckoner.cellarFor(k);
    }

    public long escapes(int a, int b) {
        if (!now.town.isCorner(a) || !now.town.isCorner(b) || a == b) {
            return BAD;
        }
        return now.town.waysApart(a, b);
    }

    public long value(int fine, int what) {
        if (fine < 1 || fine > GREATEST_FINE || !isHalf(what)) {
            return BAD;
        }
        if (!now.present) {
            return STATE;
        }
        reckoner.mixRounds(fine);
        return half(reckoner.above, reckoner.below, what);
    }

    public long odds(int fine, int corner, int what) {
        if (fine < 1 || fine > GREATEST_FINE || !now.town.isCorner(corner) || !isHalf(what)) {
            return BAD;
        }
        reckoner.mixRounds(fine);
        reckoner.oddsFromValue(fine, corner);
        return half(reckoner.above, reckoner.below, what);
    }

    public long owe(int a, int b, int sum) {
        if (!arePair(a, b) || sum < 1 || sum > GREATEST_SUM) {
            return BAD;
        }
        if (now.debts.sumOf(a, b) + sum > GREATEST_SUM) {
            return FULL;
        }
        now.debts.change(a, b, sum);
        return now.debts.sumOf(a, b);
    }

    public long owed(int a, int b) {
        if (!arePair(a, b)) {
            return BAD;
        }
        return now.debts.sumOf(a, b);
    }

    private boolean arePair(int a, int b) {
        return now.trade.isSeller(a) && now.trade.isSeller(b) && a != b;
    }

    public long passed() {
        if (!now.present) {
            return STATE;
        }
        return now.debts.passRound(now.trade.sellers);
    }

    public long image(int k) {
        if (k < 0 || k >= IMAGES) {
            return BAD;
        }
        if (!now.present) {
            return STATE;
        }
        images[k].takeFrom(now);
        imaged[k] = true;
        return 1;
    }

    public long restore(int k) {
        if (k < 0 || k >= IMAGES) {
            return BAD;
        }
        if (!imaged[k]) {
            return STATE;
        }
        now.takeFrom(images[k]);
        return 1;
    }

    // ---- asked

    public long kind(int seller) {
        if (!now.trade.isSeller(seller)) {
            return BAD;
        }
        return asks.kindOf(seller);
    }

    public long as(int seller, int kind) {
        if (!now.trade.isSeller(seller) || kind < 0 || kind > Asks.RUINED) {
            return BAD;
        }
        if (!Asks.isTakenAs(asks.kindOf(seller), kind)) {
            return found(KIND);
        }
        return foundNothing(seller);
    }

    public long ask(int seller, int what) {
        if (!now.trade.isSeller(seller) || !isHalf(what)) {
            return BAD;
        }
        return asks.answer(seller, what);
    }

    public int trace(int i) {
        return asks.traced(i);
    }

    public long count(int what) {
        switch (what) {
            case 0:
                return rows.howMany();
            case 1:
                return now.town.corners;
            case 2:
                return now.town.pairsWithStreet();
            case 3:
                return now.trade.goods;
            case 4:
                return now.trade.sellers;
            case 5:
                return now.trade.watchers;
            case 6:
                return now.town.cellars;
            case 7:
                return now.days.howMany;
            case 8:
                return reader.length();
            default:
                return BAD;
        }
    }

    public int status() {
        return latestFinding;
    }

    // ---- answers

    private long found(int finding) {
        latestFinding = finding;
        return NOT - 10 - finding;
    }

    private long foundNothing(long answer) {
        latestFinding = 0;
        return answer;
    }

    private static long orNone(int distance) {
        return distance < FAR ? distance : NONE;
    }

    private static boolean isHalf(int what) {
        return what == 0 || what == 1;
    }

    private static long half(long above, long below, int what) {
        long divisor = commonDivisor(Math.abs(above), below);
        if (divisor == 0) {
            return 0;
        }
        return (what == 0 ? above : below) / divisor;
    }

    private static long commonDivisor(long a, long b) {
        long high = a;
        long low = b;
        for (int guard = 0; guard < 200 && low != 0; guard++) {
            long left = high % low;
            high = low;
            low = left;
        }
        return high;
    }

    /** Rows of items in three lanes; all places are made at once. */
    private static final class Rows {
        static final int HOW_MANY = 8;
        static final int LANES = 3;
        static final int MOST_ITEMS = 40;
        private static final int MISSING = -1;

        private final int[] lanes = new int[HOW_MANY];
        private final int[] sizes = new int[HOW_MANY];
        private final int[] items = new int[HOW_MANY * MOST_ITEMS];

        Rows() {
            Arrays.fill(lanes, MISSING);
        }

        boolean isRow(int row) {
            return row >= 0 && row < HOW_MANY;
        }

        boolean isMissing(int row) {
            return lanes[row] == MISSING;
        }

        boolean areOfOneLane(int a, int b) {
            return lanes[a] == lanes[b];
        }

        boolean hasPlaces(int row, int from, int n) {
            return from >= 0 && n >= 0 && (long) from + n <= sizes[row];
        }

        void lay(int row, int lane, int n) {
            lanes[row] = lane;
            sizes[row] = n;
            Arrays.fill(items, row * MOST_ITEMS, (row + 1) * MOST_ITEMS, 0);
        }

        int item(int row, int i) {
            return items[row * MOST_ITEMS + i];
        }

        int put(int row, int i, int v) {
            int kept = cutToLane(lanes[row], v);
            items[row * MOST_ITEMS + i] = kept;
            return kept;
        }

        private static int cutToLane(int lane, int v) {
            switch (lane) {
                case 0:
                    return (byte) v;
                case 1:
                    return (short) v;
                default:
                    return v;
            }
        }

        void move(int a, int i, int b, int j, int n) {
            System.arraycopy(items, a * MOST_ITEMS + i, items, b * MOST_ITEMS + j, n);
        }

        int takeAway(int row) {
            lanes[row] = MISSING;
            return sizes[row];
        }

        int howMany() {
            int found = 0;
            for (int row = 0; row < HOW_MANY; row++) {
                if (!isMissing(row)) {
                    found++;
                }
            }
            return found;
        }
    }

    /** The tape and its reading, statement by statement. */
    private static final class Reader {
        static final int MOST_FED = 8;
        private static final int TAPE = 600;
        private static final int MOST_FIGURES = 3;

        private static final int END = 0;
        private static final int NAME = 1;
        private static final int NUMBER = 2;
        private static final int SEMICOLON = 3;
        private static final int NO_TOKEN = 4;

        private static final int NO_WORD = -1;
        private static final int CORNER = 0;
        private static final int STREET = 1;
        private static final int GOODS = 2;
        private static final int SELLER = 3;
        private static final int WATCHER = 4;
        private static final int CELLAR = 5;
        private static final int LAW = 6;
        private static final int WORDS = 7;
        private static final int NUMBERS_A_WORD = 3;

        private static final int MISPLACED = 1;
        private static final int WRONG_NUMBER = 2;
        private static final int NO_ROOM = 3;

        private static final int A_CORNER = -1;
        private static final int A_GOODS = -2;

        private static final int[] ROOM = {
            MOST_CORNERS, 16, MOST_GOODS, MOST_SELLERS, MOST_WATCHERS, MOST_CELLARS, 1};
        private static final int[] NUMBERS = {1, 3, 3, 2, 1, 2, 3};
        private static final int[] LOWEST = {
            0, 0, 0,
            0, 0, 1,
            1, 1, 0,
            0, 0, 0,
            0, 0, 0,
            0, 0, 0,
            0, 0, 1};
        private static final int[] HIGHEST = {
            99, 0, 0,
            A_CORNER, A_CORNER, 20,
            9, 99, 99,
            A_GOODS, A_CORNER, 0,
            A_CORNER, 0, 0,
            A_CORNER, 99, 0,
            20, 30, 9};

        private final byte[] tape = new byte[TAPE];
        private int length = 0;
        private int from;
        private int to;
        private int sort;
        private int number;
        private final int[] told = new int[NUMBERS_A_WORD];
        private final int[] counts = new int[WORDS];

        boolean hasRoomFor(int n) {
            return length + n <= TAPE;
        }

        int append(long w, int n) {
            for (int k = n - 1; k >= 0; k--) {
                tape[length] = (byte) (w >> (8 * k));
                length++;
            }
            return length;
        }

        int length() {
            return length;
        }

        int place() {
            return from;
        }

        void empty() {
            length = 0;
        }

        /** Answers the fault's number, 0 for none; place() tells where. */
        int readInto(Sheet sheet) {
            sheet.clear();
            Arrays.fill(counts, 0);
            to = 0;
            nextToken();
            int last = NO_WORD;
            for (int guard = 0; guard <= TAPE; guard++) {
                if (sort == END && last >= GOODS) {
                    sheet.town.measure();
                    sheet.present = true;
                    return 0;
                }
                int word = sort == NAME ? wordHere() : NO_WORD;
                int found = statement(sheet, last, word);
                if (found != 0) {
                    return found;
                }
                last = word;
            }
            return MISPLACED;
        }

        private int statement(Sheet sheet, int last, int word) {
            if (!mayFollow(last, word)) {
                return MISPLACED;
            }
            if (counts[word] >= ROOM[word]) {
                return NO_ROOM;
            }
            nextToken();
            for (int k = 0; k < NUMBERS[word]; k++) {
                if (sort != NUMBER) {
                    return MISPLACED;
                }
                if (!isAsTold(word, k)) {
                    return WRONG_NUMBER;
                }
                told[k] = number;
                nextToken();
            }
            if (sort != SEMICOLON) {
                return MISPLACED;
            }
            nextToken();
            counts[word]++;
            take(sheet, word);
            return 0;
        }

        private static boolean mayFollow(int last, int word) {
            if (word == NO_WORD || last == LAW) {
                return false;
            }
            if (last == NO_WORD) {
                return word == CORNER;
            }
            return word >= last && (last >= GOODS || word <= GOODS);
        }

        private boolean isAsTold(int word, int k) {
            int high = HIGHEST[word * NUMBERS_A_WORD + k];
            if (high == A_CORNER) {
                high = counts[CORNER] - 1;
            } else if (high == A_GOODS) {
                high = counts[GOODS] - 1;
            }
            boolean toItself = word == STREET && k == 1 && number == told[0];
            return number >= LOWEST[word * NUMBERS_A_WORD + k] && number <= high && !toItself;
        }

        private void take(Sheet sheet, int word) {
            switch (word) {
                case CORNER:
                    sheet.town.addCorner(told[0]);
                    break;
                case STREET:
                    sheet.town.addStreet(told[0], told[1], told[2]);
                    break;
                case GOODS:
                    sheet.trade.addGoods(told[0], told[1], told[2]);
                    break;
                case SELLER:
                    sheet.trade.addSeller(told[0], told[1]);
                    break;
                case WATCHER:
                    sheet.trade.addWatcher(told[0]);
                    break;
                case CELLAR:
                    sheet.town.addCellar(told[0], told[1]);
                    break;
                default:
                    sheet.town.setLaw(told[0], told[1], told[2]);
                    break;
            }
        }

        private void nextToken() {
            int i = to;
            while (i < length && (tape[i] == 32 || tape[i] == 10)) {
                i++;
            }
            from = i;
            to = i + 1;
            if (i >= length) {
                to = i;
                sort = END;
            } else if (isLetter(tape[i])) {
                sort = NAME;
                to = endOfName(i);
            } else if (isFigure(tape[i])) {
                takeNumber(i);
            } else {
                sort = tape[i] == ';' ? SEMICOLON : NO_TOKEN;
            }
        }

        private int endOfName(int start) {
            int i = start;
            while (i < length && isLetter(tape[i])) {
                i++;
            }
            return i;
        }

        private void takeNumber(int start) {
            int i = start;
            number = 0;
            while (i < length && isFigure(tape[i])) {
                // A longer row of figures is no number at all, so its worth does not matter.
                if (i - start < MOST_FIGURES) {
                    number = 10 * number + tape[i] - '0';
                }
                i++;
            }
            to = i;
            sort = i - start <= MOST_FIGURES ? NUMBER : NO_TOKEN;
        }

        private static boolean isLetter(int sign) {
            return sign >= 'a' && sign <= 'z';
        }

        private static boolean isFigure(int sign) {
            return sign >= '0' && sign <= '9';
        }

        private int wordHere() {
            for (int word = 0; word < WORDS; word++) {
                if (spells(spelling(word))) {
                    return word;
                }
            }
            return NO_WORD;
        }

        private boolean spells(String word) {
            if (to - from != word.length()) {
                return false;
            }
            for (int k = 0; k < word.length(); k++) {
                if (tape[from + k] != word.charAt(k)) {
                    return false;
                }
            }
            return true;
        }

        private static String spelling(int word) {
            switch (word) {
                case CORNER:
                    return "corner";
                case STREET:
                    return "street";
                case GOODS:
                    return "goods";
                case SELLER:
                    return "seller";
                case WATCHER:
                    return "watcher";
                case CELLAR:
                    return "cellar";
                default:
                    return "law";
            }
        }
    }

    /** Corners, streets, cellars and the law: what stands still. */
    private static final class Town {
        private int corners;
        private final int[] earns = new int[MOST_CORNERS];
        private final int[] streets = new int[MOST_CORNERS * MOST_CORNERS];
        private final int[] walks = new int[MOST_CORNERS * MOST_CORNERS];
        private final int[] hearings = new int[MOST_CORNERS * MOST_CORNERS];
        private int cellars;
        private final int[] cellarCorner = new int[MOST_CELLARS];
        private final int[] cellarRisk = new int[MOST_CELLARS];
        private int near;
        private int quiet;
        private int pass;

        void clear() {
            corners = 0;
            cellars = 0;
            Arrays.fill(streets, 0);
            setLaw(0, 11, 3);
        }

        void takeFrom(Town other) {
            corners = other.corners;
            cellars = other.cellars;
            setLaw(other.near, other.quiet, other.pass);
            System.arraycopy(other.earns, 0, earns, 0, earns.length);
            System.arraycopy(other.streets, 0, streets, 0, streets.length);
            System.arraycopy(other.walks, 0, walks, 0, walks.length);
            System.arraycopy(other.hearings, 0, hearings, 0, hearings.length);
            System.arraycopy(other.cellarCorner, 0, cellarCorner, 0, cellarCorner.length);
            System.arraycopy(other.cellarRisk, 0, cellarRisk, 0, cellarRisk.length);
        }

        void addCorner(int earnings) {
            earns[corners] = earnings;
            corners++;
        }

        void addStreet(int a, int b, int distance) {
            int known = streetTo(a, b);
            int shorter = known == 0 ? distance : Math.min(known, distance);
            streets[a * MOST_CORNERS + b] = shorter;
            streets[b * MOST_CORNERS + a] = shorter;
        }

        void addCellar(int corner, int risk) {
            cellarCorner[cellars] = corner;
            cellarRisk[cellars] = risk;
            cellars++;
        }

        void setLaw(int nearness, int quietMinutes, int passing) {
            near = nearness;
            quiet = quietMinutes;
            pass = passing;
        }

        boolean isCorner(int corner) {
            return corner >= 0 && corner < corners;
        }

        /** 0, if there is none. */
        int streetTo(int a, int b) {
            return streets[a * MOST_CORNERS + b];
        }

        int walkTo(int a, int b) {
            return walks[a * MOST_CORNERS + b];
        }

        int hearingTo(int a, int b) {
            return hearings[a * MOST_CORNERS + b];
        }

        void measure() {
            for (int a = 0; a < corners; a++) {
                for (int b = 0; b < corners; b++) {
                    int place = a * MOST_CORNERS + b;
                    int street = streets[place];
                    if (a == b) {
                        walks[place] = 0;
                        hearings[place] = 0;
                    } else {
                        walks[place] = street == 0 ? FAR : street;
                        hearings[place] = street == 0 ? FAR : minutesToPass(street);
                    }
                }
            }
            shorten(walks);
            shorten(hearings);
        }

        private int minutesToPass(int distance) {
            return pass < 1 ? FAR : (distance + pass - 1) / pass;
        }

        private void shorten(int[] ways) {
            for (int over = 0; over < corners; over++) {
                for (int a = 0; a < corners; a++) {
                    for (int b = 0; b < corners; b++) {
                        int around = ways[a * MOST_CORNERS + over] + ways[over * MOST_CORNERS + b];
                        if (around < ways[a * MOST_CORNERS + b]) {
                            ways[a * MOST_CORNERS + b] = around;
                        }
                    }
                }
            }
        }

        int pairsWithStreet() {
            int pairs = 0;
            for (int a = 0; a < corners; a++) {
                for (int b = a + 1; b < corners; b++) {
                    if (streetTo(a, b) > 0) {
                        pairs++;
                    }
                }
            }
            return pairs;
        }

        /**
         * The most ways that share no corner are as many as the fewest corners
         * that, shut, part the two (Menger); the street between them is a way by itself.
         */
        int waysApart(int a, int b) {
            int fewest = MOST_CORNERS;
            for (int shut = 0; shut < 1 << corners; shut++) {
                boolean shutsEnds = (shut >> a & 1) == 1 || (shut >> b & 1) == 1;
                if (!shutsEnds && Integer.bitCount(shut) < fewest && parts(a, b, shut)) {
                    fewest = Integer.bitCount(shut);
                }
            }
            return streetTo(a, b) > 0 ? fewest + 1 : fewest;
        }

        private boolean parts(int a, int b, int shut) {
            int reached = 1 << a;
            for (int step = 0; step < corners; step++) {
                reached |= beside(a, b, reached) & ~shut;
            }
            return (reached >> b & 1) == 0;
        }

        private int beside(int a, int b, int reached) {
            int found = 0;
            for (int c = 0; c < corners; c++) {
                for (int d = 0; d < corners; d++) {
                    boolean direct = c == a && d == b;
                    if ((reached >> c & 1) == 1 && !direct && streetTo(c, d) > 0) {
                        found |= 1 << d;
                    }
                }
            }
            return found;
        }
    }

    /** Goods, sellers and watchers, and where these stand. */
    private static final class Trade {
        private int goods;
        private final int[] fold = new int[MOST_GOODS];
        private final int[] worth = new int[MOST_GOODS];
        private final int[] fine = new int[MOST_GOODS];
        private int sellers;
        private final int[] goodsOf = new int[MOST_SELLERS];
        private final int[] cornerOf = new int[MOST_SELLERS];
        private int watchers;
        private final int[] watchOf = new int[MOST_WATCHERS];

        void clear() {
            goods = 0;
            sellers = 0;
            watchers = 0;
        }

        void takeFrom(Trade other) {
            goods = other.goods;
            sellers = other.sellers;
            watchers = other.watchers;
            System.arraycopy(other.fold, 0, fold, 0, fold.length);
            System.arraycopy(other.worth, 0, worth, 0, worth.length);
            System.arraycopy(other.fine, 0, fine, 0, fine.length);
            System.arraycopy(other.goodsOf, 0, goodsOf, 0, goodsOf.length);
            System.arraycopy(other.cornerOf, 0, cornerOf, 0, cornerOf.length);
            System.arraycopy(other.watchOf, 0, watchOf, 0, watchOf.length);
        }

        void addGoods(int folding, int price, int penalty) {
            fold[goods] = folding;
            worth[goods] = price;
            fine[goods] = penalty;
            goods++;
        }

        void addSeller(int sold, int corner) {
            goodsOf[sellers] = sold;
            cornerOf[sellers] = corner;
            sellers++;
        }

        void addWatcher(int corner) {
            watchOf[watchers] = corner;
            watchers++;
        }

        boolean isGoods(int number) {
            return number >= 0 && number < goods;
        }

        boolean isSeller(int number) {
            return number >= 0 && number < sellers;
        }

        boolean isWatcher(int number) {
            return number >= 0 && number < watchers;
        }

        int foldOf(int seller) {
            return fold[goodsOf[seller]];
        }

        int worthOf(int seller) {
            return worth[goodsOf[seller]];
        }

        int fineOf(int seller) {
            return fine[goodsOf[seller]];
        }

        int lossOf(int seller) {
            return worth[goodsOf[seller]] + fine[goodsOf[seller]];
        }
    }

    /**
     * The latest raid. What it did is settled when it walks: sellers and
     * watchers who move later change nothing of it.
     */
    private static final class Raid {
        static final int STANDS = 0;
        static final int FLED = 1;
        static final int CAUGHT = 2;
        private static final int NO_WATCHER = -1;

        /** 0: there was no raid. */
        private int sides;
        private boolean kept;
        private final int[] comes = new int[MOST_CORNERS];
        private final int[] warned = new int[MOST_SELLERS];
        private final int[] met = new int[MOST_SELLERS];
        private final int[] outcome = new int[MOST_SELLERS];
        private final int[] spared = new int[MOST_WATCHERS * MOST_SELLERS];

        void begin(int howMany) {
            sides = howMany;
            kept = false;
            Arrays.fill(comes, FAR);
            Arrays.fill(spared, 0);
        }

        void takeFrom(Raid other) {
            sides = other.sides;
            kept = other.kept;
            System.arraycopy(other.comes, 0, comes, 0, comes.length);
            System.arraycopy(other.warned, 0, warned, 0, warned.length);
            System.arraycopy(other.met, 0, met, 0, met.length);
            System.arraycopy(other.outcome, 0, outcome, 0, outcome.length);
            System.arraycopy(other.spared, 0, spared, 0, spared.length);
        }

        void comesTo(int corner, int minute) {
            comes[corner] = Math.min(comes[corner], minute);
        }

        boolean cameTo(int corner) {
            return comes[corner] < FAR;
        }

        void judge(Town town, Trade trade) {
            for (int s = 0; s < trade.sellers; s++) {
                warned[s] = warning(town, trade, s, NO_WATCHER);
                met[s] = comes[trade.cornerOf[s]];
                outcome[s] = outcomeOf(met[s], warned[s], trade.foldOf(s));
                for (int w = 0; w < trade.watchers; w++) {
                    spared[w * MOST_SELLERS + s] = sparedBy(town, trade, w, s);
                }
            }
        }

        private int sparedBy(Town town, Trade trade, int watcher, int seller) {
            int without = warning(town, trade, seller, watcher);
            int then = outcomeOf(met[seller], without, trade.foldOf(seller));
            return lostIf(then, trade, seller) - lostIf(outcome[seller], trade, seller);
        }

        private static int lostIf(int outcome, Trade trade, int seller) {
            return outcome == CAUGHT ? trade.lossOf(seller) : 0;
        }

        private int warning(Town town, Trade trade, int seller, int without) {
            int first = FAR;
            for (int w = 0; w < trade.watchers; w++) {
                if (w != without) {
                    int from = trade.watchOf[w];
                    int minute = comes[from] + town.hearingTo(from, trade.cornerOf[seller]);
                    first = Math.min(first, minute);
                }
            }
            return first;
        }

        private static int outcomeOf(int met, int warned, int fold) {
            boolean isWarned = warned < FAR;
            if (met < FAR && (!isWarned || met < warned + fold)) {
                return CAUGHT;
            }
            return isWarned ? FLED : STANDS;
        }

        int caughtBits(int sellers) {
            int bits = 0;
            for (int s = 0; s < sellers; s++) {
                if (outcome[s] == CAUGHT) {
                    bits |= 1 << s;
                }
            }
            return bits;
        }
    }

    /** Days that were kept; only their sums are ever asked for. */
    private static final class Days {
        private int howMany;
        private final int[] came = new int[MOST_CORNERS];
        private final int[] spared = new int[MOST_WATCHERS * MOST_SELLERS];

        void clear() {
            howMany = 0;
            Arrays.fill(came, 0);
            Arrays.fill(spared, 0);
        }

        void takeFrom(Days other) {
            howMany = other.howMany;
            System.arraycopy(other.came, 0, came, 0, came.length);
            System.arraycopy(other.spared, 0, spared, 0, spared.length);
        }

        void add(Raid raid) {
            howMany++;
            for (int c = 0; c < MOST_CORNERS; c++) {
                if (raid.cameTo(c)) {
                    came[c]++;
                }
            }
            for (int k = 0; k < spared.length; k++) {
                spared[k] += raid.spared[k];
            }
        }

        int fearedAbove(int corner) {
            return came[corner] + 1;
        }

        int fearedBelow() {
            return howMany + 2;
        }

        int savedBy(int watcher, int seller) {
            return spared[watcher * MOST_SELLERS + seller];
        }
    }

    /** What sellers owe one another. */
    private static final class Debts {
        private static final int SUMS = MOST_SELLERS * MOST_SELLERS;

        private final int[] sums = new int[SUMS];
        private final int[] ring = new int[MOST_SELLERS];

        void clear() {
            Arrays.fill(sums, 0);
        }

        void takeFrom(Debts other) {
            System.arraycopy(other.sums, 0, sums, 0, sums.length);
        }

        int sumOf(int a, int b) {
            return sums[a * MOST_SELLERS + b];
        }

        void change(int a, int b, int by) {
            sums[a * MOST_SELLERS + b] += by;
        }

        int passRound(int sellers) {
            int taken = 0;
            // Each ring ends at least one sum, so there are never more rings than sums.
            while (taken < SUMS) {
                int length = firstRing(sellers);
                if (length == 0) {
                    break;
                }
                lessen(length);
                taken++;
            }
            return taken;
        }

        /** Leaves the ring in its row; 0, if there is none. */
        private int firstRing(int sellers) {
            for (int length = 2; length <= sellers; length++) {
                for (int least = 0; least < sellers; least++) {
                    ring[0] = least;
                    if (closes(sellers, length, 1)) {
                        return length;
                    }
                }
            }
            return 0;
        }

        private boolean closes(int sellers, int length, int depth) {
            if (depth < 1 || depth > length || length > MOST_SELLERS) {
                return false;
            }
            int last = ring[depth - 1];
            if (depth == length) {
                return sumOf(last, ring[0]) > 0;
            }
            for (int next = ring[0] + 1; next < sellers; next++) {
                if (sumOf(last, next) > 0 && !isInRing(next, depth)) {
                    ring[depth] = next;
                    if (closes(sellers, length, depth + 1)) {
                        return true;
                    }
                }
            }
            return false;
        }

        private boolean isInRing(int seller, int depth) {
            for (int k = 0; k < depth; k++) {
                if (ring[k] == seller) {
                    return true;
                }
            }
            return false;
        }

        private void lessen(int length) {
            int least = GREATEST_SUM;
            for (int k = 0; k < length; k++) {
                least = Math.min(least, sumOf(ring[k], nextInRing(k, length)));
            }
            for (int k = 0; k < length; k++) {
                change(ring[k], nextInRing(k, length), -least);
            }
        }

        private int nextInRing(int k, int length) {
            return k + 1 < length ? ring[k + 1] : ring[0];
        }
    }

    /** All that an image keeps. */
    private static final class Sheet {
        private boolean present = false;
        private final Town town = new Town();
        private final Trade trade = new Trade();
        private final Raid latest = new Raid();
        private final Days days = new Days();
        private final Debts debts = new Debts();

        void clear() {
            present = false;
            town.clear();
            trade.clear();
            latest.begin(0);
            days.clear();
            debts.clear();
        }

        void takeFrom(Sheet other) {
            present = other.present;
            town.takeFrom(other.town);
            trade.takeFrom(other.trade);
            latest.takeFrom(other.latest);
            days.takeFrom(other.days);
            debts.takeFrom(other.debts);
        }

        int minutesGone(int seller) {
            return trade.foldOf(seller) + town.quiet;
        }
    }

    /**
     * Scores and the law, for sellers where they stand; and a search of all ways to
     * stand, whose own rows leave the sellers in their places and keep it short.
     */
    private static final class Stands {
        static final int NOBODY = -1;
        private static final int MOST_ROUNDS = 40;
        private static final int CROWDS = MOST_SELLERS + 1;

        private final Town town;
        private final Trade trade;
        private final Days days;
        private final int[] where = new int[MOST_SELLERS];
        private final int[] crowd = new int[MOST_GOODS * MOST_CORNERS];
        private final int[] scores = new int[MOST_SELLERS * MOST_CORNERS * CROWDS];
        private int sought;
        private int seen;
        private int answer;

        Stands(Sheet sheet) {
            town = sheet.town;
            trade = sheet.trade;
            days = sheet.days;
        }

        int scoreAt(int seller, int corner) {
            int alike = 1;
            for (int s = 0; s < trade.sellers; s++) {
                if (s != seller && trade.goodsOf[s] == trade.goodsOf[seller]
                        && trade.cornerOf[s] == corner) {
                    alike++;
                }
            }
            return scoreAmong(seller, corner, alike);
        }

        int scoreAmong(int seller, int corner, int alike) {
            int earned = alike < 1 ? 0 : 60 * town.earns[corner] / alike;
            int feared = 10 * trade.lossOf(seller) * days.fearedAbove(corner);
            int below = days.fearedBelow();
            return below < 1 ? earned : earned - feared / below;
        }

        boolean isLawful(int goods, int but, int corner) {
            for (int s = 0; s < trade.sellers; s++) {
                if (s != but && trade.goodsOf[s] == goods
                        && town.walkTo(trade.cornerOf[s], corner) < town.near) {
                    return false;
                }
            }
            return true;
        }

        int lawfulCorners(int goods, int but) {
            int bits = 0;
            for (int c = 0; c < town.corners; c++) {
                if (isLawful(goods, but, c)) {
                    bits |= 1 << c;
                }
            }
            return bits;
        }

        boolean allAtRest() {
            for (int s = 0; s < trade.sellers; s++) {
                if (bestCorner(s) != trade.cornerOf[s]) {
                    return false;
                }
            }
            return true;
        }

        int moveTillRest() {
            for (int round = 0; round < MOST_ROUNDS; round++) {
                if (!moveOnce()) {
                    return round;
                }
            }
            return NONE;
        }

        private boolean moveOnce() {
            boolean moved = false;
            for (int s = 0; s < trade.sellers; s++) {
                int best = bestCorner(s);
                if (best != trade.cornerOf[s]) {
                    trade.cornerOf[s] = best;
                    moved = true;
                }
            }
            return moved;
        }

        /** Its own corner, lawful or not, unless a lawful one has a greater score. */
        private int bestCorner(int seller) {
            int best = trade.cornerOf[seller];
            int most = scoreAt(seller, best);
            for (int c = 0; c < town.corners; c++) {
                int score = scoreAt(seller, c);
                if (score > most && isLawful(trade.goodsOf[seller], seller, c)) {
                    best = c;
                    most = score;
                }
            }
            return best;
        }

        /** How many (wanted is -1), or the number of the wanted one, or NONE. */
        int findRest(int wanted) {
            sought = wanted;
            seen = 0;
            answer = NONE;
            Arrays.fill(crowd, 0);
            fillScores();
            place(trade.sellers - 1);
            return wanted == -1 ? seen : answer;
        }

        private void fillScores() {
            for (int s = 0; s < trade.sellers; s++) {
                for (int c = 0; c < town.corners; c++) {
                    for (int alike = 1; alike < CROWDS; alike++) {
                        scores[(s * MOST_CORNERS + c) * CROWDS + alike] =
                            scoreAmong(s, c, alike);
                    }
                }
            }
        }

        // From the last seller down, since the last one weighs most in the number.
        private void place(int seller) {
            if (seller < 0) {
                noteIfAtRest();
                return;
            }
            if (seller >= MOST_SELLERS) {
                return;
            }
            for (int c = 0; c < town.corners && answer == NONE; c++) {
                if (isClear(seller, c, seller + 1)) {
                    int crowded = trade.goodsOf[seller] * MOST_CORNERS + c;
                    where[seller] = c;
                    crowd[crowded]++;
                    place(seller - 1);
                    crowd[crowded]--;
                }
            }
        }

        /** The law among the searched places, for others from a number on. */
        private boolean isClear(int seller, int corner, int firstOther) {
            for (int s = firstOther; s < trade.sellers; s++) {
                if (s != seller && trade.goodsOf[s] == trade.goodsOf[seller]
                        && town.walkTo(where[s], corner) < town.near) {
                    return false;
                }
            }
            return true;
        }

        private void noteIfAtRest() {
            for (int s = 0; s < trade.sellers; s++) {
                if (wantsToMove(s)) {
                    return;
                }
            }
            if (seen == sought) {
                answer = numberOfWay();
            }
            seen++;
        }

        private boolean wantsToMove(int seller) {
            int own = where[seller];
            int has = searchedScore(seller, own, 0);
            for (int c = 0; c < town.corners; c++) {
                if (c != own && searchedScore(seller, c, 1) > has && isClear(seller, c, 0)) {
                    return true;
                }
            }
            return false;
        }

        private int searchedScore(int seller, int corner, int more) {
            int alike = crowd[trade.goodsOf[seller] * MOST_CORNERS + corner] + more;
            return scores[(seller * MOST_CORNERS + corner) * CROWDS + alike];
        }

        private int numberOfWay() {
            int number = 0;
            for (int s = trade.sellers - 1; s >= 0; s--) {
                number = 7 * number + where[s];
            }
            return number;
        }
    }

    /** Shares of a pay, storage in cellars, mixed rounds; fractions are left in two fields. */
    private static final class Reckoner {
        private static final int[] FACTORIALS = {1, 1, 2, 6, 24, 120};

        private final Town town;
        private final Trade trade;
        private final Days days;
        private final int[] leastLeft = new int[1 << MOST_CELLARS];
        private long above;
        private long below;

        Reckoner(Sheet sheet) {
            town = sheet.town;
            trade = sheet.trade;
            days = sheet.days;
        }

        void share(int watcher, int pay, int seller) {
            int sellers = trade.sellers;
            long part = 0;
            for (int ahead = 0; ahead < 1 << sellers; ahead++) {
                if ((ahead >> seller & 1) == 0) {
                    int size = Integer.bitCount(ahead);
                    long orders = FACTORIALS[size] * FACTORIALS[sellers - 1 - size];
                    int adds = gain(watcher, pay, ahead | 1 << seller) - gain(watcher, pay, ahead);
                    part += orders * adds;
                }
            }
            below = FACTORIALS[sellers];
            above = days.savedBy(watcher, seller) * below - part;
        }

        private int gain(int watcher, int pay, int members) {
            int sum = -pay;
            for (int s = 0; s < trade.sellers; s++) {
                if ((members >> s & 1) == 1) {
                    sum += days.savedBy(watcher, s);
                }
            }
            return Math.max(sum, 0);
        }

        /** FAR, if not all can be stored. For each set of cellars taken, sellers have come by numbers. */
        int leastStorage() {
            for (int taken = (1 << town.cellars) - 1; taken >= 0; taken--) {
                leastLeft[taken] = leastFrom(taken);
            }
            return leastLeft[0];
        }

        private int leastFrom(int taken) {
            int seller = Integer.bitCount(taken);
            if (seller >= trade.sellers) {
                return 0;
            }
            int least = FAR;
            for (int k = 0; k < town.cellars; k++) {
                if ((taken >> k & 1) == 0) {
                    least = Math.min(least, costWith(seller, k, taken));
                }
            }
            return least;
        }

        private int costWith(int seller, int cellar, int taken) {
            int walk = town.walkTo(trade.cornerOf[seller], town.cellarCorner[cellar]);
            if (walk >= FAR) {
                return FAR;
            }
            int risk = town.cellarRisk[cellar] * trade.worthOf(seller) / 10;
            return 2 * walk + risk + leastLeft[taken | 1 << cellar];
        }

        /** Stands behind leastStorage(), whose sums it follows. */
        int cellarFor(int seller) {
            int taken = 0;
            int chosen = NONE;
            for (int s = 0; s <= seller; s++) {
                chosen = firstOfLeast(s, taken);
                if (chosen < 0) {
                    return NONE;
                }
                taken |= 1 << chosen;
            }
            return chosen;
        }

        private int firstOfLeast(int seller, int taken) {
            for (int k = 0; k < town.cellars; k++) {
                if ((taken >> k & 1) == 0 && costWith(seller, k, taken) == leastLeft[taken]) {
                    return k;
                }
            }
            return NONE;
        }

        /**
         * The value: corners join from the one that earns most on, as long as they
         * earn more than the value of those that have joined. All fit in a long:
         * seven factors up to 198.
         */
        void mixRounds(int fine) {
            long product = 1;
            long earned = 0;
            below = 0;
            above = 0;
            int joined = 0;
            for (int k = 0; k < town.corners; k++) {
                int corner = bestWithout(joined);
                if (corner < 0) {
                    break;
                }
                int earns = town.earns[corner];
                if (k > 0 && earns * below <= above) {
                    break;
                }
                joined |= 1 << corner;
                int stake = earns + fine;
                earned = earned * stake + earns * product;
                below = below * stake + product;
                product = product * stake;
                above = earned - product;
            }
        }

        private int bestWithout(int joined) {
            int best = NONE;
            for (int c = 0; c < town.corners; c++) {
                if ((joined >> c & 1) == 0 && (best < 0 || town.earns[c] > town.earns[best])) {
                    best = c;
                }
            }
            return best;
        }

        /** Stands behind mixRounds(), whose value it takes. */
        void oddsFromValue(int fine, int corner) {
            int earns = town.earns[corner];
            above = Math.max(earns * below - above, 0);
            below = below * (earns + fine);
        }
    }

    /** The kinds of sellers, and the bodies that answer for them. */
    private static final class Asks {
        static final int SELLER = 0;
        static final int FREE = 1;
        static final int FLED = 2;
        static final int CAUGHT = 3;
        static final int RUINED = 4;

        private static final int TRACED = 16;
        // The longest row of bodies that begin within one another has five.
        private static final int DEEPEST = 16;

        private static final int[] SIZE_BODIES = {10, 11, 12, 13, 14};
        private static final int[] MARK_BODIES = {20, 21, 23, 22, 22};

        private final Sheet sheet;
        private final int[] begun = new int[TRACED];
        private int length = 0;

        Asks(Sheet asked) {
            sheet = asked;
        }

        int kindOf(int seller) {
            if (sheet.latest.sides == 0 || sheet.latest.outcome[seller] == Raid.STANDS) {
                return FREE;
            }
            if (sheet.latest.outcome[seller] == Raid.FLED) {
                return FLED;
            }
            int earns = sheet.town.earns[sheet.trade.cornerOf[seller]];
            return sheet.trade.lossOf(seller) > 60 * earns ? RUINED : CAUGHT;
        }

        static boolean isTakenAs(int kind, int other) {
            switch (other) {
                case SELLER:
                    return true;
                case FREE:
                    return kind == FREE || kind == FLED;
                case CAUGHT:
                    return kind == CAUGHT || kind == RUINED;
                default:
                    return kind == other;
            }
        }

        int answer(int seller, int what) {
            length = 0;
            int kind = kindOf(seller);
            return body(what == 0 ? SIZE_BODIES[kind] : MARK_BODIES[kind], seller, 0);
        }

        private int body(int number, int seller, int depth) {
            if (depth > DEEPEST) {
                return 0;
            }
            begins(number);
            int deeper = depth + 1;
            switch (number) {
                case 10:
                    return sheet.trade.worthOf(seller);
                case 11:
                    return body(10, seller, deeper) + body(MARK_BODIES[kindOf(seller)], seller, deeper);
                case 12:
                    return body(11, seller, deeper) - sheet.minutesGone(seller);
                case 13:
                    return -body(10, seller, deeper) - sheet.trade.fineOf(seller);
                case 14:
                    return 2 * body(13, seller, deeper);
                case 20:
                    return seller;
                case 21:
                    return body(20, seller, deeper) + 10 * sheet.trade.cornerOf[seller];
                case 22:
                    return body(20, seller, deeper) - body(SIZE_BODIES[kindOf(seller)], seller, deeper);
                case 23:
                    return body(21, seller, deeper) + 500;
                default:
                    return 0;
            }
        }

        private void begins(int number) {
            if (length < TRACED) {
                begun[length] = number;
                length++;
            }
        }

        int traced(int i) {
            return i >= 0 && i < length ? begun[i] : NONE;
        }
    }
}
