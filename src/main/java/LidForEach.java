import java.util.Arrays;

/** A cupboard of boxes and lids: which fits which, and all that can be asked of them. */
public final class LidForEach {
    public static final int NONE = -1, BAD = -2, NO = -3, FULL = -4;

    // Told in the stead of BAD where -2 could be taken for something else, and where a place is behind the last.
    private static final int BAD_TOLD_APART = -10, NOT_SO_MANY = -5;
    private static final int FAULT_FROM = -10, REFUSED_FROM = -1000;

    private static final int BOX_ROOM = 7, LID_ROOM = 7, SORT_ROOM = 4, TALE_ROOM = 8, HINT_ROOM = 8;
    private static final int UNDO_ROOM = 12, TEXT_ROOM = 150, NUMBERS_OF_AN_ITEM = 4;
    private static final int BOX_SETS = 1 << BOX_ROOM, LID_SETS = 1 << LID_ROOM;

    private static final int FORM = 0, SIZE = 1, HOLDS = 2, GRASPS = 3, LID_ON = 4;
    private static final int KIND = 0, KIND_FORM = 1, KIND_SIZE = 2, CHANCE = 3, PRICE = 3;
    private static final int FIRST = 0, SECOND = 1, THIRD = 2;

    private static final int ROUND = 0, SQUARE_FORM = 2;
    private static final int PLAIN = 0, WIDE = 1, SOFT = 2, WARPED = 3, SQUARE = 4, ALL = 5;
    private static final int SURE = 10, MUCH_FOR_WARPED = 9;

    private static final int ABOVE_ALL = 1 << 30;

    // A purchase is one number, so that the least one is cheapest and then has fewest of the first sorts:
    // the price stands above three bits for each sort, the first sort's highest.
    private static final int SORT_BITS = 3, PRICE_SHIFT = SORT_BITS * SORT_ROOM, SORT_MASK = (1 << SORT_BITS) - 1;
    // Above every purchase, and seven of these are an int yet.
    private static final int NOT_FOR_SALE = 1 << 26;

    private static final int BOX_WORD = 0, LID_WORD = 1, ON_WORD = 2, GRASP_WORD = 3, SORT_WORD = 4, WORDS = 5;
    private static final int WORD_TOKEN = 0, NUMBER_TOKEN = 1, STOP_TOKEN = 2, END_TOKEN = 3, WRONG_TOKEN = 4;

    private final Cupboard now = new Cupboard();
    private final Cupboard draft = new Cupboard();
    private final Cupboard firstImage = new Cupboard();
    private final Cupboard secondImage = new Cupboard();
    private final Text text = new Text();
    private final Pairs pairs = new Pairs();
    private final Crowds crowds = new Crowds();
    private final Ranking ranking = new Ranking();
    private final Foods foods = new Foods();
    private final Fraction fraction = new Fraction();
    private int keptImages;
    private int badCalls;
    private int noCalls;
    private int fullCalls;

    public LidForEach() {
    }

    // ---- a cupboard

    public int box(int form, int size, int holds) {
        return told(now.addBox(form, size, holds));
    }

    public int lid(int kind, int form, int size) {
        return told(now.addLid(kind, form, size));
    }

    public int put(int lid, int box) {
        return told(now.putOn(lid, box));
    }

    public int off(int lid) {
        return told(now.takeOff(lid));
    }

    public int undo() {
        return told(now.stepBack());
    }

    public int on(int box) {
        return now.boxes.contains(box) ? now.boxes.at(box, LID_ON) : badToldApart();
    }

    public int grasp(int box, int n) {
        return told(now.changeGrasps(box, n));
    }

    public int sort(int kind, int form, int size, int price) {
        return told(now.addSort(kind, form, size, price));
    }

    public int eye(int lid, int c) {
        return told(now.changeChance(lid, c));
    }

    public int type(int c) {
        return told(text.append(c));
    }

    public int clear() {
        return text.drop();
    }

    public int read() {
        int refused = NONE;
        int items = 0;
        draft.empty();
        text.rewind();
        for (text.advance(); !text.isAtEnd() && items < TEXT_ROOM; text.advance()) {
            if (!text.takeItem()) {
                return FAULT_FROM - text.place();
            }
            // A fault further on goes ahead of a refused item, so the text is read to its end.
            if (refused == NONE && tellItem(draft) < 0) {
                refused = items;
            }
            items++;
        }
        if (refused != NONE) {
            return REFUSED_FROM - refused;
        }
        now.become(draft);
        return items;
    }

    // ---- fits

    public int fits(int box) {
        return now.boxes.contains(box) ? now.lidsFor(box) : told(BAD);
    }

    public int most(int box) {
        if (box != NONE && !now.boxes.contains(box)) {
            return badToldApart();
        }
        pairLids(false);
        return box == NONE ? pairs.bestWithout(0) : pairs.partner(box);
    }

    public int lacking() {
        crowds.lookAt(now);
        return crowds.shortest();
    }

    public int soup(int amount, int what) {
        if (!within(amount, 0, 99) || !within(what, 0, 1)) {
            return badToldApart();
        }
        crowds.lookAt(now);
        int set = crowds.leastFor(now, amount);
        if (set == NONE || what == 1) {
            return set;
        }
        return now.sumOver(set, SIZE);
    }

    public int much() {
        pairLids(true);
        return pairs.bestWithout(0);
    }

    public int worth(int lid) {
        if (!now.lids.contains(lid)) {
            return told(BAD);
        }
        pairLids(true);
        return pairs.bestWithout(0) - pairs.bestWithout(1 << lid);
    }

    public int spare() {
        pairLids(false);
        int spared = 0;
        for (int lid = 0; lid < now.lids.size(); lid++) {
            if (pairs.bestWithout(1 << lid) == pairs.bestWithout(0)) {
                spared |= 1 << lid;
            }
        }
        return spared;
    }

    // ---- piles, shelves, shops

    public int piles(int box) {
        if (box != NONE && !now.boxes.contains(box)) {
            return badToldApart();
        }
        int boxes = now.boxes.size();
        pairs.begin(boxes);
        for (int inner = 0; inner < boxes; inner++) {
            pairs.addRow(now.boxesAround(inner), 1);
        }
        pairs.solve();
        return box == NONE ? boxes - pairs.bestWithout(0) : pairs.partner(box);
    }

    public int shelf(int place) {
        if (place < NONE) {
            return badToldApart();
        }
        int boxes = now.boxes.size();
        if (place >= boxes) {
            return NOT_SO_MANY;
        }
        ranking.begin();
        for (int box = 0; box < boxes; box++) {
            ranking.add(now.boxes.at(box, GRASPS));
        }
        return place == NONE ? shelfCost(boxes) : ranking.itemAt(place);
    }

    public int buy(int sort) {
        if (sort != NONE && !now.sorts.contains(sort)) {
            return badToldApart();
        }
        int purchase = leastPurchase();
        if (purchase >= NOT_FOR_SALE) {
            return NONE;
        }
        return sort == NONE ? purchase >> PRICE_SHIFT : purchase >> sortShift(sort) & SORT_MASK;
    }

    // ---- tries

    public int tries(int i) {
        if (i < NONE) {
            return badToldApart();
        }
        if (i >= now.lids.size()) {
            return NOT_SO_MANY;
        }
        rankTries();
        if (i != NONE) {
            return ranking.itemAt(i);
        }
        meanOfTries();
        return 1;
    }

    public int nuts(int n, int what) {
        if (!within(n, 1, 6) || !within(what, 0, 2)) {
            return told(BAD);
        }
        if (what == 1) {
            return n * (n - 1) / 2;
        }
        int ways = factorial(n);
        if (what == 0) {
            return ways;
        }
        meanOfNuts(n, ways);
        return 1;
    }

    // ---- lent, labels

    public int lend(int a, int lid, int b) {
        return told(now.addTale(a, lid, b));
    }

    public int has(int lid) {
        return now.lids.contains(lid) ? now.holderAfter(now.tales.size(), lid) : told(BAD);
    }

    public int wrong() {
        return now.firstWrongTale();
    }

    public int hint(int sort, int f, int b) {
        return told(now.addHint(sort, f, b));
    }

    public int forget(int what) {
        switch (what) {
            case 0:
                return now.tales.drop();
            case 1:
                return now.hints.drop();
            case 2:
                return now.sorts.drop();
            default:
                return told(BAD);
        }
    }

    public int labels(int f, int what) {
        boolean asTold = what == 1 ? now.boxes.contains(f) : f == 0 && (what == 0 || what == 2);
        if (!asTold) {
            return badToldApart();
        }
        foods.lookAt(now);
        switch (what) {
            case 0:
                return foods.allWays();
            case 1:
                return foods.boxesOf(f);
            default:
                return foods.boxToOpen();
        }
    }

    public int evening(int n, int seed) {
        if (!within(n, 0, 60) || !within(seed, 0, 999999)) {
            return told(BAD);
        }
        return told(now.openAfter(n, seed));
    }

    // ---- what there is

    public long part(int what) {
        switch (what) {
            case 0:
                return fraction.above;
            case 1:
                return fraction.below;
            default:
                return told(BAD);
        }
    }

    public int image(int i) {
        if (!within(i, 0, 1)) {
            return told(BAD);
        }
        imageAt(i).become(now);
        keptImages |= 1 << i;
        return 1;
    }

    public int from(int i) {
        if (!within(i, 0, 1)) {
            return told(BAD);
        }
        if ((keptImages >> i & 1) == 0) {
            return told(NO);
        }
        now.become(imageAt(i));
        return 1;
    }

    public int status(int what) {
        switch (what) {
            case 0:
                return badCalls;
            case 1:
                return noCalls;
            case 2:
                return fullCalls;
            default:
                told(BAD);
                return -1;
        }
    }

    public int count(int what) {
        return told(howMany(what));
    }

    public long digest() {
        long h = 857;
        for (int what = 0; what <= 7; what++) {
            h = 31 * h + howMany(what);
        }
        h = now.boxes.mixedInto(h);
        h = now.lids.mixedInto(h);
        h = now.sorts.mixedInto(h);
        h = now.tales.mixedInto(h);
        h = now.hints.mixedInto(h);
        h = 31 * h + fraction.above;
        return 31 * h + fraction.below;
    }

    // ---- helpers of the calls

    private int told(int answer) {
        switch (answer) {
            case BAD:
                badCalls++;
                break;
            case NO:
                noCalls++;
                break;
            case FULL:
                fullCalls++;
                break;
            default:
                break;
        }
        return answer;
    }

    private int badToldApart() {
        told(BAD);
        return BAD_TOLD_APART;
    }

    private static boolean within(int number, int least, int greatest) {
        return least <= number && number <= greatest;
    }

    private int howMany(int what) {
        switch (what) {
            case 0:
                return now.boxes.size();
            case 1:
                return now.lids.size();
            case 2:
                return now.lidsInUse();
            case 3:
                return now.sorts.size();
            case 4:
                return now.tales.size();
            case 5:
                return now.hints.size();
            case 6:
                return now.undos.size();
            case 7:
                return text.size();
            default:
                return BAD;
        }
    }

    private Cupboard imageAt(int i) {
        return i == 0 ? firstImage : secondImage;
    }

    private int tellItem(Cupboard cupboard) {
        int a = text.numberAt(0);
        int b = text.numberAt(1);
        int c = text.numberAt(2);
        switch (text.word()) {
            case BOX_WORD:
                return cupboard.addBox(a, b, c);
            case LID_WORD:
                return cupboard.addLid(a, b, c);
            case ON_WORD:
                return cupboard.putOn(a, b);
            case GRASP_WORD:
                return cupboard.changeGrasps(a, b);
            case SORT_WORD:
                return cupboard.addSort(a, b, c, text.numberAt(3));
            default:
                return BAD;
        }
    }

    private void pairLids(boolean byWhatTheyHold) {
        pairs.begin(now.lids.size());
        for (int box = 0; box < now.boxes.size(); box++) {
            pairs.addRow(now.lidsFor(box), byWhatTheyHold ? now.boxes.at(box, HOLDS) : 1);
        }
        pairs.solve();
    }

    private int shelfCost(int boxes) {
        int cost = 0;
        for (int place = 0; place < boxes; place++) {
            cost += now.boxes.at(ranking.itemAt(place), GRASPS) * (place + 1);
        }
        return cost;
    }

    // What is saved by the lids there are is most, so what is bought for the other boxes is least.
    private int leastPurchase() {
        int forAll = 0;
        pairs.begin(now.lids.size());
        for (int box = 0; box < now.boxes.size(); box++) {
            int purchase = now.purchaseFor(box);
            forAll += purchase;
            pairs.addRow(now.lidsFor(box), purchase);
        }
        pairs.solve();
        return forAll - pairs.bestWithout(0);
    }

    private static int sortShift(int sort) {
        return within(sort, 0, SORT_ROOM - 1) ? SORT_BITS * (SORT_ROOM - 1 - sort) : 0;
    }

    // Behind a lid that fits for sure no other is tried: there every order is as good, and the first is due.
    private void rankTries() {
        int sure = now.firstSureLid();
        ranking.begin();
        for (int lid = 0; lid < now.lids.size(); lid++) {
            int chance = now.lids.at(lid, CHANCE);
            ranking.add(sure == NONE ? chance : lid == sure ? 1 : 0);
        }
    }

    private void meanOfTries() {
        long above = 0;
        long below = 1;
        long reached = 1;
        for (int place = 0; place < now.lids.size(); place++) {
            if (place > 0) {
                below *= SURE;
            }
            above = above * SURE + reached;
            reached *= SURE - now.lids.at(ranking.itemAt(place), CHANCE);
        }
        fraction.become(above, below);
    }

    private void meanOfNuts(int n, int ways) {
        long above = 0;
        for (int free = 1; free <= n; free++) {
            // Each free bolt fits equally often, and the last one takes no try more than the one ahead of it:
            // 1 + 2 + .. + (free - 1) + (free - 1).
            above += (free - 1) * (free + 2) / 2 * (ways / free);
        }
        fraction.become(above, ways);
    }

    private static int factorial(int n) {
        int product = 1;
        for (int i = 2; i <= n; i++) {
            product *= i;
        }
        return product;
    }

    /** Rows of numbers, all as wide, as they come. */
    private static final class Table {
        private final int width;
        private final int room;
        private final int[] cells;
        private int rows;

        Table(int width, int room) {
            this.width = Math.max(0, width);
            this.room = Math.max(0, room);
            cells = new int[this.width * this.room];
        }

        int size() {
            return rows;
        }

        boolean contains(int row) {
            return 0 <= row && row < rows;
        }

        private boolean isCell(int row, int column) {
            return 0 <= row && row < rows && 0 <= column && column < width;
        }

        int at(int row, int column) {
            return isCell(row, column) ? cells[row * width + column] : 0;
        }

        void change(int row, int column, int number) {
            if (isCell(row, column)) {
                cells[row * width + column] = number;
            }
        }

        /** The new row's number, or FULL; every row has three numbers at least. */
        int add(int first, int second, int third) {
            if (rows >= room) {
                return FULL;
            }
            int row = rows++;
            change(row, FIRST, first);
            change(row, SECOND, second);
            change(row, THIRD, third);
            return row;
        }

        void dropLast() {
            if (rows > 0) {
                rows--;
            }
        }

        void dropFirst() {
            if (rows > 0) {
                rows--;
                System.arraycopy(cells, width, cells, 0, rows * width);
            }
        }

        int drop() {
            int had = rows;
            rows = 0;
            return had;
        }

        void become(Table other) {
            if (cells.length == other.cells.length) {
                System.arraycopy(other.cells, 0, cells, 0, cells.length);
                rows = other.rows;
            }
        }

        long mixedInto(long h) {
            for (int row = 0; row < rows; row++) {
                for (int column = 0; column < width; column++) {
                    h = 31 * h + at(row, column);
                }
            }
            return h;
        }
    }

    /** All that an image keeps. */
    private static final class Cupboard {
        private final Table boxes = new Table(5, BOX_ROOM);
        private final Table lids = new Table(4, LID_ROOM);
        private final Table sorts = new Table(4, SORT_ROOM);
        private final Table tales = new Table(3, TALE_ROOM);
        private final Table hints = new Table(3, HINT_ROOM);
        // A lid, its box, and 1 if it was put on, 0 if it was taken off.
        private final Table undos = new Table(3, UNDO_ROOM);

        void empty() {
            boxes.drop();
            lids.drop();
            sorts.drop();
            tales.drop();
            hints.drop();
            undos.drop();
        }

        void become(Cupboard other) {
            boxes.become(other.boxes);
            lids.become(other.lids);
            sorts.become(other.sorts);
            tales.become(other.tales);
            hints.become(other.hints);
            undos.become(other.undos);
        }

        int addBox(int form, int size, int holds) {
            if (!isFormAndSize(form, size) || !within(holds, 0, 20)) {
                return BAD;
            }
            int box = boxes.add(form, size, holds);
            if (box >= 0) {
                boxes.change(box, GRASPS, 1);
                boxes.change(box, LID_ON, NONE);
                undos.drop();
            }
            return box;
        }

        int addLid(int kind, int form, int size) {
            if (!isKind(kind) || !isFormAndSize(form, size)) {
                return BAD;
            }
            int lid = lids.add(kind, form, size);
            if (lid >= 0) {
                lids.change(lid, CHANCE, 5);
                undos.drop();
            }
            return lid;
        }

        int addSort(int kind, int form, int size, int price) {
            if (!isKind(kind) || !isFormAndSize(form, size) || !within(price, 1, 50)) {
                return BAD;
            }
            int sort = sorts.add(kind, form, size);
            sorts.change(sort, PRICE, price);
            return sort;
        }

        private static boolean isKind(int kind) {
            return within(kind, PLAIN, ALL);
        }

        private static boolean isFormAndSize(int form, int size) {
            return within(form, ROUND, SQUARE_FORM) && within(size, 1, 9);
        }

        int putOn(int lid, int box) {
            if (!lids.contains(lid) || !boxes.contains(box)) {
                return BAD;
            }
            if (!rowFits(lids, lid, box) || boxUnder(lid) != NONE || boxes.at(box, LID_ON) != NONE) {
                return NO;
            }
            boxes.change(box, LID_ON, lid);
            remember(lid, box, 1);
            return 1;
        }

        int takeOff(int lid) {
            if (!lids.contains(lid)) {
                return BAD;
            }
            int box = boxUnder(lid);
            if (box == NONE) {
                return NO;
            }
            boxes.change(box, LID_ON, NONE);
            remember(lid, box, 0);
            return box;
        }

        private void remember(int lid, int box, int wasPutOn) {
            if (undos.size() >= UNDO_ROOM) {
                undos.dropFirst();
            }
            undos.add(lid, box, wasPutOn);
        }

        int stepBack() {
            int last = undos.size() - 1;
            if (last < 0) {
                return NO;
            }
            boolean wasPutOn = undos.at(last, THIRD) == 1;
            boxes.change(undos.at(last, SECOND), LID_ON, wasPutOn ? NONE : undos.at(last, FIRST));
            undos.dropLast();
            return 1;
        }

        private int boxUnder(int lid) {
            for (int box = 0; box < boxes.size(); box++) {
                if (boxes.at(box, LID_ON) == lid) {
                    return box;
                }
            }
            return NONE;
        }

        int lidsInUse() {
            int used = 0;
            for (int box = 0; box < boxes.size(); box++) {
                if (boxes.at(box, LID_ON) != NONE) {
                    used++;
                }
            }
            return used;
        }

        int changeGrasps(int box, int n) {
            if (!boxes.contains(box) || !within(n, 0, 9)) {
                return BAD;
            }
            int were = boxes.at(box, GRASPS);
            boxes.change(box, GRASPS, n);
            return were;
        }

        int changeChance(int lid, int chance) {
            if (!lids.contains(lid) || !within(chance, 0, SURE)) {
                return BAD;
            }
            int was = lids.at(lid, CHANCE);
            lids.change(lid, CHANCE, chance);
            return was;
        }

        int firstSureLid() {
            for (int lid = 0; lid < lids.size(); lid++) {
                if (lids.at(lid, CHANCE) == SURE) {
                    return lid;
                }
            }
            return NONE;
        }

        // Lids and sorts of lids begin with the same three columns.
        private boolean rowFits(Table table, int row, int box) {
            int form = boxes.at(box, FORM);
            int lessBy = table.at(row, KIND_SIZE) - boxes.at(box, SIZE);
            boolean ofItsForm = table.at(row, KIND_FORM) == form;
            boolean plain = ofItsForm && lessBy == 0;
            boolean wide = plain || ofItsForm && lessBy == 1;
            boolean soft = wide || lessBy == 0;
            switch (table.at(row, KIND)) {
                case PLAIN:
                    return plain;
                case WIDE:
                    return wide;
                case SOFT:
                    return soft;
                case WARPED:
                    return plain && boxes.at(box, HOLDS) <= MUCH_FOR_WARPED;
                case SQUARE:
                    return plain || form == ROUND && lessBy == 1;
                case ALL:
                    return soft || lessBy > 0;
                default:
                    return false;
            }
        }

        int lidsFor(int box) {
            int fitting = 0;
            for (int lid = 0; lid < lids.size(); lid++) {
                if (rowFits(lids, lid, box)) {
                    fitting |= 1 << lid;
                }
            }
            return fitting;
        }

        int boxesAround(int inner) {
            int around = 0;
            for (int outer = 0; outer < boxes.size(); outer++) {
                if (goesInto(inner, outer)) {
                    around |= 1 << outer;
                }
            }
            return around;
        }

        private boolean goesInto(int inner, int outer) {
            int form = boxes.at(inner, FORM);
            int outerForm = boxes.at(outer, FORM);
            return boxes.at(inner, SIZE) < boxes.at(outer, SIZE)
                    && (form == outerForm || form == ROUND && outerForm == SQUARE_FORM);
        }

        int purchaseFor(int box) {
            int least = NOT_FOR_SALE;
            for (int sort = 0; sort < sorts.size(); sort++) {
                if (rowFits(sorts, sort, box)) {
                    least = Math.min(least, (sorts.at(sort, PRICE) << PRICE_SHIFT) + (1 << sortShift(sort)));
                }
            }
            return least;
        }

        int sumOver(int set, int column) {
            int sum = 0;
            for (int box = 0; box < boxes.size(); box++) {
                if ((set >> box & 1) == 1) {
                    sum += boxes.at(box, column);
                }
            }
            return sum;
        }

        int addTale(int a, int lid, int b) {
            if (!within(a, 0, 4) || !lids.contains(lid) || !within(b, 0, 4) || a == b) {
                return BAD;
            }
            return tales.add(a, lid, b);
        }

        int holderAfter(int toldTales, int lid) {
            int holder = 0;
            for (int tale = 0; tale < toldTales && tale < tales.size(); tale++) {
                if (tales.at(tale, SECOND) == lid && tales.at(tale, FIRST) == holder) {
                    holder = tales.at(tale, THIRD);
                }
            }
            return holder;
        }

        int firstWrongTale() {
            for (int tale = 0; tale < tales.size(); tale++) {
                if (holderAfter(tale, tales.at(tale, SECOND)) != tales.at(tale, FIRST)) {
                    return tale;
                }
            }
            return NONE;
        }

        // There are as many foods as boxes, so one test serves for both.
        int addHint(int sort, int food, int boxOrFood) {
            if (!within(sort, 0, 3) || !boxes.contains(food) || !boxes.contains(boxOrFood)) {
                return BAD;
            }
            return hints.add(sort, food, boxOrFood);
        }

        int openAfter(int draws, int seed) {
            int count = boxes.size();
            if (count == 0) {
                return NO;
            }
            long x = seed;
            int filled = 0;
            int used = 0;
            int open = 0;
            for (int draw = 0; draw < draws; draw++) {
                x = (x * 1103515245L + 12345L) % 2147483648L;
                int box = (int) (x / 65536 % count);
                if ((filled >> box & 1) == 0) {
                    filled |= 1 << box;
                    int free = lidsFor(box) & ~used;
                    used |= Integer.lowestOneBit(free);
                    open += free == 0 ? 1 : 0;
                }
            }
            return open;
        }
    }

    /** Pairs of rows and columns, each in one at most, that are worth most together. */
    private static final class Pairs {
        private final int[] options = new int[BOX_ROOM];
        private final int[] worths = new int[BOX_ROOM];
        // By row and the columns that are taken ahead of it: the most from that row on.
        private final int[] best = new int[(BOX_ROOM + 1) * LID_SETS];
        private int rows;
        private int columns;

        void begin(int columnCount) {
            rows = 0;
            columns = Math.max(0, Math.min(columnCount, LID_ROOM));
        }

        void addRow(int columnSet, int worthOfRow) {
            if (rows < BOX_ROOM) {
                options[rows] = columnSet;
                worths[rows] = worthOfRow;
                rows++;
            }
        }

        void solve() {
            for (int taken = 0; taken < 1 << columns; taken++) {
                best[rows * LID_SETS + taken] = 0;
            }
            for (int row = rows - 1; row >= 0; row--) {
                for (int taken = 0; taken < 1 << columns; taken++) {
                    best[row * LID_SETS + taken] = bestOf(row, taken);
                }
            }
        }

        private int bestOf(int row, int taken) {
            int most = bestFrom(row + 1, taken);
            int free = options[row] & ~taken;
            for (int column = 0; column < columns; column++) {
                if ((free >> column & 1) == 1) {
                    most = Math.max(most, bestWith(row, taken, column));
                }
            }
            return most;
        }

        private int bestWith(int row, int taken, int column) {
            return worths[row] + bestFrom(row + 1, taken | 1 << column);
        }

        private int bestFrom(int row, int taken) {
            boolean asked = within(row, 0, rows) && within(taken, 0, LID_SETS - 1);
            return asked ? best[row * LID_SETS + taken] : 0;
        }

        int bestWithout(int columnSet) {
            return bestFrom(0, columnSet);
        }

        /** The column of a row in the first of the best ways, where none is behind all columns. */
        int partner(int askedRow) {
            int taken = 0;
            int column = NONE;
            for (int row = 0; row <= askedRow && row < rows; row++) {
                column = leastColumn(row, taken);
                taken |= column == NONE ? 0 : 1 << column;
            }
            return column;
        }

        private int leastColumn(int row, int taken) {
            int free = options[row] & ~taken;
            for (int column = 0; column < columns; column++) {
                if ((free >> column & 1) == 1 && bestWith(row, taken, column) == bestFrom(row, taken)) {
                    return column;
                }
            }
            return NONE;
        }
    }

    /** Sets of boxes, and whether each box of a set can have a lid at once. */
    private static final class Crowds {
        private final int[] reach = new int[BOX_SETS];
        private final boolean[] lidded = new boolean[BOX_SETS];
        private int sets;

        void lookAt(Cupboard cupboard) {
            sets = 1 << Math.min(cupboard.boxes.size(), BOX_ROOM);
            reach[0] = 0;
            for (int box = 0; box < BOX_ROOM && 1 << box < sets; box++) {
                int fitting = cupboard.lidsFor(box);
                for (int lesser = 0; lesser < 1 << box; lesser++) {
                    reach[lesser | 1 << box] = reach[lesser] | fitting;
                }
            }
            for (int set = 0; set < sets; set++) {
                lidded[set] = lackOf(set) <= 0 && areLiddedWithoutOne(set);
            }
        }

        private int lackOf(int set) {
            return within(set, 0, BOX_SETS - 1) ? Integer.bitCount(set) - Integer.bitCount(reach[set]) : 0;
        }

        // By Hall's marriage theorem a set can be lidded if no set within it lacks lids.
        private boolean areLiddedWithoutOne(int set) {
            for (int box = 0; box < BOX_ROOM; box++) {
                if ((set >> box & 1) == 1 && !lidded[(set & BOX_SETS - 1) ^ (1 << box)]) {
                    return false;
                }
            }
            return true;
        }

        int shortest() {
            int found = 0;
            for (int set = 1; set < sets; set++) {
                int more = lackOf(set) - lackOf(found);
                if (more > 0 || more == 0 && Integer.bitCount(set) < Integer.bitCount(found)) {
                    found = set;
                }
            }
            return found;
        }

        int leastFor(Cupboard cupboard, int amount) {
            int found = NONE;
            int least = ABOVE_ALL;
            for (int set = 0; set < sets && set < BOX_SETS; set++) {
                int size = cupboard.sumOver(set, SIZE);
                if (lidded[set] && size < least && cupboard.sumOver(set, HOLDS) >= amount) {
                    found = set;
                    least = size;
                }
            }
            return found;
        }
    }

    /** Items by number, the greatest key ahead, of like ones the first. */
    private static final class Ranking {
        private final int[] keys = new int[BOX_ROOM];
        private int size;

        void begin() {
            size = 0;
        }

        void add(int key) {
            if (size < BOX_ROOM) {
                keys[size] = key;
                size++;
            }
        }

        int itemAt(int place) {
            for (int item = 0; item < size; item++) {
                if (placeOf(item) == place) {
                    return item;
                }
            }
            return NONE;
        }

        private int placeOf(int item) {
            int ahead = 0;
            for (int other = 0; other < size; other++) {
                if (keys[other] > keys[item] || keys[other] == keys[item] && other < item) {
                    ahead++;
                }
            }
            return ahead;
        }
    }

    /** The ways in which foods may be in boxes, by the hints. */
    private static final class Foods {
        private final int[] sizes = new int[BOX_ROOM];
        // By food: the boxes in which it may be, and the foods that must be in lesser, smaller, greater boxes.
        private final int[] allowed = new int[BOX_ROOM];
        private final int[] inLesserBoxes = new int[BOX_ROOM];
        private final int[] inSmallerBoxes = new int[BOX_ROOM];
        private final int[] inGreaterBoxes = new int[BOX_ROOM];
        private final int[] places = new int[BOX_ROOM];
        private final int[] waysByBoxAndFood = new int[BOX_ROOM * BOX_ROOM];
        private int boxes;
        private int ways;

        void lookAt(Cupboard cupboard) {
            boxes = Math.min(cupboard.boxes.size(), BOX_ROOM);
            for (int box = 0; box < boxes; box++) {
                sizes[box] = cupboard.boxes.at(box, SIZE);
                allowed[box] = BOX_SETS - 1;
                inLesserBoxes[box] = 0;
                inSmallerBoxes[box] = 0;
                inGreaterBoxes[box] = 0;
            }
            Table hints = cupboard.hints;
            for (int i = 0; i < hints.size(); i++) {
                heed(hints.at(i, FIRST), hints.at(i, SECOND), hints.at(i, THIRD));
            }
            Arrays.fill(waysByBoxAndFood, 0);
            ways = waysFrom(this, 0, 0);
        }

        private void heed(int sort, int food, int boxOrFood) {
            if (!within(food, 0, BOX_ROOM - 1) || !within(boxOrFood, 0, BOX_ROOM - 1)) {
                return;
            }
            switch (sort) {
                case 0:
                    allowed[food] &= 1 << boxOrFood;
                    break;
                case 1:
                    allowed[food] &= ~(1 << boxOrFood);
                    break;
                case 2:
                    inLesserBoxes[boxOrFood] |= 1 << food;
                    break;
                case 3:
                    inSmallerBoxes[boxOrFood] |= 1 << food;
                    inGreaterBoxes[food] |= 1 << boxOrFood;
                    break;
                default:
                    break;
            }
        }

        private static int waysFrom(Foods foods, int box, int placed) {
            if (box >= foods.boxes || box >= BOX_ROOM) {
                return 1;
            }
            int sum = 0;
            for (int food = 0; food < foods.boxes; food++) {
                if ((placed >> food & 1) == 0 && foods.mayBeIn(box, food, placed)) {
                    foods.places[food] = box;
                    int behind = waysFrom(foods, box + 1, placed | 1 << food);
                    foods.waysByBoxAndFood[box * BOX_ROOM + food] += behind;
                    sum += behind;
                }
            }
            return sum;
        }

        // Boxes are filled by number, so a food that must be in a lesser one is placed already.
        private boolean mayBeIn(int box, int food, int placed) {
            return (allowed[food] >> box & 1) == 1
                    && (inLesserBoxes[food] & ~placed) == 0
                    && (inSmallerBoxes[food] >> food & 1) == 0
                    && agreesBySize(box, food, placed);
        }

        private boolean agreesBySize(int box, int food, int placed) {
            int smaller = inSmallerBoxes[food] & placed;
            int greater = inGreaterBoxes[food] & placed;
            for (int other = 0; other < boxes && (smaller | greater) >> other != 0; other++) {
                int itsSize = sizeAt(places[other]);
                boolean tooGreat = (smaller >> other & 1) == 1 && itsSize >= sizeAt(box);
                boolean tooSmall = (greater >> other & 1) == 1 && itsSize <= sizeAt(box);
                if (tooGreat || tooSmall) {
                    return false;
                }
            }
            return true;
        }

        private int sizeAt(int box) {
            return within(box, 0, BOX_ROOM - 1) ? sizes[box] : 0;
        }

        int allWays() {
            return ways;
        }

        private int waysWith(int box, int food) {
            boolean asked = within(box, 0, BOX_ROOM - 1) && within(food, 0, BOX_ROOM - 1);
            return asked ? waysByBoxAndFood[box * BOX_ROOM + food] : 0;
        }

        int boxesOf(int food) {
            int found = 0;
            for (int box = 0; box < boxes; box++) {
                if (waysWith(box, food) > 0) {
                    found |= 1 << box;
                }
            }
            return found;
        }

        int boxToOpen() {
            int found = NONE;
            int fewest = ABOVE_ALL;
            for (int box = 0; box < boxes; box++) {
                int worst = worstBehind(box);
                if (worst > 0 && worst < fewest) {
                    found = box;
                    fewest = worst;
                }
            }
            return found;
        }

        private int worstBehind(int box) {
            int worst = 0;
            for (int food = 0; food < boxes; food++) {
                worst = Math.max(worst, waysWith(box, food));
            }
            return worst;
        }
    }

    /** A fraction in lowest terms. */
    private static final class Fraction {
        private long above;
        private long below = 1;

        void become(long newAbove, long newBelow) {
            long divisor = greatestDivisor(newAbove, newBelow);
            if (divisor > 0) {
                above = newAbove / divisor;
                below = newBelow / divisor;
            }
        }

        private static long greatestDivisor(long a, long b) {
            // Each round but the first halves what two rounds ago was left, so 128 are plenty.
            for (int round = 0; round < 128 && b != 0; round++) {
                long left = a % b;
                a = b;
                b = left;
            }
            return a;
        }
    }

    /** The text, and its tokens one by one. */
    private static final class Text {
        private final byte[] bytes = new byte[TEXT_ROOM];
        private final int[] numbers = new int[NUMBERS_OF_AN_ITEM];
        private int length;
        // The token at hand: where it begins, where it ends, of which sort it is, and its number or word.
        private int start;
        private int end;
        private int token;
        private int value;
        private int itemWord;

        int size() {
            return length;
        }

        int append(int c) {
            if (!within(c, 0, 127)) {
                return BAD;
            }
            if (length >= TEXT_ROOM) {
                return FULL;
            }
            bytes[length] = (byte) c;
            length++;
            return length;
        }

        int drop() {
            int had = length;
            length = 0;
            return had;
        }

        void rewind() {
            start = 0;
            end = 0;
            token = END_TOKEN;
            value = 0;
        }

        boolean isAtEnd() {
            return token == END_TOKEN;
        }

        int place() {
            return start;
        }

        int word() {
            return itemWord;
        }

        int numberAt(int i) {
            return within(i, 0, NUMBERS_OF_AN_ITEM - 1) ? numbers[i] : 0;
        }

        /** Whether the tokens from the one at hand on are an item; if not, the one at hand is the fault. */
        boolean takeItem() {
            if (token != WORD_TOKEN) {
                return false;
            }
            itemWord = value;
            int due = numbersDue(itemWord);
            for (int i = 0; i < due && i < NUMBERS_OF_AN_ITEM; i++) {
                advance();
                if (token != NUMBER_TOKEN) {
                    return false;
                }
                numbers[i] = value;
            }
            advance();
            return token == STOP_TOKEN;
        }

        private static int numbersDue(int word) {
            switch (word) {
                case ON_WORD:
                case GRASP_WORD:
                    return 2;
                case SORT_WORD:
                    return 4;
                default:
                    return 3;
            }
        }

        void advance() {
            start = end;
            while (start < length && byteAt(start) == ' ') {
                start++;
            }
            end = start + 1;
            int first = byteAt(start);
            if (start >= length) {
                end = start;
                token = END_TOKEN;
            } else if (isLetter(first)) {
                advanceOverWord();
            } else if (isFigure(first)) {
                advanceOverNumber();
            } else {
                token = first == ';' ? STOP_TOKEN : WRONG_TOKEN;
            }
        }

        private void advanceOverWord() {
            while (end < length && isLetter(byteAt(end))) {
                end++;
            }
            value = wordNumber();
            token = value == NONE ? WRONG_TOKEN : WORD_TOKEN;
        }

        private void advanceOverNumber() {
            while (end < length && isFigure(byteAt(end))) {
                end++;
            }
            value = 0;
            for (int i = start; i < end && i < start + 2; i++) {
                value = value * 10 + byteAt(i) - '0';
            }
            token = end - start > 2 ? WRONG_TOKEN : NUMBER_TOKEN;
        }

        private int byteAt(int i) {
            return 0 <= i && i < length ? bytes[i] : NONE;
        }

        private static boolean isLetter(int c) {
            return within(c, 'a', 'z');
        }

        private static boolean isFigure(int c) {
            return within(c, '0', '9');
        }

        private int wordNumber() {
            for (int word = 0; word < WORDS; word++) {
                if (spells(nameOf(word))) {
                    return word;
                }
            }
            return NONE;
        }

        private static String nameOf(int word) {
            switch (word) {
                case BOX_WORD:
                    return "box";
                case LID_WORD:
                    return "lid";
                case ON_WORD:
                    return "on";
                case GRASP_WORD:
                    return "grasp";
                default:
                    return "sort";
            }
        }

        private boolean spells(String name) {
            if (end - start != name.length()) {
                return false;
            }
            for (int i = 0; i < name.length(); i++) {
                if (byteAt(start + i) != name.charAt(i)) {
                    return false;
                }
            }
            return true;
        }
    }
}
