import java.util.Arrays;
import java.util.NoSuchElementException;

/** A mill of playing cards, from the sheet to the shuffled pack. The promises stand in DOC.md. */
public final class Deckmill {
    private static final int NONE = -1;
    private static final int CARDS = 54;

    private static final int MOST_SHEETS = 6;
    private static final int MOST_ROWS = 6;
    private static final int MOST_COLUMNS = 9;
    private static final int PASSES = 4;
    private static final int MOST_PASS_OFF = 40;
    private static final int MOST_TOLERANCE = 80;
    private static final int MOST_KNIFE_OFF = 20;
    private static final int CLEAN_KNIFE_OFF = 4;
    private static final int MOST_PRINTED = 99;
    private static final int MOST_IN_PILE = 9999;

    private static final int MOST_LAYERS = 5;
    private static final int MOST_THICKNESS = 20;
    private static final int MOST_OPACITY = 60;
    private static final int OPAQUE = 100;
    private static final int BACK_COLUMNS = 5;
    private static final int BACK_ROWS = 7;
    private static final int MOST_MARK = 9;

    private static final int MOST_PACKS = 12;
    private static final int MOST_IN_PACK = 60;
    private static final char SEALED = 's';
    private static final char OPEN = 'o';
    private static final char DESTROYED = 'd';
    private static final char MISSING = 'm';
    private static final char DOUBLE = 'd';
    private static final char FOREIGN = 'x';
    private static final char ONE_WAY = 'w';
    private static final char THIN = 't';
    private static final char FAIR = '-';

    // No pack of up to 60 cards needs more than 58 outer shuffles to come back.
    private static final int MOST_ROUNDS = 10000;

    private static final int MOST_ORDERS = 12;
    private static final int HOUSES = 4;
    private static final int MOST_WANTED = 9;
    private static final int MOST_PRICE = 99;

    // A set of cards has the bit of each card's number.
    private static final long NO_CARDS = 0L;
    private static final long WITHOUT_JOKERS = (1L << 52) - 1L;
    private static final long WITH_JOKERS = (1L << 54) - 1L;
    private static final long RANKS_FROM_5 = (1L << 13) - (1L << 5);
    private static final long SHORT_SUITS =
            RANKS_FROM_5 | RANKS_FROM_5 << 13 | RANKS_FROM_5 << 26 | RANKS_FROM_5 << 39;

    private final Sheet[] sheets = new Sheet[MOST_SHEETS];
    private int sheetCount = 0;
    private int tolerance = 10;
    private int knifeRight = 0;
    private int knifeUp = 0;
    private int spoiled = 0;
    private final Piles piles = new Piles();
    private final Board board = new Board();
    private final Back back = new Back();
    private final Pack[] packs = new Pack[MOST_PACKS];
    private int packCount = 0;
    private final Shuffler shuffler = new Shuffler();
    private final Order[] orders = new Order[MOST_ORDERS];
    private int orderCount = 0;
    private final int[] paid = new int[HOUSES];

    public Deckmill() {
    }

    // ---- sheets and printing ----

    public int sheet(int rows, int columns) throws IllegalArgumentException, IllegalStateException {
        if (!isWithin(rows, 1, MOST_ROWS) || !isWithin(columns, 1, MOST_COLUMNS)) {
            throw new IllegalArgumentException("a sheet has 1 to 6 rows and 1 to 9 columns");
        }
        int number = sheetCount;
        if (number < 0 || number >= sheets.length) {
            throw new IllegalStateException("there are 6 sheets");
        }
        sheets[number] = new Sheet(rows, columns);
        sheetCount = number + 1;
        return number;
    }

    public int put(int sheet, int row, int column, int card)
            throws IndexOutOfBoundsException, IllegalArgumentException {
        Sheet found = sheetOf(sheet);
        if (!found.hasPlace(row, column)) {
            throw new IllegalArgumentException("there is no such place");
        }
        if (card != NONE && !isCard(card)) {
            throw new IllegalArgumentException("there is no such card");
        }
        return found.replace(found.placeOf(row, column), card);
    }

    public int at(int sheet, int row, int column)
            throws IndexOutOfBoundsException, IllegalArgumentException {
        Sheet found = sheetOf(sheet);
        if (!found.hasPlace(row, column)) {
            throw new IllegalArgumentException("there is no such place");
        }
        return found.cardOn(found.placeOf(row, column));
    }

    public int lay(int sheet, int card) throws IndexOutOfBoundsException, IllegalArgumentException {
        Sheet found = sheetOf(sheet);
        requireCard(card);
        return found.layOnEmpty(card);
    }

    public boolean isEven(int sheet) throws IndexOutOfBoundsException {
        return sheetOf(sheet).hasCardsEquallyOften();
    }

    public int pass(int sheet, int pass, int right, int up)
            throws IndexOutOfBoundsException, IllegalArgumentException {
        Sheet found = sheetOf(sheet);
        if (!isWithin(pass, 0, PASSES - 1)) {
            throw new IllegalArgumentException("there is no such pass");
        }
        if (!isOffWithin(right, up, MOST_PASS_OFF)) {
            throw new IllegalArgumentException("a pass is off by -40 to 40");
        }
        found.movePass(pass, right, up);
        return found.outOfRegister();
    }

    public int outOf(int sheet) throws IndexOutOfBoundsException {
        return sheetOf(sheet).outOfRegister();
    }

    public int tolerance(int tolerance) throws IllegalArgumentException {
        if (!isWithin(tolerance, 0, MOST_TOLERANCE)) {
            throw new IllegalArgumentException("a tolerance is 0 to 80");
        }
        int before = this.tolerance;
        this.tolerance = tolerance;
        return before;
    }

    public int knife(int right, int up) throws IllegalArgumentException {
        if (!isOffWithin(right, up, MOST_KNIFE_OFF)) {
            throw new IllegalArgumentException("the knife is off by -20 to 20");
        }
        int before = Math.abs(knifeRight) + Math.abs(knifeUp);
        knifeRight = right;
        knifeUp = up;
        return before;
    }

    public int print(int sheet, int many)
            throws IndexOutOfBoundsException, IllegalArgumentException, IllegalStateException {
        Sheet found = sheetOf(sheet);
        if (!isWithin(many, 1, MOST_PRINTED)) {
            throw new IllegalArgumentException("1 to 99 sheets are printed");
        }
        if (found.outOfRegister() > tolerance) {
            spoiled += many;
            return 0;
        }
        if (!piles.haveRoomFor(found, many)) {
            throw new IllegalStateException("a pile has at most 9999 cards");
        }
        return piles.receive(found, many, !isOffWithin(knifeRight, knifeUp, CLEAN_KNIFE_OFF));
    }

    public int spoiled() {
        return spoiled;
    }

    public int pile(int card, boolean isMarked) throws IllegalArgumentException {
        requireCard(card);
        return isMarked ? piles.markedOf(card) : piles.plainOf(card);
    }

    public int pulp(int card) throws IllegalArgumentException {
        requireCard(card);
        return piles.dropMarked(card);
    }

    // ---- board and back ----

    public int layer(int thickness, int opacity, boolean isAlong)
            throws IllegalArgumentException, IllegalStateException {
        if (!isWithin(thickness, 1, MOST_THICKNESS) || !isWithin(opacity, 0, MOST_OPACITY)) {
            throw new IllegalArgumentException("a thickness is 1 to 20, an opacity 0 to 60");
        }
        if (board.layers >= MOST_LAYERS) {
            throw new IllegalStateException("there are 5 layers");
        }
        board.glue(thickness, opacity, isAlong);
        return board.thickness;
    }

    public int strip() {
        return board.clear();
    }

    public int snap() {
        return board.snap;
    }

    public boolean isOpaque() {
        return board.hidesLight();
    }

    public int mark(int column, int row, int mark) throws IllegalArgumentException {
        if (!isWithin(column, 0, BACK_COLUMNS - 1) || !isWithin(row, 0, BACK_ROWS - 1)) {
            throw new IllegalArgumentException("the back has 5 columns and 7 rows");
        }
        if (!isWithin(mark, 0, MOST_MARK)) {
            throw new IllegalArgumentException("a mark is 0 to 9");
        }
        return back.replace(column, row, mark);
    }

    public boolean isTurnable() {
        return back.looksTheSameTurned();
    }

    // ---- packs ----

    public int collate(char kind)
            throws IllegalArgumentException, UnsupportedOperationException, IllegalStateException {
        long wanted = requireKind(kind);
        if (piles.firstLacking(wanted) != NONE) {
            throw new UnsupportedOperationException("a card is lacking");
        }
        int number = packCount;
        if (number < 0 || number >= packs.length) {
            throw new IllegalStateException("there are 12 packs");
        }
        piles.give(wanted);
        packs[number] = new Pack(wanted, !back.looksTheSameTurned(), !board.hidesLight());
        packCount = number + 1;
        return number;
    }

    public int lacking(char kind) throws IllegalArgumentException, NoSuchElementException {
        int card = piles.firstLacking(requireKind(kind));
        if (card == NONE) {
            throw new NoSuchElementException("no card is lacking");
        }
        return card;
    }

    public int possible(char kind) throws IllegalArgumentException {
        return piles.fewestPlain(requireKind(kind));
    }

    public char state(int pack) throws IndexOutOfBoundsException {
        return packOf(pack).state;
    }

    public char wrong(int pack) throws IndexOutOfBoundsException {
        return packOf(pack).firstFault();
    }

    public int cards(int pack) throws IndexOutOfBoundsException {
        return packOf(pack).size;
    }

    public int cardAt(int pack, int index) throws IndexOutOfBoundsException, NoSuchElementException {
        Pack found = packOf(pack);
        if (!found.hasIndex(index)) {
            throw new NoSuchElementException("there is no such card in the pack");
        }
        return found.cards[index];
    }

    public boolean open(int pack) throws IndexOutOfBoundsException, UnsupportedOperationException {
        Pack found = packOf(pack);
        if (found.state != SEALED) {
            throw new UnsupportedOperationException("the pack is not sealed");
        }
        found.state = OPEN;
        found.wasOpened = true;
        return found.house != NONE;
    }

    public boolean seal(int pack) throws IndexOutOfBoundsException, UnsupportedOperationException {
        Pack found = packOf(pack);
        if (found.state != OPEN || found.wasSealedAgain || found.firstFault() != FAIR) {
            throw new UnsupportedOperationException("the pack cannot be sealed again");
        }
        boolean wasOfHouse = found.house != NONE;
        found.state = SEALED;
        found.wasSealedAgain = true;
        found.house = NONE;
        return wasOfHouse;
    }

    public int take(int pack, int index)
            throws IndexOutOfBoundsException, UnsupportedOperationException, NoSuchElementException {
        Pack found = packOf(pack);
        requireOpen(found);
        if (!found.hasIndex(index)) {
            throw new NoSuchElementException("there is no such card in the pack");
        }
        return found.remove(index);
    }

    public int add(int pack, int card)
            throws IndexOutOfBoundsException, IllegalArgumentException, UnsupportedOperationException,
            IllegalStateException {
        Pack found = packOf(pack);
        requireCard(card);
        requireOpen(found);
        if (found.size >= MOST_IN_PACK) {
            throw new IllegalStateException("the pack has 60 cards");
        }
        found.append(card);
        return found.size;
    }

    public int shuffle(int pack, boolean isOuter)
            throws IndexOutOfBoundsException, UnsupportedOperationException {
        Pack found = packOf(pack);
        requireOpen(found);
        requireCards(found);
        shuffler.riffle(found.cards, found.size, isOuter);
        return found.cards[0];
    }

    public int cut(int pack, int many)
            throws IndexOutOfBoundsException, IllegalArgumentException, UnsupportedOperationException {
        Pack found = packOf(pack);
        if (!isWithin(many, 0, found.size)) {
            throw new IllegalArgumentException("the pack has not so many cards");
        }
        requireOpen(found);
        requireCards(found);
        shuffler.rotate(found.cards, found.size, many);
        return found.cards[0];
    }

    public int period(int pack) throws IndexOutOfBoundsException {
        Pack found = packOf(pack);
        return shuffler.roundsToComeBack(found.cards, found.size);
    }

    public int destroy(int pack) throws IndexOutOfBoundsException, UnsupportedOperationException {
        Pack found = packOf(pack);
        if (found.state == DESTROYED) {
            throw new UnsupportedOperationException("the pack is destroyed");
        }
        found.state = DESTROYED;
        return countDestroyed();
    }

    // ---- orders and sums ----

    public int order(int house, char kind, int many, int price)
            throws IllegalArgumentException, IllegalStateException {
        long wanted = requireKind(kind);
        requireHouse(house);
        if (!isWithin(many, 1, MOST_WANTED) || !isWithin(price, 1, MOST_PRICE)) {
            throw new IllegalArgumentException("1 to 9 packs are ordered, for 1 to 99 each");
        }
        int number = orderCount;
        if (number < 0 || number >= orders.length) {
            throw new IllegalStateException("there are 12 orders");
        }
        orders[number] = new Order(house, wanted, many, price);
        orderCount = number + 1;
        return number;
    }

    public int fill() {
        int filled = 0;
        for (int price = MOST_PRICE; price >= 1; price--) {
            for (Order order : orders) {
                if (order != null && order.price == price && !order.isFilled && deliver(order)) {
                    filled++;
                }
            }
        }
        return filled;
    }

    public boolean isFilled(int order) throws IndexOutOfBoundsException {
        if (order < 0 || order >= orders.length || orders[order] == null) {
            throw new IndexOutOfBoundsException("there is no such order");
        }
        return orders[order].isFilled;
    }

    public int house(int pack) throws IndexOutOfBoundsException, NoSuchElementException {
        Pack found = packOf(pack);
        if (found.house == NONE) {
            throw new NoSuchElementException("the pack is of no house");
        }
        return found.house;
    }

    public int paid(int house) throws IllegalArgumentException {
        requireHouse(house);
        return paid[house];
    }

    public long checksum() {
        long sum = 7L;
        for (int card = 0; card < CARDS; card++) {
            sum = 31L * sum + piles.plainOf(card);
            sum = 31L * sum + piles.markedOf(card);
        }
        for (Pack pack : packs) {
            if (pack != null) {
                sum = pack.sumOnto(sum);
            }
        }
        return sum;
    }

    public float plainShare() throws NoSuchElementException {
        int plain = 0;
        int all = 0;
        for (int card = 0; card < CARDS; card++) {
            plain += piles.plainOf(card);
            all += piles.plainOf(card) + piles.markedOf(card);
        }
        if (all == 0) {
            throw new NoSuchElementException("the piles have no cards");
        }
        return (float) plain / (float) all;
    }

    public double meanPrice() throws NoSuchElementException {
        int sum = 0;
        for (Order order : orders) {
            if (order != null) {
                sum += order.price;
            }
        }
        if (orderCount == 0) {
            throw new NoSuchElementException("there are no orders");
        }
        return (double) sum / (double) orderCount;
    }

    public boolean isSound() {
        for (Pack pack : packs) {
            if (pack != null && !pack.keepsItsWord()) {
                return false;
            }
        }
        for (int house = 0; house < paid.length; house++) {
            if (paid[house] != owedBy(house)) {
                return false;
            }
        }
        return true;
    }

    // ---- what the calls share ----

    private static boolean isWithin(int number, int least, int most) {
        return number >= least && number <= most;
    }

    private static boolean isOffWithin(int right, int up, int most) {
        return isWithin(right, -most, most) && isWithin(up, -most, most);
    }

    private static boolean isCard(int card) {
        return isWithin(card, 0, CARDS - 1);
    }

    private static boolean hasCard(long set, int card) {
        return ((set >>> card) & 1L) != 0L;
    }

    private static long cardsOfKind(char kind) {
        if (kind == 'f') {
            return WITHOUT_JOKERS;
        }
        if (kind == 'j') {
            return WITH_JOKERS;
        }
        return kind == 's' ? SHORT_SUITS : NO_CARDS;
    }

    private static long requireKind(char kind) {
        long cards = cardsOfKind(kind);
        if (cards == NO_CARDS) {
            throw new IllegalArgumentException("there is no such kind");
        }
        return cards;
    }

    private static void requireCard(int card) {
        if (!isCard(card)) {
            throw new IllegalArgumentException("there is no such card");
        }
    }

    private static void requireHouse(int house) {
        if (!isWithin(house, 0, HOUSES - 1)) {
            throw new IllegalArgumentException("there is no such house");
        }
    }

    private static void requireOpen(Pack pack) {
        if (pack.state != OPEN) {
            throw new UnsupportedOperationException("the pack is not open");
        }
    }

    private static void requireCards(Pack pack) {
        if (pack.size == 0) {
            throw new UnsupportedOperationException("the pack has no cards");
        }
    }

    private Sheet sheetOf(int number) {
        if (number < 0 || number >= sheets.length || sheets[number] == null) {
            throw new IndexOutOfBoundsException("there is no such sheet");
        }
        return sheets[number];
    }

    private Pack packOf(int number) {
        if (number < 0 || number >= packs.length || packs[number] == null) {
            throw new IndexOutOfBoundsException("there is no such pack");
        }
        return packs[number];
    }

    private int countDestroyed() {
        int destroyed = 0;
        for (Pack pack : packs) {
            if (pack != null && pack.state == DESTROYED) {
                destroyed++;
            }
        }
        return destroyed;
    }

    private boolean deliver(Order order) {
        int suitable = 0;
        for (Pack pack : packs) {
            if (pack != null && pack.suits(order)) {
                suitable++;
            }
        }
        if (suitable < order.many) {
            return false;
        }
        handOver(order);
        return true;
    }

    private void handOver(Order order) {
        int given = 0;
        for (Pack pack : packs) {
            if (given < order.many && pack != null && pack.suits(order)) {
                pack.house = order.house;
                given++;
            }
        }
        order.isFilled = true;
        if (order.house >= 0 && order.house < paid.length) {
            paid[order.house] += order.cost();
        }
    }

    private int owedBy(int house) {
        int owed = 0;
        for (Order order : orders) {
            if (order != null && order.isFilled && order.house == house) {
                owed += order.cost();
            }
        }
        return owed;
    }

    private static final class Sheet {
        private final int rows;
        private final int columns;
        private final int[] places = new int[MOST_ROWS * MOST_COLUMNS];
        // How often each card is on the sheet, so that printing need not look at every place.
        private final int[] times = new int[CARDS];
        private final int[] right = new int[PASSES];
        private final int[] up = new int[PASSES];

        Sheet(int rows, int columns) {
            this.rows = rows;
            this.columns = columns;
            Arrays.fill(places, NONE);
        }

        boolean hasPlace(int row, int column) {
            return isWithin(row, 0, rows - 1) && isWithin(column, 0, columns - 1);
        }

        int placeOf(int row, int column) {
            return row * columns + column;
        }

        int cardOn(int place) {
            return place < 0 || place >= places.length ? NONE : places[place];
        }

        int replace(int place, int card) {
            int before = cardOn(place);
            if (place < 0 || place >= places.length) {
                return before;
            }
            places[place] = card;
            if (isCard(before)) {
                times[before]--;
            }
            if (isCard(card)) {
                times[card]++;
            }
            return before;
        }

        int layOnEmpty(int firstCard) {
            int laid = 0;
            for (int place = 0; place < rows * columns; place++) {
                if (cardOn(place) == NONE) {
                    replace(place, (firstCard + laid) % CARDS);
                    laid++;
                }
            }
            return laid;
        }

        boolean hasCardsEquallyOften() {
            int often = 0;
            for (int count : times) {
                if (count != 0 && often != 0 && count != often) {
                    return false;
                }
                if (count != 0) {
                    often = count;
                }
            }
            return true;
        }

        void movePass(int pass, int right, int up) {
            if (pass >= 0 && pass < PASSES) {
                this.right[pass] = right;
                this.up[pass] = up;
            }
        }

        int outOfRegister() {
            int greatest = 0;
            for (int one = 0; one < PASSES; one++) {
                for (int other = 0; other < one; other++) {
                    int apart = Math.abs(right[one] - right[other]) + Math.abs(up[one] - up[other]);
                    greatest = Math.max(greatest, apart);
                }
            }
            return greatest;
        }
    }

    private static final class Piles {
        private final int[] plain = new int[CARDS];
        private final int[] marked = new int[CARDS];

        int plainOf(int card) {
            return isCard(card) ? plain[card] : 0;
        }

        int markedOf(int card) {
            return isCard(card) ? marked[card] : 0;
        }

        int dropMarked(int card) {
            int dropped = markedOf(card);
            if (isCard(card)) {
                marked[card] = 0;
            }
            return dropped;
        }

        boolean haveRoomFor(Sheet sheet, int many) {
            for (int card = 0; card < CARDS; card++) {
                if (plain[card] + marked[card] + sheet.times[card] * many > MOST_IN_PILE) {
                    return false;
                }
            }
            return true;
        }

        int receive(Sheet sheet, int many, boolean isMarked) {
            int[] target = isMarked ? marked : plain;
            int received = 0;
            for (int card = 0; card < CARDS; card++) {
                int given = sheet.times[card] * many;
                target[card] += given;
                received += given;
            }
            return received;
        }

        int firstLacking(long wanted) {
            for (int card = 0; card < CARDS; card++) {
                if (hasCard(wanted, card) && plain[card] == 0) {
                    return card;
                }
            }
            return NONE;
        }

        int fewestPlain(long wanted) {
            int fewest = MOST_IN_PILE;
            for (int card = 0; card < CARDS; card++) {
                if (hasCard(wanted, card)) {
                    fewest = Math.min(fewest, plain[card]);
                }
            }
            return fewest;
        }

        void give(long wanted) {
            for (int card = 0; card < CARDS; card++) {
                if (hasCard(wanted, card)) {
                    plain[card]--;
                }
            }
        }
    }

    // Layers only come one by one and go all at once, so their sums are all that is kept of them.
    private static final class Board {
        private int layers = 0;
        private int thickness = 0;
        private int opacity = 0;
        private int snap = 0;
        private boolean isLastAlong = false;

        void glue(int thickness, int opacity, boolean isAlong) {
            if (layers > 0 && isLastAlong != isAlong) {
                snap++;
            }
            layers++;
            this.thickness += thickness;
            this.opacity += opacity;
            isLastAlong = isAlong;
        }

        int clear() {
            int before = layers;
            layers = 0;
            thickness = 0;
            opacity = 0;
            snap = 0;
            return before;
        }

        boolean hidesLight() {
            return opacity >= OPAQUE;
        }
    }

    private static final class Back {
        private final int[] marks = new int[BACK_COLUMNS * BACK_ROWS];

        int replace(int column, int row, int mark) {
            int place = row * BACK_COLUMNS + column;
            if (place < 0 || place >= marks.length) {
                return 0;
            }
            int before = marks[place];
            marks[place] = mark;
            return before;
        }

        // Turned by half, the row of all marks is read from its end.
        boolean looksTheSameTurned() {
            for (int place = 0; place < marks.length; place++) {
                if (marks[place] != marks[marks.length - 1 - place]) {
                    return false;
                }
            }
            return true;
        }
    }

    private static final class Pack {
        private final long ofKind;
        private final boolean isOneWay;
        private final boolean isThin;
        private final int[] cards = new int[MOST_IN_PACK];
        private int size = 0;
        private char state = SEALED;
        private boolean wasOpened = false;
        private boolean wasSealedAgain = false;
        private int house = NONE;

        Pack(long ofKind, boolean isOneWay, boolean isThin) {
            this.ofKind = ofKind;
            this.isOneWay = isOneWay;
            this.isThin = isThin;
            for (int card = 0; card < CARDS; card++) {
                if (hasCard(ofKind, card)) {
                    append(card);
                }
            }
        }

        void append(int card) {
            if (size >= 0 && size < cards.length) {
                cards[size] = card;
                size++;
            }
        }

        boolean hasIndex(int index) {
            return index >= 0 && index < size && index < cards.length;
        }

        int remove(int index) {
            if (!hasIndex(index)) {
                return NONE;
            }
            int card = cards[index];
            for (int place = index + 1; place < size; place++) {
                cards[place - 1] = cards[place];
            }
            size--;
            return card;
        }

        long cardsThere() {
            long there = NO_CARDS;
            for (int place = 0; place < size; place++) {
                there |= 1L << cards[place];
            }
            return there;
        }

        char firstFault() {
            long there = cardsThere();
            if ((ofKind & ~there) != NO_CARDS) {
                return MISSING;
            }
            if (Long.bitCount(there) != size) {
                return DOUBLE;
            }
            if (there != ofKind) {
                return FOREIGN;
            }
            if (isOneWay) {
                return ONE_WAY;
            }
            return isThin ? THIN : FAIR;
        }

        boolean hasItsCardsOnce() {
            return cardsThere() == ofKind && Long.bitCount(ofKind) == size;
        }

        boolean suits(Order order) {
            return state == SEALED && house == NONE && ofKind == order.ofKind && firstFault() == FAIR;
        }

        boolean keepsItsWord() {
            if (house != NONE && state == SEALED && firstFault() != FAIR) {
                return false;
            }
            return wasOpened || hasItsCardsOnce();
        }

        long sumOnto(long before) {
            long sum = 31L * before + state;
            for (int place = 0; place < size; place++) {
                sum = 31L * sum + cards[place];
            }
            return sum;
        }
    }

    // Holds the rows that shuffling needs, so that no call has to make one.
    private static final class Shuffler {
        private final int[] laid = new int[MOST_IN_PACK];
        private final int[] trial = new int[MOST_IN_PACK];

        private boolean fits(int[] cards, int size) {
            return size >= 0 && size <= MOST_IN_PACK && size <= cards.length;
        }

        void riffle(int[] cards, int size, boolean isOuter) {
            if (!fits(cards, size)) {
                return;
            }
            int lower = (size + 1) / 2;
            int count = 0;
            for (int upper = 0; upper < lower; upper++) {
                int under = lower + upper;
                boolean hasUnder = under < size;
                if (hasUnder && !isOuter) {
                    laid[count] = cards[under];
                    count++;
                }
                laid[count] = cards[upper];
                count++;
                if (hasUnder && isOuter) {
                    laid[count] = cards[under];
                    count++;
                }
            }
            System.arraycopy(laid, 0, cards, 0, size);
        }

        void rotate(int[] cards, int size, int many) {
            if (!fits(cards, size) || !isWithin(many, 0, size)) {
                return;
            }
            System.arraycopy(cards, many, laid, 0, size - many);
            System.arraycopy(cards, 0, laid, size - many, many);
            System.arraycopy(laid, 0, cards, 0, size);
        }

        int roundsToComeBack(int[] cards, int size) {
            if (!fits(cards, size)) {
                return 1;
            }
            System.arraycopy(cards, 0, trial, 0, size);
            for (int rounds = 1; rounds < MOST_ROUNDS; rounds++) {
                riffle(trial, size, true);
                if (isTrialLike(cards, size)) {
                    return rounds;
                }
            }
            return MOST_ROUNDS;
        }

        private boolean isTrialLike(int[] cards, int size) {
            for (int place = 0; place < size; place++) {
                if (trial[place] != cards[place]) {
                    return false;
                }
            }
            return true;
        }
    }

    private static final class Order {
        private final int house;
        private final long ofKind;
        private final int many;
        private final int price;
        private boolean isFilled = false;

        Order(int house, long ofKind, int many, int price) {
            this.house = house;
            this.ofKind = ofKind;
            this.many = many;
            this.price = price;
        }

        int cost() {
            return many * price;
        }
    }
}
