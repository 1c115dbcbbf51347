import java.util.NoSuchElementException;

public final class BindingPlanner {
    private static final int MOST_BOOKS = 10;
    private static final int MOST_LOTS = 30;
    private static final int MOST_PRICES = 20;
    private static final int MOST_CHANGES = 8;
    private static final int MOST_SIGNS = 40;
    private static final int LAST_DAY = 9999;

    private static final int HEIGHT = 0;
    private static final int WIDTH = 1;
    private static final int THICKNESS = 2;
    private static final int COPIES = 3;
    private static final int BLOCK_NUMBERS = 4;
    private static final int[] BLOCK_LOW = {80, 60, 5, 1};
    private static final int[] BLOCK_HIGH = {400, 300, 80, 50};

    private static final int SQUARE = 0;
    private static final int JOINT = 1;
    private static final int TURN_IN = 2;
    private static final int BOARD_THICKNESS = 3;
    private static final int ROLL = 4;
    private static final int SETTINGS = 5;
    private static final int[] SETTING_LOW = {0, 4, 8, 1, 300};
    private static final int[] SETTING_HIGH = {6, 12, 25, 4, 1500};
    private static final int[] SETTING_FIRST = {3, 8, 15, 2, 1000};

    private static final int FRONT_BOARD = 0;
    private static final int SPINE_STRIP = 2;
    private static final int CLOTH_PIECE = 3;
    private static final int ENDPAPER = 4;
    private static final int PIECES = 5;

    private static final int BOARD = 0;
    private static final int PAPER = 1;
    private static final int MATERIALS = 3;

    private static final int SHEET_LENGTH = 0;
    private static final int SHEET_BREADTH = 1;
    private static final int SHEET_GRAIN = 2;
    private static final int SHEET_NUMBERS = 3;
    private static final int SHEET_MATERIALS = 2;
    private static final int GRAIN_NONE = 0;
    private static final int GRAIN_ALONG_LENGTH = 1;
    private static final int GRAIN_ALONG_BREADTH = 2;

    private static final int NOT_REFUSED = 0;
    private static final int CLOTH_TOO_BROAD = 1;
    private static final int YIELD_IS_ZERO = 2;
    private static final int FIRST_SHORTAGE = 3;

    private static final int FIRST_USE_ACCOUNT = 8;
    private static final int ACCOUNTS = 11;

    /** Stands for units that no number of sheets and no roll can give. */
    private static final int IMPOSSIBLE = -1;
    private static final int NONE = -1;

    private final Plan plan = new Plan();
    private final Plan snapshot = new Plan();
    private final History history = new History();
    private final PieceSizes sizesBefore = new PieceSizes();
    private final ClothCutter cutter = new ClothCutter();
    private final BlockText text = new BlockText();
    private boolean isSaved = false;
    private int keptReason = NOT_REFUSED;

    public BindingPlanner() {
    }

    public int addBook(int height, int width, int thickness) throws IllegalArgumentException, IllegalStateException {
        return addChecked(height, width, thickness, 1);
    }

    public int setBlock(int book, int what, int value) throws IndexOutOfBoundsException, IllegalArgumentException {
        requireBook(book);
        if (!isBlockNumber(what, value)) {
            throw new IllegalArgumentException("no such number of a block, or its value is out of range");
        }
        history.keep(plan);
        sizesBefore.note(plan);
        plan.putBlockNumber(book, what, value);
        return sizesBefore.changedPieces(plan, book);
    }

    public int block(int book, int what) throws IndexOutOfBoundsException, IllegalArgumentException {
        requireBook(book);
        if (what < 0 || what >= BLOCK_NUMBERS) {
            throw new IllegalArgumentException("no such number of a block");
        }
        return plan.blockNumber(book, what);
    }

    public int set(int setting, int value) throws IndexOutOfBoundsException, IllegalArgumentException {
        requireSetting(setting);
        if (value < SETTING_LOW[setting] || value > SETTING_HIGH[setting]) {
            throw new IllegalArgumentException("the value of the setting is out of range");
        }
        history.keep(plan);
        sizesBefore.note(plan);
        plan.settings[setting] = value;
        int changed = 0;
        for (int book = 0; book < plan.bookCount; book++) {
            changed += Integer.bitCount(sizesBefore.changedPieces(plan, book));
        }
        return changed;
    }

    public int setting(int setting) throws IndexOutOfBoundsException {
        requireSetting(setting);
        return plan.settings[setting];
    }

    public int piece(int book, int piece, boolean isBreadth) throws IndexOutOfBoundsException {
        requireBook(book);
        requirePiece(piece);
        return isBreadth ? plan.pieceBreadth(book, piece) : plan.pieceLength(book, piece);
    }

    public int wouldRefuse(int book) throws IndexOutOfBoundsException {
        requireBook(book);
        return plan.reasonAgainst(book);
    }

    public int setSheet(int material, int length, int breadth, int grain)
            throws IndexOutOfBoundsException, IllegalArgumentException {
        requireSheetMaterial(material);
        if (!isSheetSide(length) || !isSheetSide(breadth) || grain < GRAIN_NONE || grain > GRAIN_ALONG_BREADTH) {
            throw new IllegalArgumentException("a number of the sheets is out of range");
        }
        history.keep(plan);
        int previousGrain = plan.sheetNumber(material, SHEET_GRAIN);
        plan.putSheet(material, length, breadth, grain);
        return previousGrain;
    }

    public int sheet(int material, int what) throws IndexOutOfBoundsException, IllegalArgumentException {
        requireSheetMaterial(material);
        if (what < 0 || what >= SHEET_NUMBERS) {
            throw new IllegalArgumentException("no such number of sheets");
        }
        return plan.sheetNumber(material, what);
    }

    public int perSheet(int book, int piece) throws IndexOutOfBoundsException, UnsupportedOperationException {
        requireBook(book);
        requirePiece(piece);
        if (piece == CLOTH_PIECE) {
            throw new UnsupportedOperationException("cloth is not cut from sheets");
        }
        return plan.yieldFor(book, piece);
    }

    public int needed(int book, int material) throws IndexOutOfBoundsException, NoSuchElementException {
        requireBook(book);
        requireMaterial(material);
        int units = plan.unitsFor(book, material);
        if (units == IMPOSSIBLE) {
            throw new NoSuchElementException("no units of this material are enough");
        }
        return units;
    }

    public double boardShare(int book) throws IndexOutOfBoundsException, ArithmeticException {
        requireBook(book);
        int boards = 2 * plan.blockNumber(book, COPIES);
        int sheets = plan.sheetsFor(boards, plan.yieldFor(book, FRONT_BOARD));
        if (sheets == IMPOSSIBLE) {
            throw new ArithmeticException("no board can be cut from a sheet");
        }
        long boardArea = (long) plan.pieceLength(book, FRONT_BOARD) * plan.pieceBreadth(book, FRONT_BOARD);
        long sheetArea = (long) plan.sheetNumber(BOARD, SHEET_LENGTH) * plan.sheetNumber(BOARD, SHEET_BREADTH);
        return (double) (boardArea * boards) / (double) (sheetArea * sheets);
    }

    public int tapes(int book) throws IndexOutOfBoundsException {
        requireBook(book);
        return Stations.tapeCount(plan.blockNumber(book, HEIGHT));
    }

    public int station(int book, int station) throws IndexOutOfBoundsException, NoSuchElementException {
        requireBook(book);
        int height = plan.blockNumber(book, HEIGHT);
        if (station < 0 || station > Stations.lastStation(height)) {
            throw new NoSuchElementException("no such station");
        }
        return Stations.place(height, station);
    }

    public int widestGap(int book) throws IndexOutOfBoundsException {
        requireBook(book);
        return Stations.greatestDistance(plan.blockNumber(book, HEIGHT));
    }

    public int leastCloth(int books) throws IllegalArgumentException, UnsupportedOperationException {
        layCloths(books);
        return cutter.leastLength();
    }

    public int fittedCloth(int books) throws IllegalArgumentException, UnsupportedOperationException {
        layCloths(books);
        cutter.fit();
        return cutter.fittedLength;
    }

    public int strip(int books, int book)
            throws IllegalArgumentException, UnsupportedOperationException, NoSuchElementException {
        layCloths(books);
        cutter.fit();
        int strip = cutter.stripOfBook(book);
        if (strip == NONE) {
            throw new NoSuchElementException("the book is not in the set");
        }
        return strip;
    }

    public int strips(int books) throws IllegalArgumentException, UnsupportedOperationException {
        layCloths(books);
        cutter.fit();
        return cutter.fittedStrips;
    }

    public double clothWaste(int books)
            throws IllegalArgumentException, UnsupportedOperationException, ArithmeticException {
        layCloths(books);
        if (books == 0) {
            throw new ArithmeticException("no cloth is cut for no books");
        }
        long rollArea = (long) cutter.leastLength() * plan.settings[ROLL];
        return 1.0 - (double) cutter.clothArea() / (double) rollArea;
    }

    public int buy(int material, int units, int price)
            throws IndexOutOfBoundsException, IllegalArgumentException, IllegalStateException {
        requireMaterial(material);
        if (units < 1 || units > 999 || !isPrice(price)) {
            throw new IllegalArgumentException("a number of the lot is out of range");
        }
        if (plan.lots.count >= MOST_LOTS) {
            throw new IllegalStateException("no more lots are kept");
        }
        history.keep(plan);
        plan.paid += (long) units * price;
        plan.lots.put(material, units, price);
        return plan.lots.countOf(material);
    }

    public int stock(int material) throws IndexOutOfBoundsException {
        requireMaterial(material);
        return plan.lots.unitsOf(material);
    }

    public int lot(int material, int index, boolean isPrice) throws IndexOutOfBoundsException, NoSuchElementException {
        requireMaterial(material);
        int slot = plan.lots.slotOf(material, index);
        if (slot == NONE) {
            throw new NoSuchElementException("no such lot");
        }
        return isPrice ? plan.lots.prices[slot] : plan.lots.units[slot];
    }

    public int setPrice(int material, int day, int price)
            throws IndexOutOfBoundsException, IllegalArgumentException, IllegalStateException {
        requireMaterial(material);
        if (day < 0 || day > LAST_DAY || !isPrice(price)) {
            throw new IllegalArgumentException("the day or the price is out of range");
        }
        if (plan.prices.count >= MOST_PRICES && plan.prices.slotFrom(material, day) == NONE) {
            throw new IllegalStateException("no more prices are kept");
        }
        history.keep(plan);
        plan.prices.put(material, day, price);
        return plan.prices.count;
    }

    public int dropPrice(int material, int day) throws IndexOutOfBoundsException, NoSuchElementException {
        requireMaterial(material);
        int slot = plan.prices.slotFrom(material, day);
        if (slot == NONE) {
            throw new NoSuchElementException("no price from this day on");
        }
        history.keep(plan);
        int price = plan.prices.prices[slot];
        plan.prices.remove(slot);
        return price;
    }

    public int price(int material, int day) throws IndexOutOfBoundsException, NoSuchElementException {
        requireMaterial(material);
        int listPrice = plan.prices.listPrice(material, day);
        if (listPrice == NONE) {
            throw new NoSuchElementException("no list price on this day");
        }
        return listPrice;
    }

    public int cost(int book, int day)
            throws IndexOutOfBoundsException, UnsupportedOperationException, NoSuchElementException {
        requireBook(book);
        int reason = plan.reasonAgainst(book);
        if (reason == CLOTH_TOO_BROAD || reason == YIELD_IS_ZERO) {
            throw new UnsupportedOperationException("the book cannot be cut");
        }
        int sum = 0;
        for (int material = 0; material < MATERIALS; material++) {
            int listPrice = plan.prices.listPrice(material, day);
            if (listPrice == NONE) {
                throw new NoSuchElementException("a material has no list price on this day");
            }
            sum += plan.unitsFor(book, material) * listPrice;
        }
        return sum;
    }

    public int make(int book) throws IndexOutOfBoundsException, UnsupportedOperationException {
        requireBook(book);
        int reason = plan.reasonAgainst(book);
        if (reason != NOT_REFUSED) {
            keptReason = reason;
            throw new UnsupportedOperationException("making the book is refused");
        }
        history.keep(plan);
        return plan.useUnitsFor(book);
    }

    public int refusal() throws NoSuchElementException {
        if (keptReason == NOT_REFUSED) {
            throw new NoSuchElementException("no call of make was refused");
        }
        return keptReason;
    }

    public int pass(int days) throws IllegalArgumentException, IllegalStateException {
        if (days < 1 || days > 999) {
            throw new IllegalArgumentException("the number of days is out of range");
        }
        if (plan.day + days > LAST_DAY) {
            throw new IllegalStateException("the last day would be passed");
        }
        history.keep(plan);
        plan.day += days;
        return plan.day;
    }

    public long account(int what) throws IllegalArgumentException {
        if (what < 0 || what >= ACCOUNTS) {
            throw new IllegalArgumentException("no such account");
        }
        switch (what) {
            case 0:
                return plan.day;
            case 1:
                return plan.bookCount;
            case 2:
                return plan.copiesMade;
            case 3:
                return plan.madeCost;
            case 4:
                return plan.paid;
            case 5:
                return plan.lots.worth();
            case 6:
                return plan.lots.count;
            case 7:
                return plan.prices.count;
            default:
                return plan.used[what - FIRST_USE_ACCOUNT];
        }
    }

    public void append(char c) throws IllegalStateException {
        if (text.length >= MOST_SIGNS) {
            throw new IllegalStateException("the text buffer is full");
        }
        text.put(c);
    }

    public int readBook() throws IllegalArgumentException, IllegalStateException {
        boolean isFaultless = text.readAndEmpty();
        if (!isFaultless) {
            throw new IllegalArgumentException("the text has a fault");
        }
        int[] read = text.numbers;
        return addChecked(read[HEIGHT], read[WIDTH], read[THICKNESS], read[COPIES]);
    }

    public int faultPosition() {
        return text.fault;
    }

    public int undo() throws IllegalStateException {
        if (history.count == 0) {
            throw new IllegalStateException("no change is kept");
        }
        history.bringBack(plan);
        return history.count;
    }

    public void save() {
        snapshot.copyFrom(plan);
        isSaved = true;
    }

    public void restore() throws IllegalStateException {
        if (!isSaved) {
            throw new IllegalStateException("there is no snapshot");
        }
        plan.copyFrom(snapshot);
        history.forget();
    }

    private int addChecked(int height, int width, int thickness, int copies) {
        if (!isBlockNumber(HEIGHT, height) || !isBlockNumber(WIDTH, width)
                || !isBlockNumber(THICKNESS, thickness) || !isBlockNumber(COPIES, copies)) {
            throw new IllegalArgumentException("a number of the block is out of range");
        }
        if (plan.bookCount >= MOST_BOOKS) {
            throw new IllegalStateException("no more books are kept");
        }
        history.keep(plan);
        return plan.putBook(height, width, thickness, copies);
    }

    private void layCloths(int books) {
        if ((books >>> plan.bookCount) != 0) {
            throw new IllegalArgumentException("a book of the set does not exist");
        }
        for (int book = 0; book < plan.bookCount; book++) {
            if (((books >> book) & 1) != 0 && plan.isClothTooBroad(book)) {
                throw new UnsupportedOperationException("a cloth of the set is too broad");
            }
        }
        cutter.lay(plan, books);
    }

    private void requireBook(int book) {
        if (book < 0 || book >= plan.bookCount) {
            throw new IndexOutOfBoundsException("no such book");
        }
    }

    private static void requireSetting(int setting) {
        if (setting < 0 || setting >= SETTINGS) {
            throw new IndexOutOfBoundsException("no such setting");
        }
    }

    private static void requirePiece(int piece) {
        if (piece < 0 || piece >= PIECES) {
            throw new IndexOutOfBoundsException("no such piece");
        }
    }

    private static void requireMaterial(int material) {
        if (material < 0 || material >= MATERIALS) {
            throw new IndexOutOfBoundsException("no such material");
        }
    }

    private static void requireSheetMaterial(int material) {
        if (material < 0 || material >= SHEET_MATERIALS) {
            throw new IndexOutOfBoundsException("no material that comes in sheets");
        }
    }

    private static boolean isBlockNumber(int what, int value) {
        return what >= 0 && what < BLOCK_NUMBERS && value >= BLOCK_LOW[what] && value <= BLOCK_HIGH[what];
    }

    private static boolean isSheetSide(int side) {
        return side >= 100 && side <= 1200;
    }

    private static boolean isPrice(int price) {
        return price >= 1 && price <= 9999;
    }

    /** All that a change can change, so that undo and the snapshot are copies of it. */
    private static final class Plan {
        final int[] blocks = new int[MOST_BOOKS * BLOCK_NUMBERS];
        final int[] settings = new int[SETTINGS];
        final int[] sheets = new int[SHEET_MATERIALS * SHEET_NUMBERS];
        final Lots lots = new Lots();
        final Prices prices = new Prices();
        final long[] used = new long[MATERIALS];
        int bookCount = 0;
        int day = 0;
        long copiesMade = 0;
        long madeCost = 0;
        long paid = 0;

        Plan() {
            System.arraycopy(SETTING_FIRST, 0, settings, 0, SETTINGS);
            for (int material = 0; material < SHEET_MATERIALS; material++) {
                sheets[material * SHEET_NUMBERS + SHEET_LENGTH] = 1000;
                sheets[material * SHEET_NUMBERS + SHEET_BREADTH] = 700;
                sheets[material * SHEET_NUMBERS + SHEET_GRAIN] = GRAIN_ALONG_LENGTH;
            }
        }

        void copyFrom(Plan other) {
            System.arraycopy(other.blocks, 0, blocks, 0, MOST_BOOKS * BLOCK_NUMBERS);
            System.arraycopy(other.settings, 0, settings, 0, SETTINGS);
            System.arraycopy(other.sheets, 0, sheets, 0, SHEET_MATERIALS * SHEET_NUMBERS);
            System.arraycopy(other.used, 0, used, 0, MATERIALS);
            lots.copyFrom(other.lots);
            prices.copyFrom(other.prices);
            bookCount = other.bookCount;
            day = other.day;
            copiesMade = other.copiesMade;
            madeCost = other.madeCost;
            paid = other.paid;
        }

        int putBook(int height, int width, int thickness, int copies) {
            int book = bookCount;
            if (book < MOST_BOOKS) {
                bookCount++;
                putBlockNumber(book, HEIGHT, height);
                putBlockNumber(book, WIDTH, width);
                putBlockNumber(book, THICKNESS, thickness);
                putBlockNumber(book, COPIES, copies);
            }
            return book;
        }

        void putBlockNumber(int book, int what, int value) {
            if (book >= 0 && book < MOST_BOOKS && what >= 0 && what < BLOCK_NUMBERS) {
                blocks[book * BLOCK_NUMBERS + what] = value;
            }
        }

        int blockNumber(int book, int what) {
            boolean isKept = book >= 0 && book < MOST_BOOKS && what >= 0 && what < BLOCK_NUMBERS;
            return isKept ? blocks[book * BLOCK_NUMBERS + what] : 0;
        }

        void putSheet(int material, int length, int breadth, int grain) {
            if (material >= 0 && material < SHEET_MATERIALS) {
                sheets[material * SHEET_NUMBERS + SHEET_LENGTH] = length;
                sheets[material * SHEET_NUMBERS + SHEET_BREADTH] = breadth;
                sheets[material * SHEET_NUMBERS + SHEET_GRAIN] = grain;
            }
        }

        int sheetNumber(int material, int what) {
            boolean isKept = material >= 0 && material < SHEET_MATERIALS && what >= 0 && what < SHEET_NUMBERS;
            return isKept ? sheets[material * SHEET_NUMBERS + what] : 0;
        }

        int pieceLength(int book, int piece) {
            int height = blockNumber(book, HEIGHT);
            int board = height + 2 * settings[SQUARE];
            switch (piece) {
                case CLOTH_PIECE:
                    return board + 2 * settings[TURN_IN];
                case ENDPAPER:
                    return height;
                default:
                    return board;
            }
        }

        int pieceBreadth(int book, int piece) {
            int width = blockNumber(book, WIDTH);
            int board = width + settings[SQUARE] - settings[JOINT];
            int spine = blockNumber(book, THICKNESS) + 2 * settings[BOARD_THICKNESS];
            switch (piece) {
                case SPINE_STRIP:
                    return spine;
                case CLOTH_PIECE:
                    return 2 * board + 2 * settings[JOINT] + spine + 2 * settings[TURN_IN];
                case ENDPAPER:
                    return 2 * width;
                default:
                    return board;
            }
        }

        boolean isClothTooBroad(int book) {
            return pieceBreadth(book, CLOTH_PIECE) > settings[ROLL];
        }

        int yieldFor(int book, int piece) {
            int material = piece == ENDPAPER ? PAPER : BOARD;
            int sheetLength = sheetNumber(material, SHEET_LENGTH);
            int sheetBreadth = sheetNumber(material, SHEET_BREADTH);
            int length = pieceLength(book, piece);
            int breadth = pieceBreadth(book, piece);
            if (length <= 0 || breadth <= 0) {
                return 0;
            }
            int alongLength = (sheetLength / length) * (sheetBreadth / breadth);
            int alongBreadth = (sheetBreadth / length) * (sheetLength / breadth);
            switch (sheetNumber(material, SHEET_GRAIN)) {
                case GRAIN_ALONG_LENGTH:
                    return alongLength;
                case GRAIN_ALONG_BREADTH:
                    return alongBreadth;
                default:
                    return Math.max(alongLength, alongBreadth);
            }
        }

        int sheetsFor(int number, int yield) {
            return yield > 0 ? (number + yield - 1) / yield : IMPOSSIBLE;
        }

        int unitsFor(int book, int material) {
            switch (material) {
                case BOARD:
                    return boardUnitsFor(book);
                case PAPER:
                    return sheetsFor(2 * blockNumber(book, COPIES), yieldFor(book, ENDPAPER));
                default:
                    return clothUnitsFor(book);
            }
        }

        private int boardUnitsFor(int book) {
            int copies = blockNumber(book, COPIES);
            int forBoards = sheetsFor(2 * copies, yieldFor(book, FRONT_BOARD));
            int forSpines = sheetsFor(copies, yieldFor(book, SPINE_STRIP));
            return forBoards == IMPOSSIBLE || forSpines == IMPOSSIBLE ? IMPOSSIBLE : forBoards + forSpines;
        }

        private int clothUnitsFor(int book) {
            int millimetres = pieceLength(book, CLOTH_PIECE) * blockNumber(book, COPIES);
            return isClothTooBroad(book) ? IMPOSSIBLE : (millimetres + 99) / 100;
        }

        int reasonAgainst(int book) {
            if (isClothTooBroad(book)) {
                return CLOTH_TOO_BROAD;
            }
            if (unitsFor(book, BOARD) == IMPOSSIBLE || unitsFor(book, PAPER) == IMPOSSIBLE) {
                return YIELD_IS_ZERO;
            }
            for (int material = 0; material < MATERIALS; material++) {
                if (lots.unitsOf(material) < unitsFor(book, material)) {
                    return FIRST_SHORTAGE + material;
                }
            }
            return NOT_REFUSED;
        }

        int useUnitsFor(int book) {
            int sum = 0;
            for (int material = 0; material < MATERIALS; material++) {
                int units = unitsFor(book, material);
                sum += lots.take(material, units);
                used[material] += units;
            }
            copiesMade += blockNumber(book, COPIES);
            madeCost += sum;
            return sum;
        }
    }

    /** The lots of all materials in one row, in the order in which they were bought. */
    private static final class Lots {
        final int[] materials = new int[MOST_LOTS];
        final int[] units = new int[MOST_LOTS];
        final int[] prices = new int[MOST_LOTS];
        int count = 0;

        void copyFrom(Lots other) {
            System.arraycopy(other.materials, 0, materials, 0, MOST_LOTS);
            System.arraycopy(other.units, 0, units, 0, MOST_LOTS);
            System.arraycopy(other.prices, 0, prices, 0, MOST_LOTS);
            count = other.count;
        }

        void put(int material, int lotUnits, int lotPrice) {
            if (count < MOST_LOTS) {
                materials[count] = material;
                units[count] = lotUnits;
                prices[count] = lotPrice;
                count++;
            }
        }

        int countOf(int material) {
            int found = 0;
            for (int slot = 0; slot < count; slot++) {
                if (materials[slot] == material) {
                    found++;
                }
            }
            return found;
        }

        int unitsOf(int material) {
            int sum = 0;
            for (int slot = 0; slot < count; slot++) {
                if (materials[slot] == material) {
                    sum += units[slot];
                }
            }
            return sum;
        }

        int slotOf(int material, int index) {
            int before = 0;
            for (int slot = 0; slot < count; slot++) {
                if (materials[slot] == material) {
                    if (before == index) {
                        return slot;
                    }
                    before++;
                }
            }
            return NONE;
        }

        long worth() {
            long sum = 0;
            for (int slot = 0; slot < count; slot++) {
                sum += (long) units[slot] * prices[slot];
            }
            return sum;
        }

        int take(int material, int number) {
            int missing = number;
            int sum = 0;
            for (int slot = 0; slot < count; slot++) {
                if (materials[slot] == material) {
                    int taken = Math.min(missing, units[slot]);
                    units[slot] -= taken;
                    missing -= taken;
                    sum += taken * prices[slot];
                }
            }
            dropEmptyLots();
            return sum;
        }

        private void dropEmptyLots() {
            int kept = 0;
            for (int slot = 0; slot < count; slot++) {
                if (units[slot] > 0) {
                    materials[kept] = materials[slot];
                    units[kept] = units[slot];
                    prices[kept] = prices[slot];
                    kept++;
                }
            }
            count = kept;
        }
    }

    /** The list prices, in no order: at most one for a material and a day. */
    private static final class Prices {
        final int[] materials = new int[MOST_PRICES];
        final int[] days = new int[MOST_PRICES];
        final int[] prices = new int[MOST_PRICES];
        int count = 0;

        void copyFrom(Prices other) {
            System.arraycopy(other.materials, 0, materials, 0, MOST_PRICES);
            System.arraycopy(other.days, 0, days, 0, MOST_PRICES);
            System.arraycopy(other.prices, 0, prices, 0, MOST_PRICES);
            count = other.count;
        }

        int slotFrom(int material, int day) {
            for (int slot = 0; slot < count; slot++) {
                if (materials[slot] == material && days[slot] == day) {
                    return slot;
                }
            }
            return NONE;
        }

        int listPrice(int material, int day) {
            int latestDay = NONE;
            int listPrice = NONE;
            for (int slot = 0; slot < count; slot++) {
                if (materials[slot] == material && days[slot] <= day && days[slot] > latestDay) {
                    latestDay = days[slot];
                    listPrice = prices[slot];
                }
            }
            return listPrice;
        }

        void put(int material, int day, int newPrice) {
            int slot = slotFrom(material, day);
            if (slot != NONE) {
                prices[slot] = newPrice;
            } else if (count < MOST_PRICES) {
                materials[count] = material;
                days[count] = day;
                prices[count] = newPrice;
                count++;
            }
        }

        void remove(int slot) {
            if (slot >= 0 && slot < count) {
                count--;
                materials[slot] = materials[count];
                days[slot] = days[count];
                prices[slot] = prices[count];
            }
        }
    }

    /** The planner before each of the latest changes, in a ring that is written over from the oldest on. */
    private static final class History {
        private final Plan[] ring = new Plan[MOST_CHANGES];
        private int next = 0;
        int count = 0;

        History() {
            for (int slot = 0; slot < MOST_CHANGES; slot++) {
                ring[slot] = new Plan();
            }
        }

        void keep(Plan plan) {
            ring[next].copyFrom(plan);
            next = (next + 1) % MOST_CHANGES;
            count = Math.min(count + 1, MOST_CHANGES);
        }

        void bringBack(Plan plan) {
            if (count > 0) {
                next = (next + MOST_CHANGES - 1) % MOST_CHANGES;
                count--;
                plan.copyFrom(ring[next]);
            }
        }

        void forget() {
            count = 0;
        }
    }

    /** The sizes of all pieces at one moment, to see which ones a change makes others. */
    private static final class PieceSizes {
        private final int[] lengths = new int[MOST_BOOKS * PIECES];
        private final int[] breadths = new int[MOST_BOOKS * PIECES];

        void note(Plan plan) {
            for (int book = 0; book < plan.bookCount && book < MOST_BOOKS; book++) {
                for (int piece = 0; piece < PIECES; piece++) {
                    lengths[book * PIECES + piece] = plan.pieceLength(book, piece);
                    breadths[book * PIECES + piece] = plan.pieceBreadth(book, piece);
                }
            }
        }

        int changedPieces(Plan plan, int book) {
            if (book < 0 || book >= MOST_BOOKS) {
                return 0;
            }
            int changed = 0;
            for (int piece = 0; piece < PIECES; piece++) {
                if (lengths[book * PIECES + piece] != plan.pieceLength(book, piece)
                        || breadths[book * PIECES + piece] != plan.pieceBreadth(book, piece)) {
                    changed |= 1 << piece;
                }
            }
            return changed;
        }
    }

    /** Where the stations of a block are that has a height. */
    private static final class Stations {
        private static final int KETTLE_PLACE = 12;

        static int tapeCount(int height) {
            return 2 + (height - 80) / 60;
        }

        static int lastStation(int height) {
            return tapeCount(height) + 1;
        }

        // The rule for tapes gives both kettle stitches too: nothing is rounded at the ends.
        static int place(int height, int station) {
            int gaps = lastStation(height);
            return gaps > 0 ? KETTLE_PLACE + station * (height - 2 * KETTLE_PLACE) / gaps : KETTLE_PLACE;
        }

        static int greatestDistance(int height) {
            int greatest = 0;
            int last = lastStation(height);
            for (int station = 1; station <= last; station++) {
                greatest = Math.max(greatest, place(height, station) - place(height, station - 1));
            }
            return greatest;
        }
    }

    /**
     * Puts the cloths of a set into strips. The cloths lie in places from the longest one on, so that the first
     * cloth in a strip is always its longest one and tells its length.
     */
    private static final class ClothCutter {
        private final int[] books = new int[MOST_BOOKS];
        private final int[] lengths = new int[MOST_BOOKS];
        private final int[] breadths = new int[MOST_BOOKS];
        private final int[] stripOf = new int[MOST_BOOKS];
        private final int[] breadthLeft = new int[MOST_BOOKS];
        private final int[] breadthSums = new int[1 << MOST_BOOKS];
        private final int[] leastLengths = new int[1 << MOST_BOOKS];
        private int roll = 0;
        private int count = 0;
        int fittedStrips = 0;
        int fittedLength = 0;

        void lay(Plan plan, int set) {
            roll = plan.settings[ROLL];
            count = 0;
            for (int book = 0; book < plan.bookCount; book++) {
                if (((set >> book) & 1) != 0) {
                    layCloth(book, plan.pieceLength(book, CLOTH_PIECE), plan.pieceBreadth(book, CLOTH_PIECE));
                }
            }
        }

        private void layCloth(int book, int length, int breadth) {
            if (count >= MOST_BOOKS) {
                return;
            }
            int place = count;
            for (; place > 0 && lengths[place - 1] < length; place--) {
                books[place] = books[place - 1];
                lengths[place] = lengths[place - 1];
                breadths[place] = breadths[place - 1];
            }
            books[place] = book;
            lengths[place] = length;
            breadths[place] = breadth;
            count++;
        }

        long clothArea() {
            long sum = 0;
            for (int place = 0; place < count; place++) {
                sum += (long) lengths[place] * breadths[place];
            }
            return sum;
        }

        void fit() {
            fittedStrips = 0;
            fittedLength = 0;
            for (int place = 0; place < count; place++) {
                int strip = firstStripWith(breadths[place]);
                if (strip == fittedStrips) {
                    fittedStrips++;
                    fittedLength += lengths[place];
                    breadthLeft[strip] = roll;
                }
                breadthLeft[strip] -= breadths[place];
                stripOf[place] = strip;
            }
        }

        private int firstStripWith(int breadth) {
            for (int strip = 0; strip < fittedStrips; strip++) {
                if (breadthLeft[strip] >= breadth) {
                    return strip;
                }
            }
            return fittedStrips;
        }

        int stripOfBook(int book) {
            for (int place = 0; place < count; place++) {
                if (books[place] == book) {
                    return stripOf[place];
                }
            }
            return NONE;
        }

        int leastLength() {
            int all = (1 << count) - 1;
            breadthSums[0] = 0;
            leastLengths[0] = 0;
            // The strip that is taken first holds the longest cloth, place 0: it takes and leaves only even sets.
            for (int places = 2; places < all; places += 2) {
                breadthSums[places] = breadthSums[places & (places - 1)] + breadths[longestOf(places)];
                leastLengths[places] = leastLengthOf(places);
            }
            return leastLengthOf(all);
        }

        private int leastLengthOf(int places) {
            if (places == 0) {
                return 0;
            }
            int longest = longestOf(places);
            int others = places & (places - 1);
            int best = lengths[longest] + leastLengths[others];
            int beside = others;
            int subsets = 1 << Integer.bitCount(others);
            for (int subset = 0; subset < subsets; subset++) {
                if (breadths[longest] + breadthSums[beside] <= roll) {
                    best = Math.min(best, lengths[longest] + leastLengths[others ^ beside]);
                }
                beside = (beside - 1) & others;
            }
            return best;
        }

        private static int longestOf(int places) {
            int lowestPlace = places & -places;
            return Integer.bitCount(lowestPlace - 1);
        }
    }

    /** The text buffer, and what was last read from it. */
    private static final class BlockText {
        private final char[] signs = new char[MOST_SIGNS];
        final int[] numbers = new int[BLOCK_NUMBERS];
        private int at = 0;
        int length = 0;
        int fault = NONE;

        void put(char sign) {
            if (length < MOST_SIGNS) {
                signs[length] = sign;
                length++;
            }
        }

        boolean readAndEmpty() {
            at = 0;
            boolean isFaultless = readBlock() && readCopies();
            fault = isFaultless ? NONE : at;
            length = 0;
            return isFaultless;
        }

        private boolean readBlock() {
            return readNumber(HEIGHT, 3) && readSign('x') && readNumber(WIDTH, 3) && readSign('x')
                    && readNumber(THICKNESS, 3);
        }

        private boolean readCopies() {
            numbers[COPIES] = 1;
            return at == length || readSign('*') && readNumber(COPIES, 2) && at == length;
        }

        private boolean readSign(char sign) {
            if (at >= length || at >= MOST_SIGNS || signs[at] != sign) {
                return false;
            }
            at++;
            return true;
        }

        private boolean readNumber(int what, int mostDigits) {
            int number = 0;
            for (int digit = 0; digit < mostDigits && isDigitAt(digit == 0 ? '1' : '0'); digit++) {
                number = 10 * number + (signs[at] - '0');
                at++;
            }
            numbers[what] = number;
            return number > 0;
        }

        private boolean isDigitAt(char lowest) {
            return at < length && at < MOST_SIGNS && signs[at] >= lowest && signs[at] <= '9';
        }
    }
}
