/** Each sentence of the promises 1 to 8 (a new object, books and settings). */
public final class Promises1To8Test {
    private static final int[] BLOCK_LOW = {80, 60, 5, 1};
    private static final int[] BLOCK_HIGH = {400, 300, 80, 50};
    private static final int[] SETTING_LOW = {0, 4, 8, 1, 300};
    private static final int[] SETTING_HIGH = {6, 12, 25, 4, 1500};

    public static void main(String[] args) {
        Sentences.ofPromises(Promises1To8Test.class, 1, 8, "Books and settings.");
    }

    // Promise 1: A new object

    @Sentence(in = "Promise 1", says = "Creates a planner without books, lots, prices and orders, on day 0.")
    static void nothingIsKeptAtFirst() {
        BindingPlanner x = new BindingPlanner();
        for (int account = 0; account <= 10; account++) {
            Checks.is("account " + account, 0, x.account(account));
        }
        Checks.thrown("no book", Refusals.INDEX, () -> x.block(0, 0));
        for (int each = 0; each < 3; each++) {
            int material = each;
            Checks.is("no units", 0, x.stock(material));
            Checks.thrown("no lot", Refusals.MISSING, () -> x.lot(material, 0, false));
            Checks.thrown("no price", Refusals.MISSING, () -> x.price(material, 9999));
        }
        Checks.thrown("no order was refused", Refusals.MISSING, x::refusal);
        Checks.thrown("no change", Refusals.STATE, x::undo);
        Checks.thrown("no snapshot", Refusals.STATE, x::restore);
        Checks.is("no fault", -1, x.faultPosition());
        Checks.thrown("no text", Refusals.ARGUMENT, x::readBook);
    }

    @Sentence(in = "Promise 1", says = "Creates a planner")
    static void newOneBesideAFullOne() {
        BindingPlanner x = Planners.full();
        BindingPlanner y = new BindingPlanner();
        Checks.is("no book beside a full planner", 0, y.account(1));
        Checks.is("no lot beside a full planner", 0, y.account(6));
        y.addBook(80, 60, 5);
        Checks.is("the full planner stays", 200, x.block(0, 0));
    }

    // Promise 2: addBook

    @Sentence(in = "Promise 2", says = "Adds a book with one copy.")
    static void oneCopy() {
        BindingPlanner x = new BindingPlanner();
        x.addBook(80, 60, 5);
        x.setBlock(0, 3, 50);
        x.addBook(400, 300, 80);
        Checks.is("the new book", 1, x.block(1, 3));
        Checks.is("the one before it stays", 50, x.block(0, 3));
        x.setBlock(1, 3, 7);
        x.undo();
        x.undo();
        x.addBook(400, 300, 80);
        Checks.is("in place of an undone one", 1, x.block(1, 3));
    }

    private static void isAdded(int height, int width, int thickness) {
        BindingPlanner x = new BindingPlanner();
        String block = height + " x " + width + " x " + thickness;
        Checks.is("number of " + block, 0, x.addBook(height, width, thickness));
        Checks.is("height of " + block, height, x.block(0, 0));
        Checks.is("width of " + block, width, x.block(0, 1));
        Checks.is("thickness of " + block, thickness, x.block(0, 2));
    }

    private static void isNotAdded(int height, int width, int thickness) {
        BindingPlanner x = new BindingPlanner();
        Checks.thrown(height + " x " + width + " x " + thickness, Refusals.ARGUMENT,
            () -> x.addBook(height, width, thickness));
        Checks.is("no book", 0, x.account(1));
    }

    @Sentence(in = "Promise 2", says = "- `height`: the height")
    static void addBookOfEachHeight() {
        for (int height = 80; height <= 400; height++) {
            isAdded(height, 60, 5);
        }
        for (int height : new int[] {Refusals.LEAST, -80, 0, 5, 60, 79, 401, Refusals.MOST}) {
            isNotAdded(height, 60, 5);
        }
    }

    @Sentence(in = "Promise 2", says = "- `width`: the width")
    static void addBookOfEachWidth() {
        for (int width = 60; width <= 300; width++) {
            isAdded(400, width, 5);
        }
        for (int width : new int[] {Refusals.LEAST, -60, 0, 5, 59, 301, 400, Refusals.MOST}) {
            isNotAdded(400, width, 5);
        }
    }

    @Sentence(in = "Promise 2", says = "- `thickness`: the thickness")
    static void addBookOfEachThickness() {
        for (int thickness = 5; thickness <= 80; thickness++) {
            isAdded(80, 300, thickness);
        }
        for (int thickness : new int[] {Refusals.LEAST, -5, 0, 1, 4, 81, 300, Refusals.MOST}) {
            isNotAdded(80, 300, thickness);
        }
    }

    @Sentence(in = "Promise 2", says = "Returns the number of the book.")
    static void numbersFrom0To9() {
        BindingPlanner x = new BindingPlanner();
        for (int book = 0; book < 10; book++) {
            Checks.is("number", book, x.addBook(80, 60, 5));
        }
        x.undo();
        Checks.is("the last number again", 9, x.addBook(80, 60, 5));
    }

    @Sentence(in = "Promise 2", says = "Throws `IllegalArgumentException` if a number is out of range")
    static void addBookOutOfRange() {
        Refusals.leaves(Refusals.ARGUMENT, Planners::busy, x -> x.addBook(79, 60, 5), x -> x.addBook(401, 60, 5),
            x -> x.addBook(80, 59, 5), x -> x.addBook(80, 301, 5), x -> x.addBook(80, 60, 4),
            x -> x.addBook(80, 60, 81), x -> x.addBook(Refusals.LEAST, 60, 5), x -> x.addBook(80, Refusals.MOST, 5),
            x -> x.addBook(80, 60, -5), x -> x.addBook(0, 0, 0));
        BindingPlanner x = new BindingPlanner();
        Checks.is("the least ones", 0, x.addBook(80, 60, 5));
        Checks.is("the greatest ones", 1, x.addBook(400, 300, 80));
    }

    @Sentence(in = "Promise 2", says = "Throws `IllegalStateException` if 10 books are kept")
    static void addBookWhereTenAreKept() {
        Refusals.leaves(Refusals.STATE, Planners::withTenBooks, x -> x.addBook(80, 60, 5),
            x -> x.addBook(400, 300, 80));
        BindingPlanner x = Planners.withTenBooks();
        x.undo();
        Checks.is("where nine are kept", 9, x.addBook(80, 60, 5));
    }

    // Promise 3: setBlock

    @Sentence(in = "Promise 3", says = "Changes a number of a block.")
    static void changedAgainAndAgain() {
        BindingPlanner x = Planners.withBook();
        x.setBlock(0, 0, 400);
        Checks.is("height", 400, x.block(0, 0));
        Checks.is("length of an endpaper", 400, x.piece(0, 4, false));
        Checks.is("tapes", 7, x.tapes(0));
        x.setBlock(0, 0, 80);
        Checks.is("height then", 80, x.block(0, 0));
        Checks.is("length of an endpaper then", 80, x.piece(0, 4, false));
        Checks.is("tapes then", 2, x.tapes(0));
        x.setBlock(0, 3, 50);
        Checks.is("endpapers of 50 copies, 16 of a sheet", 5, x.needed(0, 1));
        x.undo();
        Checks.is("endpapers of one copy", 1, x.needed(0, 1));
    }

    @Sentence(in = "Promise 3", says = "- `book`: the book")
    static void setBlockOfEachBookOfTen() {
        int[] values = {333, 222, 77, 7};
        int[] changed = {31, 27, 12, 0};
        for (int set = 0; set < 10; set++) {
            BindingPlanner x = TenBooks.made();
            for (int what = 0; what < 4; what++) {
                Checks.is("set of pieces of book " + set, changed[what], x.setBlock(set, what, values[what]));
            }
            for (int book = 0; book < 10; book++) {
                int[] due = book == set ? values : new int[] {100 + 30 * book, 70 + 20 * book, 6 + 8 * book, 1 + 5 * book};
                for (int what = 0; what < 4; what++) {
                    Checks.is("number " + what + " of book " + book, due[what], x.block(book, what));
                }
            }
        }
        BindingPlanner x = TenBooks.made();
        Checks.thrown("book 10", Refusals.INDEX, () -> x.setBlock(10, 0, 333));
        Checks.thrown("book -1", Refusals.INDEX, () -> x.setBlock(-1, 0, 333));
    }

    @Sentence(in = "Promise 3", says = "- `value`: the value")
    static void setBlockOfEachValue() {
        for (int each = 0; each < 4; each++) {
            int what = each;
            for (int value = BLOCK_LOW[what]; value <= BLOCK_HIGH[what]; value++) {
                BindingPlanner x = Planners.withBook();
                x.setBlock(0, what, value);
                Checks.is("number " + what, value, x.block(0, what));
            }
            BindingPlanner x = Planners.withBook();
            Checks.thrown("below", Refusals.ARGUMENT, () -> x.setBlock(0, what, BLOCK_LOW[what] - 1));
            Checks.thrown("above", Refusals.ARGUMENT, () -> x.setBlock(0, what, BLOCK_HIGH[what] + 1));
        }
    }

    @Sentence(in = "Promise 3", says = "- `what`: 0 for the height, 1 for the width, 2 for the thickness, 3 for the "
        + "copies")
    static void setBlockOfEachNumber() {
        for (int set = 0; set < 4; set++) {
            for (int value : new int[] {BLOCK_LOW[set], BLOCK_HIGH[set]}) {
                BindingPlanner x = Planners.withBook();
                x.addBook(200, 140, 20);
                x.setBlock(1, set, value);
                int[] due = {200, 140, 20, 1};
                for (int what = 0; what < 4; what++) {
                    Checks.is("the other book, number " + what, due[what], x.block(0, what));
                    Checks.is("number " + what, what == set ? value : due[what], x.block(1, what));
                }
            }
        }
    }

    @Sentence(in = "Promise 3", says = "Returns the set of pieces whose length or breadth is another one by that, bit p "
        + "for piece p.")
    static void setsFromNoPieceToAllPieces() {
        BindingPlanner x = Planners.withBook();
        Checks.is("all pieces: from the least height", 31, x.setBlock(0, 0, 80));
        Checks.is("all pieces: to the greatest height", 31, x.setBlock(0, 0, 400));
        Checks.is("all but piece 2", 1 + 2 + 8 + 16, x.setBlock(0, 1, 300));
        Checks.is("pieces 2 and 3", 4 + 8, x.setBlock(0, 2, 80));
        Checks.is("no piece: copies", 0, x.setBlock(0, 3, 50));
        int[] same = {400, 300, 80, 50};
        for (int what = 0; what < 4; what++) {
            Checks.is("no piece: the same value", 0, x.setBlock(0, what, same[what]));
        }
        Checks.is("a millimetre", 31, x.setBlock(0, 0, 399));
    }

    @Sentence(in = "Promise 3", says = "Throws `IndexOutOfBoundsException` if there is no such book")
    static void setBlockWithoutSuchABook() {
        Refusals.leaves(Refusals.INDEX, BindingPlanner::new, x -> x.setBlock(0, 0, 100));
        Refusals.leaves(Refusals.INDEX, Planners::busy, x -> x.setBlock(2, 0, 100), x -> x.setBlock(-1, 0, 100),
            x -> x.setBlock(Refusals.LEAST, 3, 1), x -> x.setBlock(Refusals.MOST, 3, 1));
        Refusals.leaves(Refusals.INDEX, Planners::withTenBooks, x -> x.setBlock(10, 0, 100));
        Checks.is("the last of ten", 31, Planners.withTenBooks().setBlock(9, 0, 100));
    }

    @Sentence(in = "Promise 3", says = "Throws `IllegalArgumentException` if what is not from 0 to 3")
    static void setBlockOfNoSuchNumber() {
        Refusals.leaves(Refusals.ARGUMENT, Planners::busy, x -> x.setBlock(0, -1, 80), x -> x.setBlock(0, 4, 80),
            x -> x.setBlock(0, 4, 1), x -> x.setBlock(0, Refusals.LEAST, 80), x -> x.setBlock(0, Refusals.MOST, 80));
    }

    @Sentence(in = "Promise 3", says = "or the value is out of range")
    static void setBlockOutOfRange() {
        for (int each = 0; each < 4; each++) {
            int what = each;
            Refusals.leaves(Refusals.ARGUMENT, Planners::busy, x -> x.setBlock(0, what, BLOCK_LOW[what] - 1),
                x -> x.setBlock(0, what, BLOCK_HIGH[what] + 1), x -> x.setBlock(0, what, -BLOCK_LOW[what]),
                x -> x.setBlock(0, what, Refusals.LEAST), x -> x.setBlock(0, what, Refusals.MOST));
            BindingPlanner x = Planners.withBook();
            x.setBlock(0, what, BLOCK_LOW[what]);
            Checks.is("lowest", BLOCK_LOW[what], x.block(0, what));
            x.setBlock(0, what, BLOCK_HIGH[what]);
            Checks.is("highest", BLOCK_HIGH[what], x.block(0, what));
        }
    }

    // Promise 4: block

    @Sentence(in = "Promise 4", says = "Returns a number of a block.")
    static void leastAndGreatestNumbersOfABlock() {
        BindingPlanner x = new BindingPlanner();
        x.addBook(80, 60, 5);
        x.addBook(400, 300, 80);
        x.setBlock(1, 3, 50);
        for (int what = 0; what < 4; what++) {
            Checks.is("least of " + what, BLOCK_LOW[what], x.block(0, what));
            Checks.is("greatest of " + what, BLOCK_HIGH[what], x.block(1, what));
        }
    }

    @Sentence(in = "Promise 4", says = "- `book`: the book")
    static void blockOfEachBookOfTen() {
        TenBooks.each("height", (x, book) -> x.block(book, 0), 100, 130, 160, 190, 220, 250, 280, 310, 340, 370);
        TenBooks.each("width", (x, book) -> x.block(book, 1), 70, 90, 110, 130, 150, 170, 190, 210, 230, 250);
        TenBooks.each("thickness", (x, book) -> x.block(book, 2), 6, 14, 22, 30, 38, 46, 54, 62, 70, 78);
        TenBooks.each("copies", (x, book) -> x.block(book, 3), 1, 6, 11, 16, 21, 26, 31, 36, 41, 46);
    }

    @Sentence(in = "Promise 4", says = "- `what`: as for setBlock")
    static void blockTellsWhatSetBlockSet() {
        int[] values = {301, 201, 51, 31};
        for (int each = 0; each < 4; each++) {
            int what = each;
            BindingPlanner x = Planners.withBook();
            x.setBlock(0, what, values[what]);
            int[] due = {200, 140, 20, 1};
            due[what] = values[what];
            for (int asked = 0; asked < 4; asked++) {
                Checks.is("number " + asked + " where number " + what + " was set", due[asked], x.block(0, asked));
            }
        }
        BindingPlanner x = Planners.withBook();
        for (int what : new int[] {-1, 4}) {
            Checks.thrown("set of " + what, Refusals.ARGUMENT, () -> x.setBlock(0, what, 80));
            Checks.thrown("asked for " + what, Refusals.ARGUMENT, () -> x.block(0, what));
        }
    }

    @Sentence(in = "Promise 4", says = "Returns the number.")
    static void numberThatIsKeptNow() {
        BindingPlanner x = Planners.withBook();
        for (int what = 0; what < 4; what++) {
            int first = x.block(0, what);
            x.setBlock(0, what, BLOCK_LOW[what]);
            Checks.is("the least", BLOCK_LOW[what], x.block(0, what));
            x.setBlock(0, what, BLOCK_HIGH[what]);
            Checks.is("the greatest", BLOCK_HIGH[what], x.block(0, what));
            x.undo();
            Checks.is("the least again", BLOCK_LOW[what], x.block(0, what));
            x.undo();
            Checks.is("the first again", first, x.block(0, what));
        }
    }

    @Sentence(in = "Promise 4", says = "Throws `IndexOutOfBoundsException` if there is no such book")
    static void blockWithoutSuchABook() {
        Refusals.leaves(Refusals.INDEX, BindingPlanner::new, x -> x.block(0, 0));
        Refusals.leaves(Refusals.INDEX, Planners::busy, x -> x.block(2, 0), x -> x.block(-1, 0),
            x -> x.block(Refusals.LEAST, 0), x -> x.block(Refusals.MOST, 0));
        Refusals.leaves(Refusals.INDEX, Planners::withTenBooks, x -> x.block(10, 3));
        Checks.is("the last of ten", 200, Planners.withTenBooks().block(9, 0));
    }

    @Sentence(in = "Promise 4", says = "Throws `IllegalArgumentException` if what is not from 0 to 3")
    static void blockOfNoSuchNumber() {
        Refusals.leaves(Refusals.ARGUMENT, Planners::busy, x -> x.block(0, -1), x -> x.block(0, 4),
            x -> x.block(1, Refusals.LEAST), x -> x.block(1, Refusals.MOST));
        BindingPlanner x = Planners.withBook();
        Checks.is("what 0", 200, x.block(0, 0));
        Checks.is("what 3", 1, x.block(0, 3));
    }

    // Promise 5: set

    private static void settingsAre(String when, BindingPlanner x, int... due) {
        for (int setting = 0; setting < 5; setting++) {
            Checks.is("setting " + setting + " " + when, due[setting], x.setting(setting));
        }
    }

    @Sentence(in = "Promise 5", says = "Changes a setting.")
    static void settingsChangeWhatFollowsFromThem() {
        BindingPlanner x = Planners.withBook();
        x.set(0, 4);
        x.set(1, 9);
        x.set(2, 20);
        x.set(3, 3);
        x.set(4, 347);
        settingsAre("after five changes", x, 4, 9, 20, 3, 347);
        Checks.is("length of a board", 208, x.piece(0, 0, false));
        Checks.is("breadth of a board", 135, x.piece(0, 0, true));
        Checks.is("breadth of the spine strip", 26, x.piece(0, 2, true));
        Checks.is("length of the cloth", 248, x.piece(0, 3, false));
        Checks.is("breadth of the cloth", 354, x.piece(0, 3, true));
        Checks.is("too broad for the roll", 1, x.wouldRefuse(0));
        x.set(4, 354);
        Checks.is("not too broad", 3, x.wouldRefuse(0));
        Checks.is("a book that comes later", 1, x.addBook(200, 140, 20));
        Checks.is("is cut by the same settings", 354, x.piece(1, 3, true));
    }

    @Sentence(in = "Promise 5", says = "- `setting`: the setting")
    static void setOfEachSetting() {
        int[] values = {5, 6, 9, 4, 700};
        for (int set = 0; set < 5; set++) {
            BindingPlanner x = new BindingPlanner();
            int[] due = {3, 8, 15, 2, 1000};
            settingsAre("at first", x, due);
            x.set(set, values[set]);
            due[set] = values[set];
            settingsAre("after a change of " + set, x, due);
        }
        BindingPlanner x = new BindingPlanner();
        Checks.thrown("setting -1", Refusals.INDEX, () -> x.set(-1, 5));
        Checks.thrown("setting 5", Refusals.INDEX, () -> x.set(5, 5));
    }

    @Sentence(in = "Promise 5", says = "- `value`: the value")
    static void setOfEachValue() {
        for (int each = 0; each < 5; each++) {
            int setting = each;
            for (int value = SETTING_LOW[setting]; value <= SETTING_HIGH[setting]; value++) {
                BindingPlanner x = new BindingPlanner();
                x.set(setting, value);
                Checks.is("setting " + setting, value, x.setting(setting));
            }
            BindingPlanner x = new BindingPlanner();
            Checks.thrown("below", Refusals.ARGUMENT, () -> x.set(setting, SETTING_LOW[setting] - 1));
            Checks.thrown("above", Refusals.ARGUMENT, () -> x.set(setting, SETTING_HIGH[setting] + 1));
        }
    }

    @Sentence(in = "Promise 5", says = "Returns the number of pieces of all books whose length or breadth is another one "
        + "by that.")
    static void countsFromNoBookToTenBooks() {
        int[] perBook = {4, 2, 1, 2, 0};
        for (int setting = 0; setting < 5; setting++) {
            BindingPlanner none = new BindingPlanner();
            Checks.is("no books, setting " + setting, 0, none.set(setting, SETTING_HIGH[setting]));
            BindingPlanner one = Planners.withBook();
            Checks.is("one book, setting " + setting, perBook[setting], one.set(setting, SETTING_LOW[setting]));
            BindingPlanner ten = Planners.withTenBooks();
            Checks.is("ten books, setting " + setting, 10 * perBook[setting], ten.set(setting, SETTING_LOW[setting]));
            Checks.is("the same value, setting " + setting, 0, ten.set(setting, SETTING_LOW[setting]));
            Checks.is("from least to greatest, setting " + setting, 10 * perBook[setting],
                ten.set(setting, SETTING_HIGH[setting]));
        }
    }

    @Sentence(in = "Promise 5", says = "Throws `IndexOutOfBoundsException` if there is no such setting")
    static void setOfNoSuchSetting() {
        Refusals.leaves(Refusals.INDEX, Planners::busy, x -> x.set(-1, 4), x -> x.set(5, 4), x -> x.set(5, 300),
            x -> x.set(Refusals.LEAST, 4), x -> x.set(Refusals.MOST, 4));
        BindingPlanner x = new BindingPlanner();
        x.set(0, 0);
        x.set(4, 300);
        Checks.is("the first", 0, x.setting(0));
        Checks.is("the last", 300, x.setting(4));
    }

    @Sentence(in = "Promise 5", says = "Throws `IllegalArgumentException` if the value is out of range")
    static void setOutOfRange() {
        for (int each = 0; each < 5; each++) {
            int setting = each;
            Refusals.leaves(Refusals.ARGUMENT, Planners::busy, x -> x.set(setting, SETTING_LOW[setting] - 1),
                x -> x.set(setting, SETTING_HIGH[setting] + 1), x -> x.set(setting, Refusals.LEAST),
                x -> x.set(setting, Refusals.MOST));
            BindingPlanner x = new BindingPlanner();
            x.set(setting, SETTING_LOW[setting]);
            Checks.is("lowest", SETTING_LOW[setting], x.setting(setting));
            x.set(setting, SETTING_HIGH[setting]);
            Checks.is("highest", SETTING_HIGH[setting], x.setting(setting));
        }
    }

    // Promise 6: setting

    @Sentence(in = "Promise 6", says = "Returns a setting.")
    static void settingsOfANewPlannerAndAfterChanges() {
        BindingPlanner x = new BindingPlanner();
        settingsAre("at first", x, 3, 8, 15, 2, 1000);
        x.set(4, 1500);
        x.set(4, 301);
        settingsAre("after two changes", x, 3, 8, 15, 2, 301);
        x.undo();
        settingsAre("after one undo", x, 3, 8, 15, 2, 1500);
    }

    @Sentence(in = "Promise 6", says = "- `setting`: the setting")
    static void settingOfEachNumber() {
        BindingPlanner x = new BindingPlanner();
        int[] values = {1, 5, 10, 3, 500};
        for (int setting = 4; setting >= 0; setting--) {
            x.set(setting, values[setting]);
        }
        settingsAre("after all changes", x, values);
        Checks.thrown("setting -1", Refusals.INDEX, () -> x.setting(-1));
        Checks.thrown("setting 5", Refusals.INDEX, () -> x.setting(5));
    }

    @Sentence(in = "Promise 6", says = "Returns the value.")
    static void leastAndGreatestSettings() {
        BindingPlanner x = new BindingPlanner();
        for (int setting = 0; setting < 5; setting++) {
            x.set(setting, SETTING_LOW[setting]);
        }
        for (int setting = 0; setting < 5; setting++) {
            Checks.is("least", SETTING_LOW[setting], x.setting(setting));
            x.set(setting, SETTING_HIGH[setting]);
        }
        for (int setting = 0; setting < 5; setting++) {
            Checks.is("greatest", SETTING_HIGH[setting], x.setting(setting));
        }
    }

    @Sentence(in = "Promise 6", says = "Throws `IndexOutOfBoundsException` if there is no such setting")
    static void settingThatDoesNotExist() {
        Refusals.leaves(Refusals.INDEX, Planners::busy, x -> x.setting(-1), x -> x.setting(5),
            x -> x.setting(Refusals.LEAST), x -> x.setting(Refusals.MOST));
        Checks.is("the first", 3, new BindingPlanner().setting(0));
        Checks.is("the last", 1000, new BindingPlanner().setting(4));
    }

    // Promise 7: piece

    @Sentence(in = "Promise 7", says = "Returns a size of a piece.")
    static void sizesFollowTheBlockAndTheSettings() {
        BindingPlanner x = Planners.withBook();
        Checks.is("cloth", 340, x.piece(0, 3, true));
        x.setBlock(0, 1, 141);
        Checks.is("cloth of a broader block", 342, x.piece(0, 3, true));
        x.set(2, 16);
        Checks.is("with a greater turn-in", 344, x.piece(0, 3, true));
        x.undo();
        x.undo();
        Checks.is("cloth again", 340, x.piece(0, 3, true));
        x.setBlock(0, 3, 50);
        Checks.is("of 50 copies each is as long as one", 236, x.piece(0, 3, false));
    }

    @Sentence(in = "Promise 7", says = "- `book`: the book")
    static void pieceOfEachBookOfTen() {
        TenBooks.each("length of a board", (x, book) -> x.piece(book, 0, false), 106, 136, 166, 196, 226, 256, 286, 316,
            346, 376);
        TenBooks.each("breadth of a board", (x, book) -> x.piece(book, 1, true), 65, 85, 105, 125, 145, 165, 185, 205,
            225, 245);
        TenBooks.each("breadth of the spine strip", (x, book) -> x.piece(book, 2, true), 10, 18, 26, 34, 42, 50, 58, 66,
            74, 82);
        TenBooks.each("breadth of the cloth", (x, book) -> x.piece(book, 3, true), 186, 234, 282, 330, 378, 426, 474,
            522, 570, 618);
        TenBooks.each("breadth of an endpaper", (x, book) -> x.piece(book, 4, true), 140, 180, 220, 260, 300, 340, 380,
            420, 460, 500);
    }

    @Sentence(in = "Promise 7", says = "- `isBreadth`: whether the breadth is asked for")
    static void breadthOnlyWhereItIsAskedFor() {
        BindingPlanner x = Planners.withBook();
        int[] lengths = {206, 206, 206, 236, 200};
        int[] breadths = {135, 135, 24, 340, 280};
        for (int piece = 0; piece < 5; piece++) {
            Checks.is("asked for, piece " + piece, breadths[piece], x.piece(0, piece, true));
            Checks.is("not asked for, piece " + piece, lengths[piece], x.piece(0, piece, false));
        }
        for (boolean isBreadth : new boolean[] {false, true}) {
            Checks.thrown("piece 5", Refusals.INDEX, () -> x.piece(0, 5, isBreadth));
            Checks.thrown("book 1", Refusals.INDEX, () -> x.piece(1, 0, isBreadth));
        }
    }

    @Sentence(in = "Promise 7", says = "- `piece`: the piece, 0 to 4")
    static void eachPiece() {
        BindingPlanner x = Planners.withBook();
        int[] lengths = {206, 206, 206, 236, 200};
        for (int piece = 0; piece <= 4; piece++) {
            Checks.is("length of piece " + piece, lengths[piece], x.piece(0, piece, false));
        }
    }

    @Sentence(in = "Promise 7", says = "Returns the length or breadth.")
    static void lengthAndBreadth() {
        BindingPlanner x = new BindingPlanner();
        x.addBook(80, 60, 5);
        x.addBook(400, 300, 80);
        int[] least = {86, 55, 86, 55, 86, 9, 116, 165, 80, 120};
        int[] greatest = {406, 295, 406, 295, 406, 84, 436, 720, 400, 600};
        for (int piece = 0; piece <= 4; piece++) {
            Checks.is("least length " + piece, least[2 * piece], x.piece(0, piece, false));
            Checks.is("least breadth " + piece, least[2 * piece + 1], x.piece(0, piece, true));
            Checks.is("greatest length " + piece, greatest[2 * piece], x.piece(1, piece, false));
            Checks.is("greatest breadth " + piece, greatest[2 * piece + 1], x.piece(1, piece, true));
        }
    }

    @Sentence(in = "Promise 7", says = "Throws `IndexOutOfBoundsException` if there is no such book or piece")
    static void noSuchBookOrPiece() {
        Refusals.leaves(Refusals.INDEX, BindingPlanner::new, x -> x.piece(0, 0, false));
        Refusals.leaves(Refusals.INDEX, Planners::busy, x -> x.piece(2, 0, true), x -> x.piece(-1, 0, true),
            x -> x.piece(0, 5, true), x -> x.piece(0, -1, false), x -> x.piece(Refusals.MOST, 0, true),
            x -> x.piece(0, Refusals.MOST, true), x -> x.piece(Refusals.LEAST, Refusals.LEAST, false));
        Refusals.leaves(Refusals.INDEX, Planners::withTenBooks, x -> x.piece(10, 0, true));
        Checks.is("the last piece of the last of ten", 280, Planners.withTenBooks().piece(9, 4, true));
    }

    // Promise 8: wouldRefuse

    @Sentence(in = "Promise 8", says = "Returns the first reason for which making a book would be refused.")
    static void reasonsAreNotKeptForRefusal() {
        BindingPlanner x = Planners.withBook();
        Checks.is("reason", 3, x.wouldRefuse(0));
        Checks.thrown("no make was refused", Refusals.MISSING, x::refusal);
        BindingPlanner y = Planners.busy();
        Checks.is("reason before", 3, y.refusal());
        y.set(4, 300);
        Checks.is("another one", 1, y.wouldRefuse(0));
        Checks.is("reason after", 3, y.refusal());
    }

    @Sentence(in = "Promise 8", says = "- `book`: the book")
    static void reasonForEachBookOfTen() {
        TenBooks.each("reason", (x, book) -> {
            x.set(4, 500);
            x.setSheet(1, 1000, 360, 1);
            return x.wouldRefuse(book);
        }, 3, 3, 3, 3, 3, 3, 2, 1, 1, 1);
        TenBooks.each("reason with lots", (x, book) -> {
            x.buy(0, 4, 1);
            x.buy(1, 4, 1);
            x.buy(2, 22, 1);
            int reason = x.wouldRefuse(book);
            x.undo();
            x.undo();
            x.undo();
            return reason;
        }, 0, 0, 0, 5, 4, 3, 3, 3, 3, 3);
    }

    @Sentence(in = "Promise 8", says = "Returns the reason, or 0.")
    static void reasonsFrom0To5() {
        BindingPlanner x = Planners.withBook();
        x.set(4, 339);
        Checks.is("roll too narrow", 1, x.wouldRefuse(0));
        x.set(4, 340);
        x.setSheet(0, 205, 700, 1);
        Checks.is("sheet of board too short", 2, x.wouldRefuse(0));
        x.setSheet(0, 1000, 700, 1);
        x.setSheet(1, 199, 700, 1);
        Checks.is("sheet of paper too short", 2, x.wouldRefuse(0));
        x.setSheet(1, 1000, 700, 1);
        x.buy(0, 1, 1);
        Checks.is("a sheet of board too few", 3, x.wouldRefuse(0));
        x.buy(0, 1, 1);
        Checks.is("a sheet of paper too few", 4, x.wouldRefuse(0));
        x.buy(1, 1, 1);
        x.buy(2, 2, 1);
        Checks.is("a unit of cloth too few", 5, x.wouldRefuse(0));
        x.buy(2, 1, 1);
        Checks.is("just enough", 0, x.wouldRefuse(0));
    }

    @Sentence(in = "Promise 8", says = "Throws `IndexOutOfBoundsException` if there is no such book")
    static void wouldRefuseWithoutSuchABook() {
        Refusals.leaves(Refusals.INDEX, BindingPlanner::new, x -> x.wouldRefuse(0));
        Refusals.leaves(Refusals.INDEX, Planners::busy, x -> x.wouldRefuse(2), x -> x.wouldRefuse(-1),
            x -> x.wouldRefuse(Refusals.LEAST), x -> x.wouldRefuse(Refusals.MOST));
        Refusals.leaves(Refusals.INDEX, Planners::withTenBooks, x -> x.wouldRefuse(10));
        Checks.is("the last of ten", 3, Planners.withTenBooks().wouldRefuse(9));
    }
}
