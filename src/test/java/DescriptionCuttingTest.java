import java.util.List;
import java.util.function.BiFunction;

/** Each sentence of "What it is" and of the first half of "Description", Books to Cloth. */
public final class DescriptionCuttingTest {
    public static void main(String[] args) {
        Sentences.ofSections(DescriptionCuttingTest.class, List.of("What it is", "Books", "Settings", "Pieces",
            "Materials", "Grain", "Stations", "Cloth", "Description", "Not promised"),
            "what later calls answer is free.",
            "The constructor and the methods follow, a promise each: the signature, then what it does.",
            "How the state is held inside the object is free, as are the speed of each call, the text of toString and "
                + "the behaviour of equals and hashCode.",
            "Use of one object from several threads at once is not promised to be safe.",
            "Nothing is promised beyond the answers and state changes described above, and nothing about an object "
                + "after its 512th call.");
    }

    @Sentence(in = "What it is", says = "A planner for binding books: sizes of boards, cloth and papers that follow from "
        + "the blocks by rules, grain directions and how many pieces a sheet gives, sewing stations, cloth that is cut "
        + "from a roll with the least length, lots of sheets that are used up the oldest first, price lists by days, "
        + "orders with reasons for what is refused, a text format for blocks, accounts, and undo.")
    static void allThatAPlannerDoes() {
        BindingPlanner x = new BindingPlanner();
        Planners.type(x, "200x140x20*10");
        Checks.is("text of a block", 0, x.readBook());
        Checks.is("board", 135, x.piece(0, 0, true));
        Checks.is("cloth", 340, x.piece(0, 3, true));
        Checks.is("paper", 280, x.piece(0, 4, true));
        Checks.is("boards of a sheet", 20, x.perSheet(0, 0));
        x.setSheet(0, 1000, 700, 2);
        Checks.is("boards across it", 21, x.perSheet(0, 0));
        Checks.is("sewing stations", 47, x.station(0, 1));
        x.addBook(200, 140, 20);
        x.addBook(300, 220, 20);
        Checks.is("least length of cloth", 336 + 236, x.leastCloth(7));
        Checks.thrown("an order", Refusals.UNSUPPORTED, () -> x.make(0));
        Checks.is("refused for board", 3, x.refusal());
        x.setPrice(0, 3, 5);
        Checks.is("price list", 5, x.price(0, 4));
        x.buy(0, 1, 100);
        x.buy(0, 3, 90);
        x.buy(1, 5, 10);
        x.buy(2, 30, 2);
        Checks.is("made", 100 + 90 + 2 * 10 + 24 * 2, x.make(0));
        Checks.is("the oldest lot went", 90, x.lot(0, 0, true));
        Checks.is("copies made", 10, x.account(2));
        Checks.is("changes that can be undone", 7, x.undo());
        Checks.is("no copies made", 0, x.account(2));
    }

    @Sentence(in = "What it is", says = "An object is used for at most 512 calls after it has been made")
    static void the512thCallIsAnsweredAsTheFirst() {
        BindingPlanner x = Planners.withTenBooks();
        for (int call = 11; call <= 504; call++) {
            Checks.is("least length of ten, two in a strip, at call " + call, 5 * 236, x.leastCloth(1023));
        }
        for (int left = 7; left >= 0; left--) {
            Checks.is("undo at call " + (512 - left), left, x.undo());
        }
        BindingPlanner y = new BindingPlanner();
        for (int call = 1; call <= 511; call++) {
            Checks.is("pass at call " + call, call, y.pass(1));
        }
        Checks.is("call 512", 7, y.undo());
    }

    // Books

    @Sentence(in = "Books", says = "At most 10 books are kept, numbered from 0.")
    static void noBookIsKept() {
        BindingPlanner x = new BindingPlanner();
        Checks.is("no book", 0, x.account(1));
        Checks.thrown("no book 0", Refusals.INDEX, () -> x.block(0, 0));
    }

    @Sentence(in = "Books", says = "At most 10 books are kept, numbered from 0.")
    static void tenBooksAreKeptAndNoMore() {
        BindingPlanner x = new BindingPlanner();
        for (int book = 0; book < 10; book++) {
            Checks.is("number", book, x.addBook(80 + book, 60, 5));
        }
        Checks.thrown("the 11th", Refusals.STATE, () -> x.addBook(80, 60, 5));
        for (int book = 0; book < 10; book++) {
            Checks.is("height of book " + book, 80 + book, x.block(book, 0));
        }
        Checks.thrown("no book 10", Refusals.INDEX, () -> x.block(10, 0));
        Checks.thrown("no book -1", Refusals.INDEX, () -> x.block(-1, 0));
        Checks.is("ten", 10, x.account(1));
    }

    @Sentence(in = "Books", says = "A book has a block with a height from 80 to 400, a width from 60 to 300 and a "
        + "thickness from 5 to 80, all lengths being whole millimetres")
    static void aMillimetreMakesAnotherBlock() {
        BindingPlanner x = new BindingPlanner();
        x.addBook(399, 299, 79);
        x.addBook(400, 300, 80);
        Planners.type(x, "81x61x6");
        x.readBook();
        int[][] due = {{399, 299, 79, 405, 294, 598}, {400, 300, 80, 406, 295, 600}, {81, 61, 6, 87, 56, 122}};
        for (int book = 0; book < 3; book++) {
            for (int what = 0; what < 3; what++) {
                Checks.is("number " + what, due[book][what], x.block(book, what));
            }
            Checks.is("length of a board", due[book][3], x.piece(book, 0, false));
            Checks.is("breadth of a board", due[book][4], x.piece(book, 0, true));
            Checks.is("breadth of an endpaper", due[book][5], x.piece(book, 4, true));
        }
        Planners.type(x, "81.5x61x6");
        Checks.thrown("half a millimetre", Refusals.ARGUMENT, x::readBook);
        Checks.is("cannot be told", 2, x.faultPosition());
    }

    /** The number, of a block that is else 100 x 100 x 10, in addBook, setBlock and readBook. */
    private static void blockNumber(int what, int low, int high) {
        for (int value : new int[] {low, low + 1, high - 1, high}) {
            BindingPlanner x = new BindingPlanner();
            Checks.is("addBook takes " + value, 0, add(x, what, value));
            Checks.is("addBook keeps " + value, value, x.block(0, what));
            Planners.type(x, block(what, value));
            Checks.is("readBook takes " + value, 1, x.readBook());
            Checks.is("readBook keeps " + value, value, x.block(1, what));
            x.setBlock(0, what, (low + high) / 2);
            x.setBlock(0, what, value);
            Checks.is("setBlock keeps " + value, value, x.block(0, what));
        }
        for (int value : new int[] {low - 1, high + 1}) {
            BindingPlanner x = Planners.withBook();
            Checks.thrown("addBook refuses " + value, Refusals.ARGUMENT, () -> add(x, what, value));
            Checks.thrown("setBlock refuses " + value, Refusals.ARGUMENT, () -> x.setBlock(0, what, value));
            Planners.type(x, block(what, value));
            Checks.thrown("readBook refuses " + value, Refusals.ARGUMENT, x::readBook);
            Checks.is("one book", 1, x.account(1));
        }
    }

    private static int add(BindingPlanner x, int what, int value) {
        return x.addBook(what == 0 ? value : 100, what == 1 ? value : 100, what == 2 ? value : 10);
    }

    private static String block(int what, int value) {
        return (what == 0 ? value : 100) + "x" + (what == 1 ? value : 100) + "x" + (what == 2 ? value : 10);
    }

    @Sentence(in = "Books", says = "a height from 80 to 400")
    static void heightFrom80To400() {
        blockNumber(0, 80, 400);
    }

    @Sentence(in = "Books", says = "a width from 60 to 300")
    static void widthFrom60To300() {
        blockNumber(1, 60, 300);
    }

    @Sentence(in = "Books", says = "a thickness from 5 to 80")
    static void thicknessFrom5To80() {
        blockNumber(2, 5, 80);
    }

    @Sentence(in = "Books", says = "copies, 1 to 50 of them, at first 1")
    static void copiesFrom1To50() {
        BindingPlanner x = Planners.withBook();
        Checks.is("at first", 1, x.block(0, 3));
        x.setBlock(0, 3, 50);
        Checks.is("most", 50, x.block(0, 3));
        x.setBlock(0, 3, 1);
        Checks.is("least", 1, x.block(0, 3));
        Checks.thrown("0", Refusals.ARGUMENT, () -> x.setBlock(0, 3, 0));
        Checks.thrown("51", Refusals.ARGUMENT, () -> x.setBlock(0, 3, 51));
        Planners.type(x, "100x100x10*50");
        Checks.is("50 are read", 1, x.readBook());
        Checks.is("50 are kept", 50, x.block(1, 3));
        Planners.type(x, "100x100x10*1");
        Checks.is("1 is read", 2, x.readBook());
        Planners.type(x, "100x100x10*51");
        Checks.thrown("51 are not read", Refusals.ARGUMENT, x::readBook);
    }

    // Settings

    private static void setting(int setting, int low, int high, int first) {
        BindingPlanner x = new BindingPlanner();
        Checks.is("at first", first, x.setting(setting));
        for (int value : new int[] {low, low + 1, high - 1, high}) {
            x.set(setting, value);
            Checks.is("taken", value, x.setting(setting));
        }
        Checks.thrown(low - 1 + " refused", Refusals.ARGUMENT, () -> x.set(setting, low - 1));
        Checks.thrown(high + 1 + " refused", Refusals.ARGUMENT, () -> x.set(setting, high + 1));
        Checks.is("stays", high, x.setting(setting));
    }

    @Sentence(in = "Settings", says = "Setting 0 is the square, 0 to 6 and 3 at first")
    static void squareFrom0To6() {
        setting(0, 0, 6, 3);
        BindingPlanner x = Planners.withBook();
        x.set(0, 0);
        Checks.is("length of a board without a square", 200, x.piece(0, 0, false));
        x.set(0, 6);
        Checks.is("length of a board with the greatest square", 212, x.piece(0, 0, false));
    }

    @Sentence(in = "Settings", says = "setting 1 the joint, 4 to 12 and 8 at first")
    static void jointFrom4To12() {
        setting(1, 4, 12, 8);
        BindingPlanner x = Planners.withBook();
        x.set(1, 4);
        Checks.is("breadth of a board with the least joint", 139, x.piece(0, 0, true));
        x.set(1, 12);
        Checks.is("breadth of a board with the greatest joint", 131, x.piece(0, 0, true));
    }

    @Sentence(in = "Settings", says = "setting 2 the turn-in, 8 to 25 and 15 at first")
    static void turnInFrom8To25() {
        setting(2, 8, 25, 15);
        BindingPlanner x = Planners.withBook();
        x.set(2, 8);
        Checks.is("length of the cloth with the least turn-in", 222, x.piece(0, 3, false));
        x.set(2, 25);
        Checks.is("length of the cloth with the greatest turn-in", 256, x.piece(0, 3, false));
    }

    @Sentence(in = "Settings", says = "setting 3 the board thickness, 1 to 4 and 2 at first")
    static void boardThicknessFrom1To4() {
        setting(3, 1, 4, 2);
        BindingPlanner x = Planners.withBook();
        x.set(3, 1);
        Checks.is("breadth of the spine strip with the least thickness", 22, x.piece(0, 2, true));
        x.set(3, 4);
        Checks.is("breadth of the spine strip with the greatest thickness", 28, x.piece(0, 2, true));
    }

    @Sentence(in = "Settings", says = "setting 4 the width of the roll of cloth, 300 to 1500 and 1000 at first")
    static void rollFrom300To1500() {
        setting(4, 300, 1500, 1000);
        BindingPlanner x = Planners.withBreadths(300, 302);
        x.set(4, 300);
        Checks.is("a cloth as broad as the narrowest roll", 0, x.strip(1, 0));
        Checks.is("a cloth that is broader", 1, x.wouldRefuse(1));
        BindingPlanner y = Planners.withBreadths(500, 400, 600);
        y.set(4, 1500);
        Checks.is("three cloths fill the broadest roll", 1, y.strips(7));
    }

    // Pieces

    private static void size(String what, BindingPlanner x, int piece, int length, int breadth) {
        Checks.is(what + ": length", length, x.piece(0, piece, false));
        Checks.is(what + ": breadth", breadth, x.piece(0, piece, true));
    }

    /** All that makes pieces small; the greatest joint makes boards narrow. */
    private static BindingPlanner leastBlock() {
        BindingPlanner x = new BindingPlanner();
        x.set(0, 0);
        x.set(1, 12);
        x.set(2, 8);
        x.set(3, 1);
        x.addBook(80, 60, 5);
        return x;
    }

    private static BindingPlanner greatestBlock() {
        BindingPlanner x = new BindingPlanner();
        x.set(0, 6);
        x.set(1, 4);
        x.set(2, 25);
        x.set(3, 4);
        x.addBook(400, 300, 80);
        return x;
    }

    @Sentence(in = "Pieces", says = "A book has five pieces, each with a length and a breadth.")
    static void fivePieces() {
        BindingPlanner x = Planners.withBook();
        size("first piece", x, 0, 206, 135);
        size("last piece", x, 4, 200, 280);
        Checks.thrown("no piece 5", Refusals.INDEX, () -> x.piece(0, 5, false));
        Checks.thrown("no piece -1", Refusals.INDEX, () -> x.piece(0, -1, true));
    }

    @Sentence(in = "Pieces", says = "Pieces 0 and 1, the front and back board: the length is the height plus twice the "
        + "square; the breadth is the width plus the square minus the joint.")
    static void leastAndGreatestBoards() {
        for (int piece = 0; piece <= 1; piece++) {
            size("least board " + piece, leastBlock(), piece, 80, 48);
            size("greatest board " + piece, greatestBlock(), piece, 412, 302);
        }
    }

    @Sentence(in = "Pieces", says = "Piece 2, the spine strip: the length is that of a board; the breadth is the "
        + "thickness plus twice the board thickness.")
    static void leastAndGreatestSpineStrip() {
        size("least", leastBlock(), 2, 80, 7);
        size("greatest", greatestBlock(), 2, 412, 88);
    }

    @Sentence(in = "Pieces", says = "Piece 3, the cloth: the length is that of a board plus twice the turn-in; the "
        + "breadth is twice the breadth of a board, plus twice the joint, plus the breadth of the spine strip, plus "
        + "twice the turn-in.")
    static void leastAndGreatestCloth() {
        size("least", leastBlock(), 3, 96, 2 * 48 + 24 + 7 + 16);
        size("greatest", greatestBlock(), 3, 462, 2 * 302 + 8 + 88 + 50);
    }

    @Sentence(in = "Pieces", says = "Piece 4, an endpaper, of which each copy needs two: the length is the height, the "
        + "breadth twice the width.")
    static void leastAndGreatestEndpaper() {
        size("least", leastBlock(), 4, 80, 120);
        size("greatest", greatestBlock(), 4, 400, 600);
        BindingPlanner x = greatestBlock();
        x.setSheet(1, 400, 600, 1);
        Checks.is("two for one copy", 2, x.needed(0, 1));
        x.setBlock(0, 3, 50);
        Checks.is("two for each of 50 copies", 100, x.needed(0, 1));
    }

    @Sentence(in = "Pieces", says = "A cloth is too broad if its breadth is greater than the width of the roll.")
    static void clothAsBroadAsTheRollIsNotTooBroad() {
        BindingPlanner x = Planners.withBook();
        x.set(4, 340);
        Checks.is("as broad: refused for board", 3, x.wouldRefuse(0));
        Checks.is("as broad: units", 3, x.needed(0, 2));
        Checks.is("as broad: least length", 236, x.leastCloth(1));
        x.set(4, 341);
        Checks.is("narrower: refused for board", 3, x.wouldRefuse(0));
        x.set(4, 339);
        Checks.is("a millimetre broader: refused for cloth", 1, x.wouldRefuse(0));
        Checks.thrown("a millimetre broader: units", Refusals.MISSING, () -> x.needed(0, 2));
        Checks.thrown("a millimetre broader: least length", Refusals.UNSUPPORTED, () -> x.leastCloth(1));
    }

    // Materials

    @Sentence(in = "Materials", says = "There are three: 0 board, from which the pieces 0, 1 and 2 are cut, 1 paper, "
        + "for piece 4, and 2 cloth, for piece 3.")
    static void threeMaterials() {
        BindingPlanner x = Planners.withBook();
        for (int material = 0; material < 3; material++) {
            Checks.is("stock of material " + material, 0, x.stock(material));
        }
        Checks.thrown("no material 3", Refusals.INDEX, () -> x.stock(3));
        Checks.thrown("no material -1", Refusals.INDEX, () -> x.stock(-1));
        x.setSheet(0, 100, 100, 0);
        for (int piece = 0; piece < 3; piece++) {
            Checks.is("small board gives no piece " + piece, 0, x.perSheet(0, piece));
        }
        Checks.is("endpapers do not come from board", 10, x.perSheet(0, 4));
        x.setSheet(0, 1000, 700, 1);
        x.setSheet(1, 100, 100, 0);
        Checks.is("small paper gives no endpaper", 0, x.perSheet(0, 4));
        Checks.is("boards do not come from paper", 20, x.perSheet(0, 0));
        Checks.is("spine strips do not come from paper", 116, x.perSheet(0, 2));
        Checks.is("cloth does not come from sheets", 3, x.needed(0, 2));
    }

    @Sentence(in = "Materials", says = "Board and paper come in sheets, which have a length and a breadth, each 100 "
        + "to 1200, at first 1000 and 700")
    static void sheetsFrom100To1200() {
        BindingPlanner x = new BindingPlanner();
        for (int each = 0; each < 2; each++) {
            int material = each;
            Checks.is("length at first", 1000, x.sheet(material, 0));
            Checks.is("breadth at first", 700, x.sheet(material, 1));
            x.setSheet(material, 100, 1200, 0);
            Checks.is("least length", 100, x.sheet(material, 0));
            Checks.is("greatest breadth", 1200, x.sheet(material, 1));
            x.setSheet(material, 1200, 100, 0);
            Checks.is("greatest length", 1200, x.sheet(material, 0));
            Checks.is("least breadth", 100, x.sheet(material, 1));
            int[][] wrong = {{99, 100}, {1201, 100}, {100, 99}, {100, 1201}};
            for (int[] w : wrong) {
                Checks.thrown(w[0] + " x " + w[1], Refusals.ARGUMENT, () -> x.setSheet(material, w[0], w[1], 0));
            }
        }
        Checks.thrown("cloth has no sheets", Refusals.INDEX, () -> x.sheet(2, 0));
    }

    @Sentence(in = "Materials", says = "and a grain: 0 none, 1 along the length, 2 along the breadth, at first 1.")
    static void grainFrom0To2() {
        BindingPlanner x = new BindingPlanner();
        for (int each = 0; each < 2; each++) {
            int material = each;
            Checks.is("at first", 1, x.sheet(material, 2));
            for (int grain = 0; grain <= 2; grain++) {
                x.setSheet(material, 1000, 700, grain);
                Checks.is("taken", grain, x.sheet(material, 2));
            }
            Checks.thrown("-1", Refusals.ARGUMENT, () -> x.setSheet(material, 1000, 700, -1));
            Checks.thrown("3", Refusals.ARGUMENT, () -> x.setSheet(material, 1000, 700, 3));
        }
    }

    // Grain

    private static void yieldOfBoards(int length, int breadth, int none, int alongLength, int alongBreadth) {
        BindingPlanner x = Planners.withBook();
        int[] due = {none, alongLength, alongBreadth};
        for (int grain = 0; grain <= 2; grain++) {
            x.setSheet(0, length, breadth, grain);
            Checks.is("boards 206 x 135 from " + length + " x " + breadth + " with grain " + grain, due[grain],
                x.perSheet(0, 0));
        }
    }

    @Sentence(in = "Grain", says = "The length of a piece must run along the grain of its sheet, if this has one; "
        + "otherwise it can run along the length or the breadth of the sheet.")
    static void onlyOneDirectionWithAGrain() {
        yieldOfBoards(206, 135, 1, 1, 0);
        yieldOfBoards(135, 206, 1, 0, 1);
        yieldOfBoards(206, 206, 1, 1, 1);
        BindingPlanner x = Planners.withBook();
        x.setSheet(1, 200, 280, 1);
        Checks.is("paper with the grain", 1, x.perSheet(0, 4));
        x.setSheet(1, 200, 280, 2);
        Checks.is("paper across the grain", 0, x.perSheet(0, 4));
        x.setSheet(1, 280, 200, 0);
        Checks.is("paper without a grain", 1, x.perSheet(0, 4));
    }

    @Sentence(in = "Grain", says = "The yield of a sheet for a piece is how many such pieces can be laid side by side in "
        + "rows and columns, all in the same direction")
    static void piecesAreNotTurnedBesideOthers() {
        yieldOfBoards(341, 270, 2, 2, 2);
        yieldOfBoards(206, 340, 2, 2, 1);
        yieldOfBoards(617, 404, 4, 4, 4);
        yieldOfBoards(618, 405, 9, 9, 4);
        BindingPlanner x = Planners.withBook();
        x.setSheet(1, 480, 280, 0);
        Checks.is("an endpaper beside another one, and none turned", 2, x.perSheet(0, 4));
        x.setSheet(1, 480, 480, 0);
        Checks.is("a square that four endpapers would fill round a hole", 2, x.perSheet(0, 4));
    }

    @Sentence(in = "Grain", says = "the length of the sheet divided by that side of the piece that runs along it, "
        + "rounded down, times the breadth of the sheet divided by the other side, rounded down")
    static void yieldIsRoundedDown() {
        yieldOfBoards(205, 134, 0, 0, 0);
        yieldOfBoards(205, 135, 0, 0, 0);
        yieldOfBoards(206, 134, 0, 0, 0);
        yieldOfBoards(411, 269, 3, 1, 3);
        yieldOfBoards(412, 269, 3, 2, 3);
        yieldOfBoards(411, 270, 3, 2, 3);
        yieldOfBoards(412, 270, 4, 4, 3);
        yieldOfBoards(100, 1200, 0, 0, 0);
        yieldOfBoards(1200, 1200, 40, 40, 40);
    }

    @Sentence(in = "Grain", says = "without a grain, the greater one of both directions.")
    static void greaterYieldWithoutAGrain() {
        yieldOfBoards(1000, 700, 21, 20, 21);
        yieldOfBoards(700, 1000, 21, 21, 20);
        yieldOfBoards(1000, 1000, 28, 28, 28);
        yieldOfBoards(1030, 135, 5, 5, 0);
    }

    @Sentence(in = "Grain", says = "Sheets needed for a number of pieces are this number divided by the yield, rounded "
        + "up.")
    static void sheetsNeededAreRoundedUp() {
        BindingPlanner x = Planners.withBook();
        int[][] due = {{1, 1}, {4, 1}, {5, 1}, {6, 2}, {10, 2}, {11, 3}, {49, 10}, {50, 10}};
        for (int[] d : due) {
            x.setBlock(0, 3, d[0]);
            Checks.is("sheets of 10 for the endpapers of " + d[0] + " copies", d[1], x.needed(0, 1));
        }
    }

    @Sentence(in = "Grain", says = "A book needs sheets of board for the boards of all copies together, which are "
        + "alike, plus sheets of board for the spine strips of all copies, plus, separately, sheets of paper for the "
        + "endpapers of all copies.")
    static void boardsTogetherAndSpineStripsApart() {
        BindingPlanner x = Planners.withBook();
        x.setSheet(0, 412, 270, 1);
        int[][] fourBoardsOr22SpineStrips = {{1, 1 + 1}, {2, 1 + 1}, {3, 2 + 1}, {22, 11 + 1}, {23, 12 + 2}, {44, 22 + 2},
            {45, 23 + 3}, {50, 25 + 3}};
        for (int[] d : fourBoardsOr22SpineStrips) {
            x.setBlock(0, 3, d[0]);
            Checks.is("board for " + d[0] + " copies", d[1], x.needed(0, 0));
            Checks.is("paper for " + d[0] + " copies", (2 * d[0] + 9) / 10, x.needed(0, 1));
        }
    }

    // Stations

    private static BindingPlanner withHeight(int height) {
        BindingPlanner x = new BindingPlanner();
        x.addBook(height, 100, 10);
        return x;
    }

    @Sentence(in = "Stations", says = "A block is sewn at a number of tapes: 2 plus the 60th part, rounded down, of the "
        + "height minus 80.")
    static void tapesFromEach60thMillimetreOn() {
        int[][] due = {{80, 2}, {139, 2}, {140, 3}, {199, 3}, {200, 4}, {259, 4}, {260, 5}, {319, 5}, {320, 6}, {379, 6},
            {380, 7}, {400, 7}};
        for (int[] d : due) {
            Checks.is("height " + d[0], d[1], withHeight(d[0]).tapes(0));
        }
    }

    @Sentence(in = "Stations", says = "There are two kettle stitches, 12 from both ends of the height, and tape k, from "
        + "0, is at 12 plus (k + 1) * (height - 24) / (tapes + 1), rounded down.")
    static void kettleStitchesAndTapesAtTheLeastAndGreatestHeight() {
        int[][] due = {{80, 12, 30, 49, 68}, {139, 12, 50, 88, 127}, {140, 12, 41, 70, 99, 128},
            {399, 12, 58, 105, 152, 199, 246, 293, 340, 387}, {400, 12, 59, 106, 153, 200, 247, 294, 341, 388}};
        for (int[] d : due) {
            BindingPlanner x = withHeight(d[0]);
            for (int station = 0; station < d.length - 1; station++) {
                Checks.is("height " + d[0] + ", station " + station, d[station + 1], x.station(0, station));
            }
        }
    }

    @Sentence(in = "Stations", says = "Station 0 is the lower kettle stitch, then come the tapes, and the last one is "
        + "the upper kettle stitch.")
    static void firstAndLastStation() {
        for (int height : new int[] {80, 139, 140, 400}) {
            BindingPlanner x = withHeight(height);
            int last = x.tapes(0) + 1;
            Checks.is("first at height " + height, 12, x.station(0, 0));
            Checks.is("last at height " + height, height - 12, x.station(0, last));
            Checks.thrown("behind the last", Refusals.MISSING, () -> x.station(0, last + 1));
            Checks.thrown("before the first", Refusals.MISSING, () -> x.station(0, -1));
        }
    }

    // Cloth

    @Sentence(in = "Cloth", says = "The cloths of some books, one for each book of the set, are cut from the roll")
    static void setsFromNoBookToAllBooks() {
        BindingPlanner x = Planners.withTenBooks();
        Checks.is("no book", 0, x.leastCloth(0));
        Checks.is("the first book alone", 236, x.leastCloth(1));
        Checks.is("the last book alone", 236, x.leastCloth(512));
        Checks.is("all books, two in a strip", 5 * 236, x.leastCloth(1023));
        Checks.thrown("no 11th book", Refusals.ARGUMENT, () -> x.leastCloth(1024));
    }

    @Sentence(in = "Cloth", says = "they are put into strips across the roll")
    static void clothsAreNotTurnedInTheirStrips() {
        BindingPlanner x = new BindingPlanner();
        x.set(4, 720);
        x.addBook(80, 300, 80);
        x.addBook(400, 60, 5);
        Checks.is("breadth of the first cloth", 720, x.piece(0, 3, true));
        Checks.is("a strip of its own", 116, x.leastCloth(1));
        Checks.is("nothing beside it", 116 + 436, x.leastCloth(3));
        Checks.is("two strips", 2, x.strips(3));
        Checks.is("the longest first", 0, x.strip(3, 1));
        x.set(4, 720 + 165);
        Checks.is("both side by side", 436, x.leastCloth(3));
        Checks.is("one strip", 1, x.strips(3));
    }

    @Sentence(in = "Cloth", says = "the breadths of the cloths of a strip add up to at most the width of the roll")
    static void stripFilledToTheLastMillimetre() {
        BindingPlanner x = Planners.withBreadths(200, 300, 500);
        Checks.is("three that fill it, least", 336, x.leastCloth(7));
        Checks.is("three that fill it, fitted", 336, x.fittedCloth(7));
        Checks.isDouble("nothing is wasted", 0.0, x.clothWaste(7));
        x.set(4, 999);
        Checks.is("a millimetre too narrow, least", 2 * 336, x.leastCloth(7));
        Checks.is("a millimetre too narrow, fitted", 2 * 336, x.fittedCloth(7));
    }

    @Sentence(in = "Cloth", says = "the length of a strip is the greatest length of its cloths.")
    static void longestClothTellsTheLengthOfItsStrip() {
        BindingPlanner x = new BindingPlanner();
        x.addBook(80, 100, 10);
        x.addBook(400, 100, 10);
        x.addBook(81, 100, 10);
        Checks.is("three in a strip, least", 436, x.leastCloth(7));
        Checks.is("three in a strip, fitted", 436, x.fittedCloth(7));
        Checks.is("without the longest, least", 117, x.leastCloth(5));
        Checks.is("without the longest, fitted", 117, x.fittedCloth(5));
    }

    @Sentence(in = "Cloth", says = "The least length is the least sum of the lengths of all strips, over all ways to "
        + "put the cloths into strips.")
    static void leastLengthWhereFittingIsNotTheBest() {
        BindingPlanner x = Planners.withCloths();
        Checks.is("426 beside 136", 436 + 426, x.leastCloth(15));
        Checks.is("fitted", 436 + 416 + 136, x.fittedCloth(15));
        BindingPlanner y = Planners.withBreadths(400, 400, 300, 300, 300, 300);
        Checks.is("the two broadest apart: two strips", 2 * 336, y.leastCloth(63));
        Checks.is("the two broadest together: three strips", 3 * 336, y.fittedCloth(63));
    }

    @Sentence(in = "Cloth", says = "The least length is the least sum of the lengths of all strips, over all ways to "
        + "put the cloths into strips.")
    static void leastLengthOfTenCloths() {
        BindingPlanner x = Planners.withBreadths(640, 640, 640, 640, 640, 360, 360, 360, 360, 360);
        Checks.is("five strips without waste", 5 * 336, x.leastCloth(1023));
        x.set(4, 640);
        Checks.is("two narrow ones do not go together", 10 * 336, x.leastCloth(1023));
        x.set(4, 720);
        Checks.is("two narrow ones go together", 8 * 336, x.leastCloth(1023));
    }

    @Sentence(in = "Cloth", says = "By fitting, the cloths are gone through from the longest one on")
    static void fittingBeginsWithTheLongest() {
        BindingPlanner x = new BindingPlanner();
        x.addBook(300, 300, 20);
        x.addBook(301, 200, 20);
        x.addBook(302, 250, 20);
        Checks.is("the longest, 560 broad", 0, x.strip(7, 2));
        Checks.is("the next, 460 broad, no longer fits", 1, x.strip(7, 1));
        Checks.is("the shortest, 660 broad", 2, x.strip(7, 0));
        x.setBlock(0, 0, 303);
        Checks.is("by a millimetre the longest now", 0, x.strip(7, 0));
        Checks.is("second now", 1, x.strip(7, 2));
    }

    @Sentence(in = "Cloth", says = "By fitting, the cloths are gone through from the longest one on")
    static void fittingWhereTheLongestIsTheLastOfTen() {
        BindingPlanner x = new BindingPlanner();
        for (int book = 0; book < 10; book++) {
            x.addBook(300 + book, 210, 20);
        }
        for (int book = 0; book < 10; book++) {
            Checks.is("two in a strip, book " + book, (9 - book) / 2, x.strip(1023, book));
        }
        int sum = 345 + 343 + 341 + 339 + 337;
        Checks.is("the lengths of five strips", sum, x.fittedCloth(1023));
        Checks.is("are the least ones", sum, x.leastCloth(1023));
        Checks.is("without the last but one", 345 + 342 + 340 + 338 + 336, x.fittedCloth(1023 - 256));
    }

    @Sentence(in = "Cloth", says = "of equal ones from the lowest number of the book on")
    static void fittingOfEqualLengthsByNumber() {
        BindingPlanner x = Planners.withBreadths(600, 500, 400, 500);
        int[] due = {0, 1, 0, 1};
        for (int book = 0; book < 4; book++) {
            Checks.is("strip of book " + book, due[book], x.strip(15, book));
        }
        BindingPlanner y = Planners.withBreadths(500, 600, 500, 400);
        int[] otherDue = {0, 1, 0, 1};
        for (int book = 0; book < 4; book++) {
            Checks.is("strip of book " + book + " in the other order", otherDue[book], y.strip(15, book));
        }
    }

    @Sentence(in = "Cloth", says = "each is put into the first strip with enough breadth left, or into a new one behind.")
    static void firstStripWithEnoughBreadthLeft() {
        BindingPlanner x = Planners.withBreadths(600, 640, 620, 380, 360, 400);
        BiFunction<BindingPlanner, Integer, Integer> strip = (planner, book) -> planner.strip(63, book);
        int[] due = {0, 1, 2, 0, 1, 3};
        for (int book = 0; book < 6; book++) {
            Checks.is("strip of book " + book, due[book], strip.apply(x, book));
        }
        Checks.is("a new one behind each time", 4, x.strips(63));
        x.set(4, 980);
        Checks.is("exactly enough left in the first", 0, strip.apply(x, 3));
        x.set(4, 979);
        Checks.is("a millimetre too little in all", 3, strip.apply(x, 3));
    }
}
