import java.util.List;
import java.util.NoSuchElementException;
import java.util.function.Consumer;

/** Every promise of the document, with answers worked out by hand. */
public final class PromiseTest {
    private static final Class<IndexOutOfBoundsException> INDEX = IndexOutOfBoundsException.class;
    private static final Class<IllegalArgumentException> ARGUMENT = IllegalArgumentException.class;
    private static final Class<IllegalStateException> STATE = IllegalStateException.class;
    private static final Class<UnsupportedOperationException> UNSUPPORTED = UnsupportedOperationException.class;
    private static final Class<NoSuchElementException> MISSING = NoSuchElementException.class;
    private static final Class<ArithmeticException> ARITHMETIC = ArithmeticException.class;
    private static final int LEAST = Integer.MIN_VALUE;
    private static final int MOST = Integer.MAX_VALUE;

    public static void main(String[] args) {
        newObject();
        addBook();
        setBlock();
        block();
        set();
        setting();
        piece();
        wouldRefuse();
        setSheet();
        sheet();
        perSheet();
        needed();
        boardShare();
        tapes();
        station();
        widestGap();
        leastCloth();
        fittedCloth();
        strip();
        strips();
        clothWaste();
        buy();
        stock();
        lot();
        setPrice();
        dropPrice();
        price();
        cost();
        make();
        refusal();
        pass();
        account();
        append();
        readBook();
        faultPosition();
        undo();
        undoOfEachChange();
        save();
        restore();
        Checks.finish();
    }

    private static BindingPlanner withBook() {
        BindingPlanner x = new BindingPlanner();
        x.addBook(200, 140, 20);
        return x;
    }

    /** Cloths 436 x 500, 426 x 300, 416 x 500 and 136 x 700, which fitting puts into a strip too many. */
    private static BindingPlanner withCloths() {
        BindingPlanner x = new BindingPlanner();
        x.addBook(400, 220, 20);
        x.addBook(390, 120, 20);
        x.addBook(380, 220, 20);
        x.addBook(100, 300, 60);
        return x;
    }

    /** Ten copies need 2 sheets of board, 2 of paper and 24 units of cloth. */
    private static BindingPlanner withStock() {
        BindingPlanner x = withBook();
        x.setBlock(0, 3, 10);
        x.buy(0, 20, 100);
        x.buy(1, 1, 30);
        x.buy(2, 5, 200);
        x.buy(1, 50, 40);
        x.buy(2, 100, 150);
        return x;
    }

    private static void type(BindingPlanner x, String text) {
        for (int at = 0; at < text.length(); at++) {
            x.append(text.charAt(at));
        }
    }

    private static void newObject() {
        BindingPlanner x = new BindingPlanner();
        for (int what = 0; what <= 10; what++) {
            Checks.is("1: account " + what, 0, x.account(what));
        }
        int[] settings = {3, 8, 15, 2, 1000};
        for (int setting = 0; setting < 5; setting++) {
            Checks.is("1: setting " + setting, settings[setting], x.setting(setting));
        }
        int[] sheets = {1000, 700, 1};
        for (int what = 0; what < 3; what++) {
            Checks.is("1: board sheets " + what, sheets[what], x.sheet(0, what));
            Checks.is("1: paper sheets " + what, sheets[what], x.sheet(1, what));
            Checks.is("1: stock " + what, 0, x.stock(what));
        }
        Checks.is("1: fault position", -1, x.faultPosition());
        Checks.thrown("1: no refusal", MISSING, x::refusal);
        Checks.thrown("1: no change", STATE, x::undo);
        Checks.thrown("1: no snapshot", STATE, x::restore);
        Checks.thrown("1: empty text", ARGUMENT, x::readBook);
    }

    private static void addBook() {
        BindingPlanner x = new BindingPlanner();
        int[][] wrong = {{79, 100, 20}, {401, 100, 20}, {100, 59, 20}, {100, 301, 20}, {100, 100, 4}, {100, 100, 81},
            {LEAST, 100, 20}, {100, MOST, 20}, {100, 100, -20}};
        for (int[] w : wrong) {
            Checks.thrown("2: addBook out of range", ARGUMENT, () -> x.addBook(w[0], w[1], w[2]));
        }
        Checks.is("2: none added", 0, x.account(1));
        Checks.is("2: least", 0, x.addBook(80, 60, 5));
        Checks.is("2: greatest", 1, x.addBook(400, 300, 80));
        int[] due = {400, 300, 80, 1};
        for (int what = 0; what < 4; what++) {
            Checks.is("2: number " + what, due[what], x.block(1, what));
        }
        for (int book = 2; book < 10; book++) {
            Checks.is("2: book " + book, book, x.addBook(100, 100, 20));
        }
        Checks.thrown("2: the 11th", STATE, () -> x.addBook(100, 100, 20));
        Checks.thrown("2: range before number", ARGUMENT, () -> x.addBook(79, 100, 20));
        Checks.is("2: ten are kept", 10, x.account(1));
        Checks.is("2: changes", 7, x.undo());
        Checks.is("2: number again", 9, x.addBook(100, 100, 20));
    }

    private static void setBlock() {
        BindingPlanner x = withBook();
        Checks.is("3: height", 31, x.setBlock(0, 0, 210));
        Checks.is("3: width", 27, x.setBlock(0, 1, 150));
        Checks.is("3: thickness", 12, x.setBlock(0, 2, 30));
        Checks.is("3: copies", 0, x.setBlock(0, 3, 50));
        Checks.is("3: the same", 0, x.setBlock(0, 0, 210));
        Checks.is("3: the same is a change", 5, x.undo());
        Checks.is("3: value", 30, x.block(0, 2));
        int[] low = {80, 60, 5, 1};
        int[] high = {400, 300, 80, 50};
        for (int each = 0; each < 4; each++) {
            int what = each;
            Checks.thrown("3: too low " + what, ARGUMENT, () -> x.setBlock(0, what, low[what] - 1));
            Checks.thrown("3: too high " + what, ARGUMENT, () -> x.setBlock(0, what, high[what] + 1));
            x.setBlock(0, what, low[what]);
            Checks.is("3: lowest " + what, low[what], x.block(0, what));
            x.setBlock(0, what, high[what]);
            Checks.is("3: highest " + what, high[what], x.block(0, what));
        }
        Checks.thrown("3: book 1", INDEX, () -> x.setBlock(1, 4, 0));
        Checks.thrown("3: book -1", INDEX, () -> x.setBlock(-1, 0, 100));
        Checks.thrown("3: what 4", ARGUMENT, () -> x.setBlock(0, 4, 20));
        Checks.thrown("3: what -1", ARGUMENT, () -> x.setBlock(0, -1, 100));
        x.addBook(100, 100, 20);
        x.setBlock(1, 0, 90);
        Checks.is("3: other book stays", 400, x.block(0, 0));
    }

    private static void block() {
        BindingPlanner x = withBook();
        int[] due = {200, 140, 20, 1};
        for (int what = 0; what < 4; what++) {
            Checks.is("4: number " + what, due[what], x.block(0, what));
        }
        Checks.thrown("4: book 1", INDEX, () -> x.block(1, 4));
        Checks.thrown("4: book -1", INDEX, () -> x.block(-1, 0));
        Checks.thrown("4: what 4", ARGUMENT, () -> x.block(0, 4));
        Checks.thrown("4: what -1", ARGUMENT, () -> x.block(0, -1));
    }

    private static void set() {
        BindingPlanner x = new BindingPlanner();
        Checks.is("5: no books", 0, x.set(0, 2));
        x.addBook(200, 140, 20);
        x.addBook(100, 100, 10);
        Checks.is("5: square", 8, x.set(0, 3));
        Checks.is("5: joint, cloth stays", 4, x.set(1, 9));
        Checks.is("5: turn-in", 2, x.set(2, 16));
        Checks.is("5: board thickness", 4, x.set(3, 3));
        Checks.is("5: roll", 0, x.set(4, 400));
        Checks.is("5: the same", 0, x.set(0, 3));
        Checks.is("5: the same is a change", 7, x.undo());
        int[] low = {0, 4, 8, 1, 300};
        int[] high = {6, 12, 25, 4, 1500};
        for (int each = 0; each < 5; each++) {
            int setting = each;
            int before = x.setting(setting);
            Checks.thrown("5: too low " + setting, ARGUMENT, () -> x.set(setting, low[setting] - 1));
            Checks.thrown("5: too high " + setting, ARGUMENT, () -> x.set(setting, high[setting] + 1));
            Checks.is("5: stays " + setting, before, x.setting(setting));
            x.set(setting, low[setting]);
            Checks.is("5: lowest " + setting, low[setting], x.setting(setting));
            x.set(setting, high[setting]);
            Checks.is("5: highest " + setting, high[setting], x.setting(setting));
        }
        Checks.thrown("5: setting 5", INDEX, () -> x.set(5, LEAST));
        Checks.thrown("5: setting -1", INDEX, () -> x.set(-1, 3));
    }

    private static void setting() {
        BindingPlanner x = new BindingPlanner();
        x.set(2, 20);
        Checks.is("6: turn-in", 20, x.setting(2));
        Checks.is("6: roll", 1000, x.setting(4));
        Checks.thrown("6: setting 5", INDEX, () -> x.setting(5));
        Checks.thrown("6: setting -1", INDEX, () -> x.setting(-1));
    }

    private static void piece() {
        BindingPlanner x = withBook();
        int[] lengths = {206, 206, 206, 236, 200};
        int[] breadths = {135, 135, 24, 340, 280};
        for (int piece = 0; piece < 5; piece++) {
            Checks.is("7: length " + piece, lengths[piece], x.piece(0, piece, false));
            Checks.is("7: breadth " + piece, breadths[piece], x.piece(0, piece, true));
        }
        x.set(0, 5);
        x.set(1, 10);
        x.set(2, 20);
        x.set(3, 4);
        int[] otherLengths = {210, 210, 210, 250, 200};
        int[] otherBreadths = {135, 135, 28, 358, 280};
        for (int piece = 0; piece < 5; piece++) {
            Checks.is("7: other length " + piece, otherLengths[piece], x.piece(0, piece, false));
            Checks.is("7: other breadth " + piece, otherBreadths[piece], x.piece(0, piece, true));
        }
        Checks.thrown("7: book 1", INDEX, () -> x.piece(1, 0, true));
        Checks.thrown("7: book -1", INDEX, () -> x.piece(-1, 0, true));
        Checks.thrown("7: piece 5", INDEX, () -> x.piece(0, 5, true));
        Checks.thrown("7: piece -1", INDEX, () -> x.piece(0, -1, false));
    }

    private static void wouldRefuse() {
        BindingPlanner x = withBook();
        x.setBlock(0, 3, 10);
        x.set(4, 339);
        x.setSheet(0, 100, 100, 1);
        x.setSheet(1, 100, 100, 1);
        Checks.is("8: too broad first", 1, x.wouldRefuse(0));
        x.set(4, 340);
        Checks.is("8: yield of board", 2, x.wouldRefuse(0));
        x.setSheet(0, 1000, 700, 1);
        Checks.is("8: yield of paper", 2, x.wouldRefuse(0));
        x.setSheet(1, 1000, 700, 1);
        Checks.is("8: no board", 3, x.wouldRefuse(0));
        x.buy(0, 1, 1);
        Checks.is("8: one sheet of board too few", 3, x.wouldRefuse(0));
        x.buy(0, 1, 1);
        Checks.is("8: no paper", 4, x.wouldRefuse(0));
        x.buy(1, 2, 1);
        Checks.is("8: no cloth", 5, x.wouldRefuse(0));
        x.buy(2, 23, 1);
        Checks.is("8: one unit of cloth too few", 5, x.wouldRefuse(0));
        x.buy(2, 1, 1);
        Checks.is("8: not refused", 0, x.wouldRefuse(0));
        Checks.thrown("8: nothing is kept for refusal", MISSING, x::refusal);
        Checks.thrown("8: book 1", INDEX, () -> x.wouldRefuse(1));
        Checks.thrown("8: book -1", INDEX, () -> x.wouldRefuse(-1));
    }

    private static void setSheet() {
        BindingPlanner x = new BindingPlanner();
        Checks.is("9: previous grain", 1, x.setSheet(0, 100, 1200, 2));
        Checks.is("9: previous grain again", 2, x.setSheet(0, 1200, 100, 0));
        Checks.is("9: grain of paper", 1, x.setSheet(1, 500, 400, 0));
        Checks.is("9: length", 1200, x.sheet(0, 0));
        Checks.is("9: breadth", 100, x.sheet(0, 1));
        int[][] wrong = {{99, 100, 0}, {1201, 100, 0}, {100, 99, 0}, {100, 1201, 0}, {100, 100, -1}, {100, 100, 3}};
        for (int[] w : wrong) {
            Checks.thrown("9: out of range", ARGUMENT, () -> x.setSheet(0, w[0], w[1], w[2]));
        }
        Checks.is("9: length stays", 1200, x.sheet(0, 0));
        Checks.thrown("9: cloth", INDEX, () -> x.setSheet(2, 99, 100, 0));
        Checks.thrown("9: material -1", INDEX, () -> x.setSheet(-1, 100, 100, 0));
        Checks.is("9: three changes", 2, x.undo());
    }

    private static void sheet() {
        BindingPlanner x = new BindingPlanner();
        x.setSheet(1, 500, 400, 2);
        Checks.is("10: length", 500, x.sheet(1, 0));
        Checks.is("10: breadth", 400, x.sheet(1, 1));
        Checks.is("10: grain", 2, x.sheet(1, 2));
        Checks.is("10: other material", 1000, x.sheet(0, 0));
        Checks.thrown("10: material 2", INDEX, () -> x.sheet(2, 3));
        Checks.thrown("10: material -1", INDEX, () -> x.sheet(-1, 0));
        Checks.thrown("10: what 3", ARGUMENT, () -> x.sheet(0, 3));
        Checks.thrown("10: what -1", ARGUMENT, () -> x.sheet(1, -1));
    }

    private static void perSheet() {
        BindingPlanner x = withBook();
        Checks.is("11: front, along the length", 20, x.perSheet(0, 0));
        Checks.is("11: back, along the length", 20, x.perSheet(0, 1));
        Checks.is("11: spine, along the length", 116, x.perSheet(0, 2));
        Checks.is("11: endpaper, along the length", 10, x.perSheet(0, 4));
        x.setSheet(0, 1000, 700, 2);
        x.setSheet(1, 1000, 700, 2);
        Checks.is("11: board, along the breadth", 21, x.perSheet(0, 1));
        Checks.is("11: endpaper, along the breadth", 9, x.perSheet(0, 4));
        x.setSheet(0, 1000, 700, 0);
        x.setSheet(1, 1000, 700, 0);
        Checks.is("11: board, either way", 21, x.perSheet(0, 0));
        Checks.is("11: spine, either way", 123, x.perSheet(0, 2));
        Checks.is("11: endpaper, either way", 10, x.perSheet(0, 4));
        x.setSheet(0, 205, 1200, 1);
        Checks.is("11: one millimetre too short", 0, x.perSheet(0, 0));
        x.setSheet(0, 206, 135, 1);
        Checks.is("11: exactly one", 1, x.perSheet(0, 0));
        Checks.thrown("11: cloth", UNSUPPORTED, () -> x.perSheet(0, 3));
        Checks.thrown("11: piece 5", INDEX, () -> x.perSheet(0, 5));
        Checks.thrown("11: piece -1", INDEX, () -> x.perSheet(0, -1));
        Checks.thrown("11: book 1", INDEX, () -> x.perSheet(1, 3));
        Checks.thrown("11: book -1", INDEX, () -> x.perSheet(-1, 0));
    }

    private static void needed() {
        BindingPlanner x = withBook();
        Checks.is("12: board for one", 2, x.needed(0, 0));
        Checks.is("12: paper for one", 1, x.needed(0, 1));
        Checks.is("12: cloth for one", 3, x.needed(0, 2));
        x.setBlock(0, 3, 11);
        Checks.is("12: board", 3, x.needed(0, 0));
        Checks.is("12: paper", 3, x.needed(0, 1));
        Checks.is("12: cloth", 26, x.needed(0, 2));
        x.setBlock(0, 3, 50);
        Checks.is("12: board for 50, nothing rounded", 6, x.needed(0, 0));
        Checks.is("12: paper for 50, nothing rounded", 10, x.needed(0, 1));
        Checks.is("12: cloth for 50, nothing rounded", 118, x.needed(0, 2));
        x.setSheet(0, 100, 100, 0);
        Checks.thrown("12: yield of board", MISSING, () -> x.needed(0, 0));
        Checks.is("12: paper all the same", 10, x.needed(0, 1));
        x.setSheet(1, 279, 279, 0);
        Checks.thrown("12: yield of paper", MISSING, () -> x.needed(0, 1));
        x.set(4, 340);
        Checks.is("12: just broad enough", 118, x.needed(0, 2));
        x.set(4, 339);
        Checks.thrown("12: too broad", MISSING, () -> x.needed(0, 2));
        Checks.thrown("12: material 3", INDEX, () -> x.needed(0, 3));
        Checks.thrown("12: material -1", INDEX, () -> x.needed(0, -1));
        Checks.thrown("12: book 1", INDEX, () -> x.needed(1, 0));
        Checks.thrown("12: book -1", INDEX, () -> x.needed(-1, 2));
    }

    private static void boardShare() {
        BindingPlanner x = withBook();
        Checks.isDouble("13: one copy", 55620.0 / 700000.0, x.boardShare(0));
        x.setBlock(0, 3, 10);
        Checks.isDouble("13: a whole sheet", 556200.0 / 700000.0, x.boardShare(0));
        x.setBlock(0, 3, 11);
        Checks.isDouble("13: two sheets", 611820.0 / 1400000.0, x.boardShare(0));
        x.setSheet(1, 100, 100, 1);
        Checks.isDouble("13: paper is nothing to it", 611820.0 / 1400000.0, x.boardShare(0));
        x.setSheet(0, 205, 1200, 1);
        Checks.thrown("13: yield 0", ARITHMETIC, () -> x.boardShare(0));
        Checks.thrown("13: book 1", INDEX, () -> x.boardShare(1));
        Checks.thrown("13: book -1", INDEX, () -> x.boardShare(-1));
    }

    private static void tapes() {
        BindingPlanner x = withBook();
        int[][] due = {{80, 2}, {139, 2}, {140, 3}, {199, 3}, {200, 4}, {379, 6}, {380, 7}, {400, 7}};
        for (int[] d : due) {
            x.setBlock(0, 0, d[0]);
            Checks.is("14: tapes at height " + d[0], d[1], x.tapes(0));
        }
        Checks.thrown("14: book 1", INDEX, () -> x.tapes(1));
        Checks.thrown("14: book -1", INDEX, () -> x.tapes(-1));
    }

    private static void station() {
        BindingPlanner x = new BindingPlanner();
        x.addBook(80, 60, 5);
        x.addBook(200, 140, 20);
        int[] low = {12, 30, 49, 68};
        for (int station = 0; station < 4; station++) {
            Checks.is("15: low station " + station, low[station], x.station(0, station));
        }
        int[] high = {12, 47, 82, 117, 152, 188};
        for (int station = 0; station < 6; station++) {
            Checks.is("15: high station " + station, high[station], x.station(1, station));
        }
        Checks.thrown("15: low station 4", MISSING, () -> x.station(0, 4));
        Checks.thrown("15: high station 6", MISSING, () -> x.station(1, 6));
        Checks.thrown("15: station -1", MISSING, () -> x.station(0, -1));
        Checks.thrown("15: last int", MISSING, () -> x.station(0, MOST));
        Checks.thrown("15: book 2", INDEX, () -> x.station(2, -1));
        Checks.thrown("15: book -1", INDEX, () -> x.station(-1, 0));
    }

    private static void widestGap() {
        BindingPlanner x = new BindingPlanner();
        x.addBook(80, 60, 5);
        x.addBook(200, 140, 20);
        x.addBook(139, 140, 20);
        Checks.is("16: 18, 19, 19", 19, x.widestGap(0));
        Checks.is("16: 35 and at the end 36", 36, x.widestGap(1));
        Checks.is("16: 38, 38, 39", 39, x.widestGap(2));
        Checks.thrown("16: book 3", INDEX, () -> x.widestGap(3));
        Checks.thrown("16: book -1", INDEX, () -> x.widestGap(-1));
    }

    private static void leastCloth() {
        BindingPlanner x = withCloths();
        Checks.is("17: no books", 0, x.leastCloth(0));
        Checks.is("17: one book", 136, x.leastCloth(8));
        Checks.is("17: all", 862, x.leastCloth(15));
        Checks.is("17: three", 852, x.leastCloth(7));
        x.setBlock(0, 3, 50);
        Checks.is("17: whatever the copies", 862, x.leastCloth(15));
        x.set(4, 1500);
        Checks.is("17: broader roll", 572, x.leastCloth(15));
        x.set(4, 700);
        Checks.is("17: just broad enough", 136, x.leastCloth(8));
        refusesSets(x, x::leastCloth, "17");
        x.set(4, 1000);
        for (int book = 4; book < 10; book++) {
            x.addBook(200, 100, 10);
        }
        Checks.is("17: ten, the six are 236 x 250", 436 + 416 + 236 + 136, x.leastCloth(1023));
    }

    private interface OfSet {
        Object of(int books);
    }

    /** Cloth 3 must be 700 broad, and the planner have four books. */
    private static void refusesSets(BindingPlanner x, OfSet call, String promise) {
        int roll = x.setting(4);
        Checks.thrown(promise + ": no book 4", ARGUMENT, () -> call.of(16));
        Checks.thrown(promise + ": bit 31", ARGUMENT, () -> call.of(LEAST));
        Checks.thrown(promise + ": all bits", ARGUMENT, () -> call.of(-1));
        x.set(4, 699);
        Checks.thrown(promise + ": too broad", UNSUPPORTED, () -> call.of(8));
        Checks.thrown(promise + ": too broad among others", UNSUPPORTED, () -> call.of(15));
        Checks.thrown(promise + ": no book before too broad", ARGUMENT, () -> call.of(24));
        Checks.same(promise + ": too broad beside the set", false, call.of(4) == null);
        x.set(4, roll);
    }

    private static void fittedCloth() {
        BindingPlanner x = withCloths();
        Checks.is("18: no books", 0, x.fittedCloth(0));
        Checks.is("18: one book", 426, x.fittedCloth(2));
        Checks.is("18: all", 988, x.fittedCloth(15));
        Checks.is("18: three", 852, x.fittedCloth(7));
        x.set(4, 700);
        Checks.is("18: narrower roll", 436 + 416 + 136, x.fittedCloth(13));
        refusesSets(x, x::fittedCloth, "18");
    }

    private static void strip() {
        BindingPlanner x = withCloths();
        int[] due = {0, 0, 1, 2};
        for (int book = 0; book < 4; book++) {
            Checks.is("19: strip of book " + book, due[book], x.strip(15, book));
        }
        Checks.is("19: alone", 0, x.strip(8, 3));
        Checks.thrown("19: not in the set", MISSING, () -> x.strip(7, 3));
        Checks.thrown("19: empty set", MISSING, () -> x.strip(0, 0));
        Checks.thrown("19: no such book", MISSING, () -> x.strip(15, 4));
        Checks.thrown("19: book 32 is not book 0", MISSING, () -> x.strip(15, 32));
        Checks.thrown("19: book -32 is not book 0", MISSING, () -> x.strip(15, -32));
        Checks.thrown("19: set before book", ARGUMENT, () -> x.strip(31, 9));
        refusesSets(x, books -> x.strip(books, 2), "19");
        longestComesLast();
        equalLengths();
    }

    /** The cloths of withCloths in the opposite order. */
    private static void longestComesLast() {
        BindingPlanner x = new BindingPlanner();
        x.addBook(100, 300, 60);
        x.addBook(380, 220, 20);
        x.addBook(390, 120, 20);
        x.addBook(400, 220, 20);
        int[] due = {2, 1, 0, 0};
        for (int book = 0; book < 4; book++) {
            Checks.is("19: strip of book " + book + " in the opposite order", due[book], x.strip(15, book));
        }
        Checks.is("17: opposite order", 862, x.leastCloth(15));
        Checks.is("18: opposite order", 988, x.fittedCloth(15));
    }

    /** Cloths 600, 500 and 400 broad and equally long, which go in by the number of the book. */
    private static void equalLengths() {
        BindingPlanner x = new BindingPlanner();
        x.addBook(300, 270, 20);
        x.addBook(300, 220, 20);
        x.addBook(300, 170, 20);
        Checks.is("19: 600 of equal lengths", 0, x.strip(7, 0));
        Checks.is("19: 500 of equal lengths", 1, x.strip(7, 1));
        Checks.is("19: 400 fills up exactly", 0, x.strip(7, 2));
        Checks.is("20: equal lengths", 2, x.strips(7));
    }

    private static void strips() {
        BindingPlanner x = withCloths();
        Checks.is("20: no books", 0, x.strips(0));
        Checks.is("20: one book", 1, x.strips(1));
        Checks.is("20: two books", 1, x.strips(3));
        Checks.is("20: all", 3, x.strips(15));
        refusesSets(x, x::strips, "20");
    }

    private static void clothWaste() {
        BindingPlanner x = withCloths();
        Checks.isDouble("21: all", 1.0 - 649000.0 / 862000.0, x.clothWaste(15));
        Checks.isDouble("21: one", 1.0 - 95200.0 / 136000.0, x.clothWaste(8));
        x.set(4, 700);
        Checks.isDouble("21: none", 0.0, x.clothWaste(8));
        Checks.thrown("21: empty set", ARITHMETIC, () -> x.clothWaste(0));
        refusesSets(x, x::clothWaste, "21");
    }

    private static void buy() {
        BindingPlanner x = new BindingPlanner();
        Checks.is("22: first", 1, x.buy(0, 1, 1));
        Checks.is("22: other material", 1, x.buy(2, 999, 9999));
        Checks.is("22: second", 2, x.buy(0, 999, 9999));
        int[][] wrong = {{0, 1}, {1000, 1}, {1, 0}, {1, 10000}, {LEAST, 1}, {1, LEAST}};
        for (int[] w : wrong) {
            Checks.thrown("22: out of range", ARGUMENT, () -> x.buy(0, w[0], w[1]));
        }
        Checks.thrown("22: material 3", INDEX, () -> x.buy(3, 0, 1));
        Checks.thrown("22: material -1", INDEX, () -> x.buy(-1, 1, 1));
        Checks.is("22: paid", 1 + 2 * 999L * 9999, x.account(4));
        Checks.is("22: three changes", 2, x.undo());
        x.buy(0, 999, 9999);
        for (int lot = 4; lot <= 30; lot++) {
            Checks.is("22: lots of paper", lot - 3, x.buy(1, 1, 1));
        }
        Checks.thrown("22: the 31st", STATE, () -> x.buy(1, 1, 1));
        Checks.thrown("22: range before number", ARGUMENT, () -> x.buy(1, 0, 1));
        Checks.is("22: thirty are kept", 30, x.account(6));
    }

    private static void stock() {
        BindingPlanner x = new BindingPlanner();
        x.buy(0, 20, 5);
        x.buy(1, 7, 5);
        x.buy(0, 3, 9);
        Checks.is("23: board", 23, x.stock(0));
        Checks.is("23: paper", 7, x.stock(1));
        Checks.is("23: cloth", 0, x.stock(2));
        Checks.thrown("23: material 3", INDEX, () -> x.stock(3));
        Checks.thrown("23: material -1", INDEX, () -> x.stock(-1));
    }

    private static void lot() {
        BindingPlanner x = new BindingPlanner();
        x.buy(0, 20, 5);
        x.buy(1, 7, 6);
        x.buy(0, 3, 9);
        Checks.is("24: units of the first", 20, x.lot(0, 0, false));
        Checks.is("24: price of the first", 5, x.lot(0, 0, true));
        Checks.is("24: units of the second", 3, x.lot(0, 1, false));
        Checks.is("24: price of the second", 9, x.lot(0, 1, true));
        Checks.is("24: price of paper", 6, x.lot(1, 0, true));
        Checks.thrown("24: lot 2", MISSING, () -> x.lot(0, 2, false));
        Checks.thrown("24: lot -1", MISSING, () -> x.lot(0, -1, true));
        Checks.thrown("24: no lot of cloth", MISSING, () -> x.lot(2, 0, true));
        Checks.thrown("24: material 3", INDEX, () -> x.lot(3, -1, true));
        Checks.thrown("24: material -1", INDEX, () -> x.lot(-1, 0, true));
    }

    private static void setPrice() {
        BindingPlanner x = new BindingPlanner();
        Checks.is("25: first", 1, x.setPrice(0, 0, 1));
        Checks.is("25: second", 2, x.setPrice(0, 9999, 9999));
        Checks.is("25: in place of one", 2, x.setPrice(0, 0, 7));
        Checks.is("25: other material", 3, x.setPrice(1, 0, 8));
        Checks.is("25: new price", 7, x.price(0, 0));
        int[][] wrong = {{-1, 1}, {10000, 1}, {0, 0}, {0, 10000}, {LEAST, 1}, {0, LEAST}};
        for (int[] w : wrong) {
            Checks.thrown("25: out of range", ARGUMENT, () -> x.setPrice(0, w[0], w[1]));
        }
        Checks.thrown("25: material 3", INDEX, () -> x.setPrice(3, -1, 1));
        Checks.thrown("25: material -1", INDEX, () -> x.setPrice(-1, 0, 1));
        Checks.is("25: four changes", 3, x.undo());
        for (int day = 100; day < 118; day++) {
            x.setPrice(2, day, 5);
        }
        Checks.is("25: twenty", 20, x.account(7));
        Checks.thrown("25: the 21st", STATE, () -> x.setPrice(2, 118, 5));
        Checks.thrown("25: the same day of another material", STATE, () -> x.setPrice(1, 117, 5));
        Checks.thrown("25: range before number", ARGUMENT, () -> x.setPrice(2, 118, 0));
        Checks.is("25: in place of one of twenty", 20, x.setPrice(2, 117, 6));
        Checks.is("25: replaced", 6, x.price(2, 118));
    }

    private static void dropPrice() {
        BindingPlanner x = new BindingPlanner();
        x.setPrice(0, 5, 80);
        x.setPrice(0, 10, 100);
        x.setPrice(1, 6, 20);
        Checks.is("26: dropped", 80, x.dropPrice(0, 5));
        Checks.is("26: two are kept", 2, x.account(7));
        Checks.thrown("26: again", MISSING, () -> x.dropPrice(0, 5));
        Checks.thrown("26: a day later", MISSING, () -> x.dropPrice(0, 11));
        Checks.thrown("26: day -1", MISSING, () -> x.dropPrice(0, -1));
        Checks.thrown("26: material 3", INDEX, () -> x.dropPrice(3, 5));
        Checks.thrown("26: material -1", INDEX, () -> x.dropPrice(-1, 5));
        Checks.is("26: later one stays", 100, x.price(0, 10));
        Checks.is("26: other material stays", 20, x.price(1, 6));
        Checks.thrown("26: and its day", MISSING, () -> x.price(1, 5));
        Checks.is("26: four changes", 3, x.undo());
        Checks.is("26: brought back", 80, x.price(0, 5));
        Checks.thrown("26: brought back with its day", MISSING, () -> x.price(1, 5));
    }

    private static void price() {
        BindingPlanner x = new BindingPlanner();
        x.setPrice(0, 10, 100);
        x.setPrice(0, 5, 80);
        x.setPrice(0, 20, 90);
        x.setPrice(1, 0, 20);
        Checks.thrown("27: before the first", MISSING, () -> x.price(0, 4));
        Checks.is("27: from its day on", 80, x.price(0, 5));
        Checks.is("27: the day before the next", 80, x.price(0, 9));
        Checks.is("27: next", 100, x.price(0, 10));
        Checks.is("27: between", 100, x.price(0, 19));
        Checks.is("27: last int", 90, x.price(0, MOST));
        Checks.is("27: day 0", 20, x.price(1, 0));
        Checks.thrown("27: least int", MISSING, () -> x.price(1, LEAST));
        Checks.thrown("27: day -1", MISSING, () -> x.price(1, -1));
        Checks.thrown("27: no price", MISSING, () -> x.price(2, 0));
        Checks.thrown("27: material 3", INDEX, () -> x.price(3, 5));
        Checks.thrown("27: material -1", INDEX, () -> x.price(-1, 5));
    }

    private static void cost() {
        BindingPlanner x = withBook();
        x.setBlock(0, 3, 10);
        x.setPrice(0, 5, 80);
        x.setPrice(1, 0, 20);
        x.setPrice(2, 7, 50);
        x.setPrice(0, 10, 100);
        Checks.is("28: day 7", 2 * 80 + 2 * 20 + 24 * 50, x.cost(0, 7));
        Checks.is("28: day 10", 2 * 100 + 2 * 20 + 24 * 50, x.cost(0, 10));
        Checks.is("28: last int", 2 * 100 + 2 * 20 + 24 * 50, x.cost(0, MOST));
        Checks.thrown("28: no price for cloth", MISSING, () -> x.cost(0, 6));
        Checks.thrown("28: day -1", MISSING, () -> x.cost(0, -1));
        x.set(4, 339);
        Checks.thrown("28: too broad", UNSUPPORTED, () -> x.cost(0, 7));
        Checks.thrown("28: too broad before price", UNSUPPORTED, () -> x.cost(0, 6));
        x.set(4, 340);
        x.setSheet(1, 100, 100, 1);
        Checks.thrown("28: yield 0", UNSUPPORTED, () -> x.cost(0, 7));
        Checks.thrown("28: book 1", INDEX, () -> x.cost(1, 7));
        Checks.thrown("28: book -1", INDEX, () -> x.cost(-1, 7));
        Checks.thrown("28: nothing is kept for refusal", MISSING, x::refusal);
    }

    private static void make() {
        BindingPlanner x = withStock();
        int due = 2 * 100 + 30 + 40 + 5 * 200 + 19 * 150;
        Checks.is("29: cost by the lots", due, x.make(0));
        Checks.is("29: board left", 18, x.stock(0));
        Checks.is("29: paper left", 49, x.stock(1));
        Checks.is("29: cloth left", 81, x.stock(2));
        Checks.is("29: first lot of paper went", 49, x.lot(1, 0, false));
        Checks.is("29: first lot of cloth went", 150, x.lot(2, 0, true));
        Checks.is("29: three lots", 3, x.account(6));
        Checks.is("29: made again", 2 * 100 + 2 * 40 + 24 * 150, x.make(0));
        Checks.is("29: copies", 20, x.account(2));
        Checks.is("29: book stays", 1, x.account(1));
        x.make(0);
        x.make(0);
        Checks.thrown("29: 15 units of cloth too few", UNSUPPORTED, () -> x.make(0));
        Checks.is("29: refused leaves board", 12, x.stock(0));
        Checks.is("29: refused leaves paper", 43, x.stock(1));
        Checks.is("29: refused leaves cloth", 9, x.stock(2));
        Checks.is("29: refused is no copy", 40, x.account(2));
        Checks.thrown("29: book 1", INDEX, () -> x.make(1));
        Checks.thrown("29: book -1", INDEX, () -> x.make(-1));
        usesUpExactly();
    }

    private static void usesUpExactly() {
        BindingPlanner x = withBook();
        x.buy(2, 3, 7);
        x.buy(0, 2, 5);
        x.buy(1, 1, 6);
        Checks.is("29: all of it", 2 * 5 + 6 + 3 * 7, x.make(0));
        Checks.is("29: no lots", 0, x.account(6));
        Checks.thrown("29: no board", UNSUPPORTED, () -> x.make(0));
        Checks.is("29: refused for board", 3, x.refusal());
    }

    private static void refusal() {
        BindingPlanner x = withStock();
        Checks.thrown("30: none refused", MISSING, x::refusal);
        x.make(0);
        Checks.thrown("30: none refused but made", MISSING, x::refusal);
        x.save();
        x.set(4, 300);
        Checks.thrown("30: refused", UNSUPPORTED, () -> x.make(0));
        Checks.is("30: too broad", 1, x.refusal());
        x.undo();
        Checks.is("30: undo leaves it", 1, x.refusal());
        x.make(0);
        Checks.is("30: a make leaves it", 1, x.refusal());
        x.setSheet(1, 100, 100, 0);
        Checks.thrown("30: refused again", UNSUPPORTED, () -> x.make(0));
        Checks.is("30: latest one", 2, x.refusal());
        x.restore();
        Checks.is("30: restore leaves it", 2, x.refusal());
        Checks.thrown("30: no such book", INDEX, () -> x.make(7));
        Checks.is("30: no such book is no reason", 2, x.refusal());
        BindingPlanner y = withBook();
        y.buy(0, 9, 1);
        Checks.thrown("30: no paper", UNSUPPORTED, () -> y.make(0));
        Checks.is("30: paper", 4, y.refusal());
        y.buy(1, 9, 1);
        Checks.thrown("30: no cloth", UNSUPPORTED, () -> y.make(0));
        Checks.is("30: cloth", 5, y.refusal());
    }

    private static void pass() {
        BindingPlanner x = new BindingPlanner();
        Checks.is("31: a day", 1, x.pass(1));
        Checks.is("31: most days", 1000, x.pass(999));
        Checks.thrown("31: 0", ARGUMENT, () -> x.pass(0));
        Checks.thrown("31: 1000", ARGUMENT, () -> x.pass(1000));
        Checks.thrown("31: most", ARGUMENT, () -> x.pass(MOST));
        Checks.thrown("31: least", ARGUMENT, () -> x.pass(LEAST));
        for (int time = 0; time < 9; time++) {
            x.pass(999);
        }
        Checks.is("31: day", 9991, x.account(0));
        Checks.thrown("31: too late", STATE, () -> x.pass(9));
        Checks.is("31: last day", 9999, x.pass(8));
        Checks.thrown("31: range before day", ARGUMENT, () -> x.pass(0));
        Checks.thrown("31: a day too late", STATE, () -> x.pass(1));
        Checks.is("31: undone", 7, x.undo());
        Checks.is("31: day before", 9991, x.account(0));
    }

    private static void account() {
        BindingPlanner x = withStock();
        x.addBook(100, 100, 10);
        x.setPrice(0, 1, 1);
        x.setPrice(2, 1, 1);
        x.pass(12);
        int made = x.make(0);
        long paid = 20 * 100 + 30 + 5 * 200 + 50 * 40 + 100 * 150;
        long[] due = {12, 2, 10, made, paid, paid - made, 3, 2, 2, 2, 24};
        for (int what = 0; what <= 10; what++) {
            Checks.is("32: account " + what, due[what], x.account(what));
        }
        Checks.thrown("32: account 11", ARGUMENT, () -> x.account(11));
        Checks.thrown("32: account -1", ARGUMENT, () -> x.account(-1));
        BindingPlanner y = new BindingPlanner();
        for (int lot = 0; lot < 30; lot++) {
            y.buy(0, 999, 9999);
        }
        Checks.is("32: worth", 30L * 999 * 9999, y.account(5));
    }

    private static void append() {
        BindingPlanner x = new BindingPlanner();
        type(x, "200x140x20");
        for (int sign = 10; sign < 40; sign++) {
            x.append('*');
        }
        Checks.thrown("33: the 41st", STATE, () -> x.append('1'));
        Checks.thrown("33: fault", ARGUMENT, x::readBook);
        Checks.is("33: two stars", 11, x.faultPosition());
        x.append((char) 0xFFFF);
        Checks.thrown("33: no sign of a text", ARGUMENT, x::readBook);
        Checks.is("33: at once", 0, x.faultPosition());
        type(x, "100x");
        x.addBook(100, 100, 10);
        x.undo();
        x.save();
        x.restore();
        type(x, "90x8");
        Checks.is("33: buffer stays over undo and restore", 0, x.readBook());
        Checks.is("33: height", 100, x.block(0, 0));
    }

    private static void readBook() {
        BindingPlanner x = new BindingPlanner();
        type(x, "200x140x20*12");
        Checks.is("34: first", 0, x.readBook());
        int[] due = {200, 140, 20, 12};
        for (int what = 0; what < 4; what++) {
            Checks.is("34: number " + what, due[what], x.block(0, what));
        }
        type(x, "80x60x5");
        Checks.is("34: second", 1, x.readBook());
        Checks.is("34: one copy", 1, x.block(1, 3));
        Checks.thrown("34: emptied", ARGUMENT, x::readBook);
        type(x, "400x300x80*50");
        Checks.is("34: greatest", 2, x.readBook());
        String[] outOfRange = {"79x60x5", "401x60x5", "80x59x5", "80x301x5", "80x60x4", "80x60x81", "80x60x5*51",
            "999x999x999*99", "1x1x1*1"};
        for (String text : outOfRange) {
            type(x, text);
            Checks.thrown("34: " + text, ARGUMENT, x::readBook);
            Checks.is("34: no fault in " + text, -1, x.faultPosition());
        }
        Checks.is("34: three are kept", 3, x.account(1));
        Checks.is("34: three changes", 2, x.undo());
        for (int book = 2; book < 10; book++) {
            x.addBook(100, 100, 10);
        }
        type(x, "80x60x5");
        Checks.thrown("34: the 11th", STATE, x::readBook);
        Checks.is("34: the 11th has no fault", -1, x.faultPosition());
        Checks.thrown("34: emptied by the 11th", ARGUMENT, x::readBook);
        Checks.is("34: fault of nothing", 0, x.faultPosition());
        type(x, "80x60x4");
        Checks.thrown("34: range before number", ARGUMENT, x::readBook);
    }

    private static void faultPosition() {
        Object[][] due = {{"", 0}, {"0", 0}, {"x", 0}, {"8", 1}, {"80", 2}, {"8000", 3}, {"80x", 3}, {"80x0", 3},
            {"80xx", 3}, {"80x60", 5}, {"80x6000", 6}, {"80x60x", 6}, {"80x60x0", 6}, {"80x60x5x", 7},
            {"80x60x5*", 8}, {"80x60x5*0", 8}, {"80x60x5*100", 10}, {"80x60x5*1 ", 9}, {"80x60x5 ", 7}, {" 80", 0},
            {"80*", 2}, {"80x60*", 5}, {"80x60x5000", 9}, {"-80x60x5", 0}, {"80X60x5", 2}, {"80x60x5*x", 8},
            {"80/60", 2}, {"80:60", 2}, {"8001x60x5", 3}, {"80x6001x5", 6},
            {"80x60x5001", 9}, {"80x60x5*123", 10}};
        for (Object[] d : due) {
            BindingPlanner x = new BindingPlanner();
            type(x, (String) d[0]);
            Checks.is("35: before readBook", -1, x.faultPosition());
            Checks.thrown("35: " + d[0], ARGUMENT, x::readBook);
            Checks.is("35: fault of " + d[0], (Integer) d[1], x.faultPosition());
            type(x, "80x60x5");
            Checks.is("35: fault stays while typing", (Integer) d[1], x.faultPosition());
            x.readBook();
            Checks.is("35: no fault after " + d[0], -1, x.faultPosition());
        }
        BindingPlanner x = withBook();
        Checks.thrown("35: nothing typed", ARGUMENT, x::readBook);
        x.undo();
        x.save();
        x.restore();
        Checks.is("35: undo and restore leave it", 0, x.faultPosition());
    }

    private static void undo() {
        BindingPlanner x = withBook();
        for (int height = 101; height <= 110; height++) {
            x.setBlock(0, 0, height);
        }
        for (int left = 7; left >= 0; left--) {
            Checks.is("36: left", left, x.undo());
            Checks.is("36: height", 102 + left, x.block(0, 0));
        }
        Checks.thrown("36: the ninth", STATE, x::undo);
        Checks.is("36: stays", 102, x.block(0, 0));
        x.setBlock(0, 0, 111);
        x.setBlock(0, 0, 112);
        Checks.is("36: one left", 1, x.undo());
        x.setBlock(0, 0, 113);
        Checks.is("36: one left again", 1, x.undo());
        Checks.is("36: 111", 111, x.block(0, 0));
        Checks.thrown("36: refused call", ARGUMENT, () -> x.setBlock(0, 0, 0));
        Checks.is("36: refused call is no change", 0, x.undo());
        Checks.is("36: 102", 102, x.block(0, 0));
    }

    private static void undoOfEachChange() {
        List<Consumer<BindingPlanner>> changes = List.of(x -> x.addBook(90, 90, 9), x -> x.setBlock(0, 0, 300),
            x -> x.set(0, 5), x -> x.setSheet(1, 500, 500, 2), x -> x.buy(1, 3, 3), x -> x.setPrice(1, 5, 5),
            x -> x.setPrice(0, 5, 10), x -> x.dropPrice(0, 5), x -> x.make(0), x -> x.pass(3), BindingPlanner::readBook);
        for (int change = 0; change < changes.size(); change++) {
            BindingPlanner x = withStock();
            x.setPrice(0, 5, 9);
            type(x, "100x100x10");
            x.pass(1);
            String before = state(x);
            changes.get(change).accept(x);
            Checks.same("36: changed by " + change, false, before.equals(state(x)));
            Checks.is("36: eight kept", 7, x.undo());
            Checks.same("36: brought back after " + change, before, state(x));
        }
    }

    private static void save() {
        BindingPlanner x = withStock();
        x.setPrice(0, 5, 9);
        x.save();
        String first = state(x);
        Checks.is("37: no change", 7, x.undo());
        x.restore();
        Checks.same("37: first", first, state(x));
        x.make(0);
        x.pass(5);
        String second = state(x);
        x.save();
        x.addBook(90, 90, 9);
        x.restore();
        Checks.same("37: in place of the first", second, state(x));
        BindingPlanner empty = new BindingPlanner();
        String nothing = state(empty);
        empty.save();
        empty.addBook(90, 90, 9);
        empty.restore();
        Checks.same("37: an empty planner", nothing, state(empty));
    }

    private static void restore() {
        BindingPlanner x = withStock();
        Checks.thrown("38: no snapshot", STATE, x::restore);
        Checks.is("38: changes stay", 6, x.undo());
        x.buy(2, 100, 150);
        x.save();
        String saved = state(x);
        x.set(0, 5);
        x.setSheet(0, 1000, 700, 0);
        x.make(0);
        x.pass(9);
        x.restore();
        Checks.same("38: restored", saved, state(x));
        Checks.thrown("38: changes are forgotten", STATE, x::undo);
        x.pass(9);
        Checks.is("38: a change after it", 0, x.undo());
        x.addBook(90, 90, 9);
        x.restore();
        Checks.same("38: snapshot is kept", saved, state(x));
    }

    /** All that the face tells of the planner. */
    private static String state(BindingPlanner x) {
        StringBuilder told = new StringBuilder();
        for (int what = 0; what <= 10; what++) {
            told.append(x.account(what)).append(' ');
        }
        for (int book = 0; book < x.account(1); book++) {
            for (int what = 0; what < 4; what++) {
                told.append(x.block(book, what)).append(' ');
            }
        }
        for (int setting = 0; setting < 5; setting++) {
            told.append(x.setting(setting)).append(' ');
        }
        for (int each = 0; each < 3; each++) {
            int what = each;
            told.append(x.sheet(0, what)).append(' ').append(x.sheet(1, what)).append(' ').append(x.stock(what));
            told.append(Checks.answer(() -> x.price(what, 5))).append(' ');
            told.append(Checks.answer(() -> x.lot(what, 0, false))).append(' ');
        }
        return told.toString();
    }
}
