import java.util.function.Consumer;
import java.util.function.Supplier;

/** Each sentence of the promises 33 to 38 (texts, undo and snapshot). */
public final class Promises33To38Test {
    public static void main(String[] args) {
        Sentences.ofPromises(Promises33To38Test.class, 33, 38, "Texts, undo and snapshot.");
    }

    private static int read(BindingPlanner x, String text) {
        Planners.type(x, text);
        return x.readBook();
    }

    private static void hasFault(BindingPlanner x, String text, int fault) {
        Planners.type(x, text);
        Checks.thrown(text, Refusals.ARGUMENT, x::readBook);
        Checks.is("fault of " + text, fault, x.faultPosition());
    }

    // Promise 33: append

    @Sentence(in = "Promise 33", says = "Appends a character to the text buffer.")
    static void firstAndLastCharacterOf40() {
        BindingPlanner x = new BindingPlanner();
        x.append('?');
        hasFault(x, "", 0);
        hasFault(x, "8", 1);
        hasFault(x, "400x300x80*50" + "1".repeat(27), 13);
        for (char sign : new char[] {0, 1, 127, 128, 255, 256, 0x7FFF, 0x8000, 0xFFFF}) {
            x.append('8');
            x.append(sign);
            hasFault(x, "", 1);
        }
    }

    @Sentence(in = "Promise 33", says = "- `c`: the character")
    static void eachCharacter() {
        for (int c = 0; c <= 0xFFFF; c++) {
            BindingPlanner x = new BindingPlanner();
            x.append((char) c);
            boolean canBegin = c >= '1' && c <= '9';
            Checks.thrown("character " + c, Refusals.ARGUMENT, x::readBook);
            Checks.is("fault of character " + c, canBegin ? 1 : 0, x.faultPosition());
        }
    }

    @Sentence(in = "Promise 33", says = "Throws `IllegalStateException` if the buffer contains 40 characters")
    static void appendTo40Characters() {
        Supplier<BindingPlanner> maker = () -> {
            BindingPlanner x = new BindingPlanner();
            Planners.type(x, "400x300x80*50" + "?".repeat(27));
            return x;
        };
        Refusals.leaves(Refusals.STATE, maker, x -> x.append('1'), x -> x.append((char) 0));
        Refusals.leaves(Refusals.STATE, Planners::full, x -> x.append('1'));
        BindingPlanner x = new BindingPlanner();
        Planners.type(x, "?".repeat(39));
        x.append('?');
        Checks.thrown("the 41st", Refusals.STATE, () -> x.append('?'));
        Checks.thrown("the 41st again", Refusals.STATE, () -> x.append('?'));
        Checks.thrown("a fault", Refusals.ARGUMENT, x::readBook);
        Planners.type(x, "?".repeat(40));
        Checks.thrown("the 41st after readBook", Refusals.STATE, () -> x.append('?'));
    }

    // Promise 34: readBook

    @Sentence(in = "Promise 34", says = "Reads the text buffer as a text of a block, and adds a book with this block, "
        + "with the copies that are told or one.")
    static void leastAndGreatestBlocksAreRead() {
        String[] texts = {"80x60x5", "80x60x5*1", "400x300x80", "400x300x80*50", "100x100x10*9", "100x100x10*10"};
        int[][] due = {{80, 60, 5, 1}, {80, 60, 5, 1}, {400, 300, 80, 1}, {400, 300, 80, 50}, {100, 100, 10, 9},
            {100, 100, 10, 10}};
        BindingPlanner x = new BindingPlanner();
        for (int book = 0; book < texts.length; book++) {
            Checks.is("number of " + texts[book], book, read(x, texts[book]));
            for (int what = 0; what < 4; what++) {
                Checks.is(texts[book] + ", number " + what, due[book][what], x.block(book, what));
            }
        }
        Checks.is("one copy after 50", 6, read(x, "80x60x5"));
        Checks.is("is one copy", 1, x.block(6, 3));
    }

    @Sentence(in = "Promise 34", says = "The buffer is emptied, also if an exception is thrown.")
    static void bufferIsEmptiedByEachCall() {
        BindingPlanner x = new BindingPlanner();
        read(x, "80x60x5");
        isEmpty(x, "after a book");
        hasFault(x, "80x60x5?", 7);
        isEmpty(x, "after a fault");
        hasFault(x, "79x60x5", -1);
        isEmpty(x, "after a number out of range");
        hasFault(x, "?".repeat(40), 0);
        isEmpty(x, "after 40 characters");
        BindingPlanner full = Planners.withTenBooks();
        Planners.type(full, "80x60x5");
        Checks.thrown("10 are kept", Refusals.STATE, full::readBook);
        isEmpty(full, "after the 11th book");
    }

    private static void isEmpty(BindingPlanner x, String when) {
        Checks.thrown("nothing to read " + when, Refusals.ARGUMENT, x::readBook);
        Checks.is("fault of nothing " + when, 0, x.faultPosition());
        Planners.type(x, "?".repeat(40));
        Checks.thrown("40 characters and no more " + when, Refusals.STATE, () -> x.append('?'));
        Checks.thrown("read " + when, Refusals.ARGUMENT, x::readBook);
    }

    @Sentence(in = "Promise 34", says = "Returns the number of the book.")
    static void numbersOfReadBooksFrom0To9() {
        BindingPlanner x = new BindingPlanner();
        for (int book = 0; book < 10; book++) {
            Checks.is("number", book, read(x, "80x60x5"));
        }
    }

    @Sentence(in = "Promise 34", says = "Throws `IllegalArgumentException` if the text has a fault")
    static void readBookWithAFault() {
        String[] wrong = {"", "8", "80x60x5x", "80x60x5*", "80x60x5*0", "080x60x5", "8000x60x5", "80x60x5*100",
            "?".repeat(40)};
        for (String text : wrong) {
            BindingPlanner x = Planners.withEnough();
            String before = withoutFault(x);
            Planners.type(x, text);
            Checks.thrown(text, Refusals.ARGUMENT, x::readBook);
            Checks.same("all else stays after " + text, before, withoutFault(x));
            Checks.is("kept changes after " + text, 4, x.undo());
        }
    }

    /** What is told but for the fault position, which comes last. */
    private static String withoutFault(BindingPlanner x) {
        String told = Told.now(x);
        return told.substring(0, told.lastIndexOf(' '));
    }

    @Sentence(in = "Promise 34", says = "or a number is out of range, in which case the text has no fault")
    static void readBookOutOfRange() {
        String[] wrong = {"79x60x5", "401x60x5", "80x59x5", "80x301x5", "80x60x4", "80x60x81", "80x60x5*51",
            "1x1x1*1", "999x999x999*99", "9x60x5", "80x9x5", "80x60x1"};
        for (String text : wrong) {
            BindingPlanner x = Planners.withEnough();
            hasFault(x, "?", 0);
            String before = withoutFault(x);
            Planners.type(x, text);
            Checks.thrown(text, Refusals.ARGUMENT, x::readBook);
            Checks.is("no fault in " + text, -1, x.faultPosition());
            Checks.same("all else stays after " + text, before, withoutFault(x));
            Checks.is("kept changes after " + text, 4, x.undo());
        }
    }

    @Sentence(in = "Promise 34", says = "Throws `IllegalStateException` if 10 books are kept")
    static void readBookWhereTenAreKept() {
        for (String text : new String[] {"80x60x5", "400x300x80*50"}) {
            BindingPlanner x = Planners.withTenBooks();
            hasFault(x, "?", 0);
            String before = withoutFault(x);
            Planners.type(x, text);
            Checks.thrown("the 11th", Refusals.STATE, x::readBook);
            Checks.same("all else stays", before, withoutFault(x));
            x.undo();
            Checks.is("the tenth", 9, read(x, text));
        }
    }

    // Promise 35: faultPosition

    @Sentence(in = "Promise 35", says = "Returns the fault position of the text of the latest call of readBook.")
    static void latestFaultStaysUntilTheNextCall() {
        BindingPlanner x = Planners.withBook();
        hasFault(x, "80x60x5*100", 10);
        Planners.type(x, "8?");
        Checks.is("stays while a text is typed", 10, x.faultPosition());
        Checks.thrown("next", Refusals.ARGUMENT, x::readBook);
        Checks.is("of the next one", 1, x.faultPosition());
        x.save();
        x.undo();
        x.restore();
        Checks.is("stays over undo and restore", 1, x.faultPosition());
        Checks.thrown("wrong call of addBook", Refusals.ARGUMENT, () -> x.addBook(0, 0, 0));
        Checks.is("stays over other calls", 1, x.faultPosition());
        hasFault(x, "1".repeat(40), 3);
    }

    @Sentence(in = "Promise 35", says = "Returns the fault position, or -1")
    static void faultPositionsFromMinus1To14() {
        String text = "100x100x100*10";
        BindingPlanner x = new BindingPlanner();
        for (int fault = 0; fault <= 14; fault++) {
            hasFault(x, text.substring(0, fault) + "!", fault);
        }
        hasFault(x, text, -1);
        hasFault(x, "", 0);
    }

    @Sentence(in = "Promise 35", says = "or -1 if the text had no fault")
    static void noFault() {
        BindingPlanner x = Planners.withTenBooks();
        hasFault(x, "?", 0);
        Planners.type(x, "80x60x5");
        Checks.thrown("the 11th", Refusals.STATE, x::readBook);
        Checks.is("where 10 are kept", -1, x.faultPosition());
        x.undo();
        hasFault(x, "", 0);
        Planners.type(x, "80x60x4");
        Checks.thrown("out of range", Refusals.ARGUMENT, x::readBook);
        Checks.is("where a number is out of range", -1, x.faultPosition());
        hasFault(x, "80x60x", 6);
        read(x, "80x60x5");
        Checks.is("where a book is added", -1, x.faultPosition());
    }

    @Sentence(in = "Promise 35", says = "or readBook has not been called.")
    static void readBookWasNotCalled() {
        Checks.is("new", -1, new BindingPlanner().faultPosition());
        BindingPlanner x = Planners.full();
        Checks.is("with a full buffer", -1, x.faultPosition());
        Checks.thrown("the 41st", Refusals.STATE, () -> x.append('?'));
        Checks.is("with a character too many", -1, x.faultPosition());
    }

    // Promise 36: undo

    @Sentence(in = "Promise 36", says = "Undoes the latest change that is kept.")
    static void fromTheLatestToTheEighth() {
        BindingPlanner x = new BindingPlanner();
        for (int change = 1; change <= 9; change++) {
            x.buy(0, change, 5);
        }
        for (int change = 9; change >= 2; change--) {
            Checks.is("latest lot", change, x.lot(0, change - 1, false));
            x.undo();
            Checks.is("lots", change - 1, x.account(6));
        }
        Checks.thrown("the first cannot be undone", Refusals.STATE, x::undo);
        Checks.is("the first lot", 1, x.lot(0, 0, false));
    }

    @Sentence(in = "Promise 36", says = "Undoes the latest change that is kept.")
    static void pricesAndLotsOfOtherMaterialsComeBack() {
        BindingPlanner x = Planners.withBook();
        x.setPrice(0, 5, 80);
        x.setPrice(1, 6, 20);
        x.buy(1, 1, 30);
        x.buy(0, 2, 40);
        x.buy(2, 3, 50);
        x.save();
        for (int time = 0; time < 2; time++) {
            x.dropPrice(0, 5);
            x.make(0);
            x.buy(2, 9, 60);
            if (time == 0) {
                x.undo();
                x.undo();
                x.undo();
            } else {
                x.restore();
            }
            Checks.is("price of board", 80, x.price(0, 5));
            Checks.is("price of paper", 20, x.price(1, 6));
            Checks.thrown("no price of paper a day before", Refusals.MISSING, () -> x.price(1, 5));
            for (int each = 0; each < 3; each++) {
                int material = each;
                Checks.is("price of the lot", new int[] {40, 30, 50}[material], x.lot(material, 0, true));
                Checks.thrown("no other lot", Refusals.MISSING, () -> x.lot(material, 1, true));
            }
        }
    }

    @Sentence(in = "Promise 36", says = "Returns the number of changes that can still be undone.")
    static void stillUndoneFrom7To0() {
        for (int changes = 1; changes <= 10; changes++) {
            BindingPlanner x = new BindingPlanner();
            for (int change = 0; change < changes; change++) {
                x.pass(1);
            }
            for (int left = Math.min(changes, 8) - 1; left >= 0; left--) {
                Checks.is("of " + changes, left, x.undo());
            }
        }
    }

    @Sentence(in = "Promise 36", says = "Throws `IllegalStateException` if no change is kept")
    static void undoWithoutAChange() {
        Refusals.leaves(Refusals.STATE, BindingPlanner::new, BindingPlanner::undo);
        Refusals.leaves(Refusals.STATE, () -> {
            BindingPlanner x = Planners.busy();
            x.restore();
            return x;
        }, BindingPlanner::undo);
        Refusals.leaves(Refusals.STATE, () -> {
            BindingPlanner x = Planners.full();
            for (int undo = 0; undo < 8; undo++) {
                x.undo();
            }
            return x;
        }, BindingPlanner::undo);
    }

    // Promise 37: save

    @Sentence(in = "Promise 37", says = "Saves the planner, in place of an earlier snapshot.")
    static void saveOfAnEmptyAndOfAFullPlanner() {
        BindingPlanner x = new BindingPlanner();
        String empty = Told.now(x);
        x.save();
        x.addBook(80, 60, 5);
        x.restore();
        Checks.same("empty", empty, Told.now(x));
        BindingPlanner y = new BindingPlanner();
        y.save();
        for (int book = 0; book < 10; book++) {
            y.addBook(80 + book, 60, 5);
        }
        for (int lot = 0; lot < 30; lot++) {
            y.buy(lot % 3, lot + 1, 9999);
        }
        for (int day = 100; day < 120; day++) {
            y.setPrice(0, day, day);
        }
        String full = Told.now(y);
        y.save();
        y.dropPrice(0, 100);
        y.setBlock(9, 0, 400);
        y.restore();
        Checks.same("full, in place of the empty one", full, Told.now(y));
    }

    @Sentence(in = "Promise 37", says = "Saves the planner, in place of an earlier snapshot.")
    static void saveLeavesTheChanges() {
        BindingPlanner x = new BindingPlanner();
        for (int change = 0; change < 8; change++) {
            x.pass(1);
        }
        x.save();
        Checks.is("eight are kept", 7, x.undo());
        x.save();
        x.undo();
        x.restore();
        Checks.is("the later snapshot", 7, x.account(0));
    }

    // Promise 38: restore

    @Sentence(in = "Promise 38", says = "Restores what was saved; the snapshot is kept.")
    static void restoredAgainAndAgain() {
        BindingPlanner x = Planners.withEnough();
        x.setPrice(0, 5, 80);
        x.save();
        String saved = Told.now(x);
        Consumer<BindingPlanner> change = y -> {
            y.make(0);
            y.addBook(80, 60, 5);
            y.setBlock(0, 3, 50);
            y.set(0, 6);
            y.setSheet(1, 100, 100, 0);
            y.setPrice(0, 5, 81);
            y.pass(999);
        };
        for (int time = 0; time < 3; time++) {
            change.accept(x);
            x.restore();
            Checks.same("restored", saved, Told.now(x));
            Checks.thrown("no change is kept", Refusals.STATE, x::undo);
        }
        x.restore();
        Checks.same("restored twice without a change", saved, Told.now(x));
    }

    @Sentence(in = "Promise 38", says = "Throws `IllegalStateException` if there is no snapshot")
    static void restoreWithoutASnapshot() {
        Refusals.leaves(Refusals.STATE, BindingPlanner::new, BindingPlanner::restore);
        Refusals.leaves(Refusals.STATE, Planners::withEnough, BindingPlanner::restore);
        Refusals.leaves(Refusals.STATE, Planners::full, BindingPlanner::restore);
        BindingPlanner x = Planners.withEnough();
        Checks.thrown("none", Refusals.STATE, x::restore);
        Checks.is("changes stay", 4, x.undo());
        x.save();
        x.restore();
        Checks.thrown("now it forgets them", Refusals.STATE, x::undo);
    }
}
