import java.util.function.BiFunction;

/** Each sentence of the promises 17 to 21 (cloth) that names a boundary case. */
public final class Promises17To21Test {
    private static final String NO_BOOK = "Throws `IllegalArgumentException` if a book of the set does not exist";
    private static final String TOO_BROAD = "Throws `UnsupportedOperationException` if a cloth of the set is too broad";

    public static void main(String[] args) {
        Sentences.ofPromises(Promises17To21Test.class, 17, 21, "Cloth.",
            "Returns the least length of cloth for a set of books.",
            "Returns the length of cloth for a set of books by fitting.",
            "Returns in which strip the cloth of a book is put by fitting.", "Returns the number of strips by fitting.",
            "Returns the share of the cloth that is wasted.");
    }

    private static void refusesBooksThatDoNotExist(BiFunction<BindingPlanner, Integer, Object> call) {
        Refusals.leaves(Refusals.ARGUMENT, BindingPlanner::new, x -> call.apply(x, 1), x -> call.apply(x, -1),
            x -> call.apply(x, Refusals.LEAST));
        Refusals.leaves(Refusals.ARGUMENT, Planners::busy, x -> call.apply(x, 4), x -> call.apply(x, 5),
            x -> call.apply(x, 1024), x -> call.apply(x, 1 << 30), x -> call.apply(x, Refusals.LEAST),
            x -> call.apply(x, Refusals.LEAST + 1), x -> call.apply(x, -1), x -> call.apply(x, Refusals.MOST));
        Refusals.leaves(Refusals.ARGUMENT, Planners::withTenBooks, x -> call.apply(x, 1024), x -> call.apply(x, 2047),
            x -> call.apply(x, Refusals.LEAST), x -> call.apply(x, -1));
    }

    private static BindingPlanner withClothThatIsTooBroad() {
        BindingPlanner x = Planners.withCloths();
        x.set(4, 699);
        return x;
    }

    private static void refusesClothsThatAreTooBroad(BiFunction<BindingPlanner, Integer, Object> call) {
        Refusals.leaves(Refusals.UNSUPPORTED, Promises17To21Test::withClothThatIsTooBroad, x -> call.apply(x, 8),
            x -> call.apply(x, 9), x -> call.apply(x, 15));
        BindingPlanner x = withClothThatIsTooBroad();
        String withoutIt = Checks.answer(() -> call.apply(x, 7));
        Checks.same("a set without it", false, withoutIt.endsWith("Exception"));
        x.set(4, 700);
        String justBroadEnough = Checks.answer(() -> call.apply(x, 15));
        Checks.same("a roll that is just broad enough", false, justBroadEnough.endsWith("Exception"));
    }

    // Promise 17: leastCloth

    @Sentence(in = "Promise 17", says = "- `books`: the set, bit b for book b")
    static void eachBitOfASet() {
        BindingPlanner x = new BindingPlanner();
        for (int book = 0; book < 10; book++) {
            x.addBook(100 + 10 * book, 100, 10);
        }
        for (int book = 0; book < 10; book++) {
            Checks.is("least length of book " + book, 136 + 10 * book, x.leastCloth(1 << book));
        }
        Checks.is("first and last", 226, x.leastCloth(513));
    }

    @Sentence(in = "Promise 17", says = "Returns the least length, 0 for no books.")
    static void leastLengthFromNoBookToTenBooks() {
        Checks.is("no books of none", 0, new BindingPlanner().leastCloth(0));
        Checks.is("no books of ten", 0, Planners.withTenBooks().leastCloth(0));
        Checks.is("no books where a cloth is too broad", 0, withClothThatIsTooBroad().leastCloth(0));
        Checks.is("one book", 236, Planners.withTenBooks().leastCloth(512));
        Checks.is("ten books, two in a strip", 5 * 236, Planners.withTenBooks().leastCloth(1023));
        BindingPlanner greatest = new BindingPlanner();
        greatest.set(0, 6);
        greatest.set(2, 25);
        for (int book = 0; book < 10; book++) {
            greatest.addBook(400, 300, 80);
        }
        Checks.is("ten of the greatest", 10 * 462, greatest.leastCloth(1023));
    }

    @Sentence(in = "Promise 17", says = NO_BOOK)
    static void leastClothOfNoSuchBook() {
        refusesBooksThatDoNotExist(BindingPlanner::leastCloth);
        Checks.is("all that exist", 5 * 236, Planners.withTenBooks().leastCloth(1023));
    }

    @Sentence(in = "Promise 17", says = TOO_BROAD)
    static void leastClothOfAClothThatIsTooBroad() {
        refusesClothsThatAreTooBroad(BindingPlanner::leastCloth);
    }

    // Promise 18: fittedCloth

    @Sentence(in = "Promise 18", says = "Returns the length.")
    static void fittedLengthFromNoBookToTenBooks() {
        Checks.is("no books of none", 0, new BindingPlanner().fittedCloth(0));
        Checks.is("no books of ten", 0, Planners.withTenBooks().fittedCloth(0));
        Checks.is("no books where a cloth is too broad", 0, withClothThatIsTooBroad().fittedCloth(0));
        Checks.is("one book", 236, Planners.withTenBooks().fittedCloth(512));
        Checks.is("ten books, two in a strip", 5 * 236, Planners.withTenBooks().fittedCloth(1023));
        BindingPlanner x = Planners.withCloths();
        x.fittedCloth(15);
        Checks.is("no books after some", 0, x.fittedCloth(0));
    }

    @Sentence(in = "Promise 18", says = NO_BOOK)
    static void fittedClothOfNoSuchBook() {
        refusesBooksThatDoNotExist(BindingPlanner::fittedCloth);
        Checks.is("all that exist", 5 * 236, Planners.withTenBooks().fittedCloth(1023));
    }

    @Sentence(in = "Promise 18", says = TOO_BROAD)
    static void fittedClothOfAClothThatIsTooBroad() {
        refusesClothsThatAreTooBroad(BindingPlanner::fittedCloth);
    }

    // Promise 19: strip

    @Sentence(in = "Promise 19", says = "Returns the strip, from 0.")
    static void stripsFrom0To9() {
        BindingPlanner x = Planners.withTenBooks();
        x.set(4, 679);
        for (int book = 0; book < 10; book++) {
            Checks.is("a strip each", book, x.strip(1023, book));
            Checks.is("alone", 0, x.strip(1 << book, book));
        }
        x.set(4, 680);
        for (int book = 0; book < 10; book++) {
            Checks.is("two in a strip", book / 2, x.strip(1023, book));
        }
    }

    @Sentence(in = "Promise 19", says = NO_BOOK)
    static void stripOfASetWithNoSuchBook() {
        refusesBooksThatDoNotExist((x, books) -> x.strip(books, 0));
        refusesBooksThatDoNotExist((x, books) -> x.strip(books, 31));
        Checks.is("all that exist", 4, Planners.withTenBooks().strip(1023, 9));
    }

    @Sentence(in = "Promise 19", says = TOO_BROAD)
    static void stripBesideAClothThatIsTooBroad() {
        refusesClothsThatAreTooBroad((x, books) -> x.strip(books, (books & 1) != 0 ? 0 : 3));
    }

    @Sentence(in = "Promise 19", says = "Throws `NoSuchElementException` if the book is not in the set")
    static void stripOfABookThatIsNotInTheSet() {
        Refusals.leaves(Refusals.MISSING, Planners::withCloths, x -> x.strip(0, 0), x -> x.strip(7, 3),
            x -> x.strip(14, 0), x -> x.strip(15, 4), x -> x.strip(15, -1), x -> x.strip(15, 32), x -> x.strip(15, 35),
            x -> x.strip(15, -32), x -> x.strip(15, Refusals.LEAST), x -> x.strip(15, Refusals.MOST));
        Refusals.leaves(Refusals.MISSING, BindingPlanner::new, x -> x.strip(0, 0));
        BindingPlanner x = Planners.withCloths();
        x.strip(15, 3);
        Checks.thrown("a book of the set before", Refusals.MISSING, () -> x.strip(3, 3));
    }

    // Promise 20: strips

    @Sentence(in = "Promise 20", says = "Returns the number.")
    static void numberOfStripsFrom0To10() {
        Checks.is("no books of none", 0, new BindingPlanner().strips(0));
        Checks.is("no books where a cloth is too broad", 0, withClothThatIsTooBroad().strips(0));
        BindingPlanner x = Planners.withTenBooks();
        Checks.is("one book", 1, x.strips(512));
        Checks.is("two in a strip", 5, x.strips(1023));
        x.set(4, 679);
        Checks.is("a strip each", 10, x.strips(1023));
        x.set(4, 1360);
        Checks.is("four in a strip", 3, x.strips(1023));
        Checks.is("no books after some", 0, x.strips(0));
    }

    @Sentence(in = "Promise 20", says = NO_BOOK)
    static void stripsOfNoSuchBook() {
        refusesBooksThatDoNotExist(BindingPlanner::strips);
        Checks.is("all that exist", 5, Planners.withTenBooks().strips(1023));
    }

    @Sentence(in = "Promise 20", says = TOO_BROAD)
    static void stripsOfAClothThatIsTooBroad() {
        refusesClothsThatAreTooBroad(BindingPlanner::strips);
    }

    // Promise 21: clothWaste

    @Sentence(in = "Promise 21", says = "Returns 1.0 minus the quotient of the areas of all cloths together, as a double, "
        + "and the area of the least length of the roll, as a double.")
    static void wasteFromNothingToMost() {
        BindingPlanner x = Planners.withBreadths(500, 500, 400);
        Checks.isDouble("no waste", 0.0, x.clothWaste(3));
        Checks.isDouble("half of the roll", 0.5, x.clothWaste(1));
        Checks.isDouble("three of four halves, but for a tenth", 1.0 - 470400.0 / 672000.0, x.clothWaste(7));
        BindingPlanner least = new BindingPlanner();
        least.set(0, 0);
        least.set(2, 8);
        least.set(3, 1);
        least.set(4, 1500);
        least.addBook(80, 60, 5);
        Checks.isDouble("the least cloth of the broadest roll", 1.0 - 96.0 * 143 / (96.0 * 1500), least.clothWaste(1));
        Checks.isDouble("by the least length, not by fitting", 1.0 - 649000.0 / 862000.0,
            Planners.withCloths().clothWaste(15));
    }

    @Sentence(in = "Promise 21", says = NO_BOOK)
    static void clothWasteOfNoSuchBook() {
        refusesBooksThatDoNotExist(BindingPlanner::clothWaste);
        Checks.isDouble("all that exist", 1.0 - 80240.0 * 10 / (5 * 236 * 1000.0), Planners.withTenBooks().clothWaste(1023));
    }

    @Sentence(in = "Promise 21", says = TOO_BROAD)
    static void clothWasteOfAClothThatIsTooBroad() {
        refusesClothsThatAreTooBroad(BindingPlanner::clothWaste);
    }

    @Sentence(in = "Promise 21", says = "Throws `ArithmeticException` if the set is empty")
    static void clothWasteOfNoBooks() {
        Refusals.leaves(Refusals.ARITHMETIC, BindingPlanner::new, x -> x.clothWaste(0));
        Refusals.leaves(Refusals.ARITHMETIC, Planners::withTenBooks, x -> x.clothWaste(0));
        Refusals.leaves(Refusals.ARITHMETIC, Promises17To21Test::withClothThatIsTooBroad, x -> x.clothWaste(0));
    }
}
