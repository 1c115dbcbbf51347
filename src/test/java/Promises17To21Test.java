import java.util.function.BiFunction;

/** Each sentence of the promises 17 to 21 (cloth). */
public final class Promises17To21Test {
    private static final String NO_BOOK = "Throws `IllegalArgumentException` if a book of the set does not exist";
    private static final String TOO_BROAD = "Throws `UnsupportedOperationException` if a cloth of the set is too broad";

    public static void main(String[] args) {
        Sentences.ofPromises(Promises17To21Test.class, 17, 21, "Cloth.");
    }

    /** Each set of the books of a planner with cloths: due is what is to be answered for the sets 0 to 15. */
    private static void eachSet(String what, BiFunction<BindingPlanner, Integer, Object> call, Object... due) {
        BindingPlanner x = Planners.withCloths();
        for (int books = 0; books < 16; books++) {
            int set = books;
            Checks.same(what + " of the set " + set, String.valueOf(due[set]), Checks.answer(() -> call.apply(x, set)));
        }
        for (int set : new int[] {16, 31, 1 << 31, -1, -16, Refusals.MOST}) {
            Checks.thrown(what + " of the set " + set, Refusals.ARGUMENT, () -> call.apply(x, set));
        }
    }

    private static void refusesBooksThatDoNotExist(BiFunction<BindingPlanner, Integer, Object> call) {
        Refusals.leaves(Refusals.ARGUMENT, BindingPlanner::new, x -> call.apply(x, 1), x -> call.apply(x, -1),
            x -> call.apply(x, Refusals.LEAST));
        Refusals.leaves(Refusals.ARGUMENT, Planners::busy, x -> call.apply(x, 4), x -> call.apply(x, 5),
            x -> call.apply(x, 1024), x -> call.apply(x, 1 << 30), x -> call.apply(x, Refusals.LEAST),
            x -> call.apply(x, Refusals.LEAST + 1), x -> call.apply(x, -1), x -> call.apply(x, Refusals.MOST));
        Refusals.leaves(Refusals.ARGUMENT, Planners::withTenBooks, x -> call.apply(x, 1024), x -> call.apply(x, 2047),
            x -> call.apply(x, Refusals.LEAST), x -> call.apply(x, -1));
    }

    private static BindingPlanner withClothThatIsTooBroad() {
        BindingPlanner x = Planners.withCloths();
        x.set(4, 699);
        return x;
    }

    private static void refusesClothsThatAreTooBroad(BiFunction<BindingPlanner, Integer, Object> call) {
        Refusals.leaves(Refusals.UNSUPPORTED, Promises17To21Test::withClothThatIsTooBroad, x -> call.apply(x, 8),
            x -> call.apply(x, 9), x -> call.apply(x, 15));
        BindingPlanner x = withClothThatIsTooBroad();
        String withoutIt = Checks.answer(() -> call.apply(x, 7));
        Checks.same("a set without it", false, withoutIt.endsWith("Exception"));
        x.set(4, 700);
        String justBroadEnough = Checks.answer(() -> call.apply(x, 15));
        Checks.same("a roll that is just broad enough", false, justBroadEnough.endsWith("Exception"));
    }

    // Promise 17: leastCloth

    @Sentence(in = "Promise 17", says = "- `books`: the set, bit b for book b")
    static void eachBitOfASet() {
        BindingPlanner x = new BindingPlanner();
        for (int book = 0; book < 10; book++) {
            x.addBook(100 + 10 * book, 100, 10);
        }
        for (int book = 0; book < 10; book++) {
            Checks.is("least length of book " + book, 136 + 10 * book, x.leastCloth(1 << book));
        }
        Checks.is("first and last", 226, x.leastCloth(513));
    }

    @Sentence(in = "Promise 17", says = "Returns the least length of cloth for a set of books.")
    static void leastLengthOfEachSet() {
        eachSet("least length", BindingPlanner::leastCloth, 0, 436, 426, 436, 416, 436, 426, 852, 136, 572, 426, 572,
            552, 572, 562, 862);
        BindingPlanner x = Planners.withCloths();
        x.set(4, 1200);
        Checks.is("a broader roll", 436 + 416, x.leastCloth(15));
        x.set(4, 1300);
        Checks.is("a still broader roll", 436 + 136, x.leastCloth(15));
        x.set(4, 700);
        Checks.is("a narrow roll", 436 + 426 + 416 + 136, x.leastCloth(15));
    }

    @Sentence(in = "Promise 17", says = "Returns the least length, 0 for no books.")
    static void leastLengthFromNoBookToTenBooks() {
        Checks.is("no books of none", 0, new BindingPlanner().leastCloth(0));
        Checks.is("no books of ten", 0, Planners.withTenBooks().leastCloth(0));
        Checks.is("no books where a cloth is too broad", 0, withClothThatIsTooBroad().leastCloth(0));
        Checks.is("one book", 236, Planners.withTenBooks().leastCloth(512));
        Checks.is("ten books, two in a strip", 5 * 236, Planners.withTenBooks().leastCloth(1023));
        BindingPlanner greatest = new BindingPlanner();
        greatest.set(0, 6);
        greatest.set(2, 25);
        for (int book = 0; book < 10; book++) {
            greatest.addBook(400, 300, 80);
        }
        Checks.is("ten of the greatest", 10 * 462, greatest.leastCloth(1023));
    }

    @Sentence(in = "Promise 17", says = NO_BOOK)
    static void leastClothOfNoSuchBook() {
        refusesBooksThatDoNotExist(BindingPlanner::leastCloth);
        Checks.is("all that exist", 5 * 236, Planners.withTenBooks().leastCloth(1023));
    }

    @Sentence(in = "Promise 17", says = TOO_BROAD)
    static void leastClothOfAClothThatIsTooBroad() {
        refusesClothsThatAreTooBroad(BindingPlanner::leastCloth);
    }

    // Promise 18: fittedCloth

    @Sentence(in = "Promise 18", says = "Returns the length of cloth for a set of books by fitting.")
    static void fittedLengthFollowsTheRoll() {
        BindingPlanner x = Planners.withCloths();
        int[][] due = {{700, 436 + 426 + 416 + 136}, {799, 436 + 426 + 416 + 136}, {800, 436 + 416 + 136},
            {1199, 436 + 416 + 136}, {1200, 436 + 416}, {1299, 436 + 416}, {1300, 436 + 136}, {1500, 436 + 136}};
        for (int[] d : due) {
            x.set(4, d[0]);
            Checks.is("roll of " + d[0], d[1], x.fittedCloth(15));
        }
        x.set(4, 1000);
        x.setBlock(3, 0, 400);
        Checks.is("the broadest is one of the longest", 436 + 436 + 416, x.fittedCloth(15));
    }

    @Sentence(in = "Promise 18", says = "- `books`: the set")
    static void fittedLengthOfEachSet() {
        eachSet("fitted length", BindingPlanner::fittedCloth, 0, 436, 426, 436, 416, 436, 426, 852, 136, 572, 426, 572,
            552, 572, 562, 988);
    }

    @Sentence(in = "Promise 18", says = "Returns the length.")
    static void fittedLengthFromNoBookToTenBooks() {
        Checks.is("no books of none", 0, new BindingPlanner().fittedCloth(0));
        Checks.is("no books of ten", 0, Planners.withTenBooks().fittedCloth(0));
        Checks.is("no books where a cloth is too broad", 0, withClothThatIsTooBroad().fittedCloth(0));
        Checks.is("one book", 236, Planners.withTenBooks().fittedCloth(512));
        Checks.is("ten books, two in a strip", 5 * 236, Planners.withTenBooks().fittedCloth(1023));
        BindingPlanner x = Planners.withCloths();
        x.fittedCloth(15);
        Checks.is("no books after some", 0, x.fittedCloth(0));
    }

    @Sentence(in = "Promise 18", says = NO_BOOK)
    static void fittedClothOfNoSuchBook() {
        refusesBooksThatDoNotExist(BindingPlanner::fittedCloth);
        Checks.is("all that exist", 5 * 236, Planners.withTenBooks().fittedCloth(1023));
    }

    @Sentence(in = "Promise 18", says = TOO_BROAD)
    static void fittedClothOfAClothThatIsTooBroad() {
        refusesClothsThatAreTooBroad(BindingPlanner::fittedCloth);
    }

    // Promise 19: strip

    /** The strips of the books 0 to 3 by fitting of the sets 0 to 15; "-" where a book is not in the set. */
    private static final String[] STRIPS = {"----", "0---", "-0--", "00--", "--0-", "0-0-", "-00-", "001-", "---0", "0--1",
        "-0-0", "00-1", "--01", "0-01", "-001", "0012"};

    @Sentence(in = "Promise 19", says = "Returns in which strip the cloth of a book is put by fitting.")
    static void stripsOfAllBooks() {
        BindingPlanner x = Planners.withCloths();
        int[][] due = {{700, 0, 1, 2, 3}, {800, 0, 0, 1, 2}, {1000, 0, 0, 1, 2}, {1200, 0, 0, 1, 1}, {1300, 0, 0, 0, 1}};
        for (int[] d : due) {
            x.set(4, d[0]);
            for (int book = 0; book < 4; book++) {
                Checks.is("book " + book + ", roll of " + d[0], d[1 + book], x.strip(15, book));
            }
        }
    }

    @Sentence(in = "Promise 19", says = "- `books`: the set")
    static void stripOfEachSet() {
        for (int each = 0; each < 4; each++) {
            int book = each;
            Object[] due = new Object[16];
            for (int set = 0; set < 16; set++) {
                char strip = STRIPS[set].charAt(book);
                due[set] = strip == '-' ? "NoSuchElementException" : strip;
            }
            eachSet("strip of book " + book, (x, set) -> x.strip(set, book), due);
        }
    }

    @Sentence(in = "Promise 19", says = "- `book`: the book")
    static void stripOfEachBookOfTen() {
        BindingPlanner x = TenBooks.made();
        int[] due = {4, 3, 3, 3, 0, 1, 2, 2, 1, 0};
        for (int book = 0; book < 10; book++) {
            Checks.is("strip of book " + book, due[book], x.strip(1023, book));
        }
        for (int book : new int[] {-1, 10, 11, 31, 32, 41, Refusals.LEAST, Refusals.MOST}) {
            Checks.thrown("no book " + book, Refusals.MISSING, () -> x.strip(1023, book));
        }
    }

    @Sentence(in = "Promise 19", says = "Returns the strip, from 0.")
    static void stripsFrom0To9() {
        BindingPlanner x = Planners.withTenBooks();
        x.set(4, 679);
        for (int book = 0; book < 10; book++) {
            Checks.is("a strip each", book, x.strip(1023, book));
            Checks.is("alone", 0, x.strip(1 << book, book));
        }
        x.set(4, 680);
        for (int book = 0; book < 10; book++) {
            Checks.is("two in a strip", book / 2, x.strip(1023, book));
        }
    }

    @Sentence(in = "Promise 19", says = NO_BOOK)
    static void stripOfASetWithNoSuchBook() {
        refusesBooksThatDoNotExist((x, books) -> x.strip(books, 0));
        refusesBooksThatDoNotExist((x, books) -> x.strip(books, 31));
        Checks.is("all that exist", 4, Planners.withTenBooks().strip(1023, 9));
    }

    @Sentence(in = "Promise 19", says = TOO_BROAD)
    static void stripBesideAClothThatIsTooBroad() {
        refusesClothsThatAreTooBroad((x, books) -> x.strip(books, (books & 1) != 0 ? 0 : 3));
    }

    @Sentence(in = "Promise 19", says = "Throws `NoSuchElementException` if the book is not in the set")
    static void stripOfABookThatIsNotInTheSet() {
        Refusals.leaves(Refusals.MISSING, Planners::withCloths, x -> x.strip(0, 0), x -> x.strip(7, 3),
            x -> x.strip(14, 0), x -> x.strip(15, 4), x -> x.strip(15, -1), x -> x.strip(15, 32), x -> x.strip(15, 35),
            x -> x.strip(15, -32), x -> x.strip(15, Refusals.LEAST), x -> x.strip(15, Refusals.MOST));
        Refusals.leaves(Refusals.MISSING, BindingPlanner::new, x -> x.strip(0, 0));
        BindingPlanner x = Planners.withCloths();
        x.strip(15, 3);
        Checks.thrown("a book of the set before", Refusals.MISSING, () -> x.strip(3, 3));
    }

    // Promise 20: strips

    @Sentence(in = "Promise 20", says = "Returns the number of strips by fitting.")
    static void numberOfStripsByFittingNotTheLeast() {
        BindingPlanner x = Planners.withCloths();
        Checks.is("three, where two are the least length", 3, x.strips(15));
        int[][] due = {{700, 4}, {799, 4}, {800, 3}, {1199, 3}, {1200, 2}, {1500, 2}};
        for (int[] d : due) {
            x.set(4, d[0]);
            Checks.is("roll of " + d[0], d[1], x.strips(15));
        }
    }

    @Sentence(in = "Promise 20", says = "- `books`: the set")
    static void numberOfStripsOfEachSet() {
        eachSet("strips", BindingPlanner::strips, 0, 1, 1, 1, 1, 1, 1, 2, 1, 2, 1, 2, 2, 2, 2, 3);
    }

    @Sentence(in = "Promise 20", says = "Returns the number.")
    static void numberOfStripsFrom0To10() {
        Checks.is("no books of none", 0, new BindingPlanner().strips(0));
        Checks.is("no books where a cloth is too broad", 0, withClothThatIsTooBroad().strips(0));
        BindingPlanner x = Planners.withTenBooks();
        Checks.is("one book", 1, x.strips(512));
        Checks.is("two in a strip", 5, x.strips(1023));
        x.set(4, 679);
        Checks.is("a strip each", 10, x.strips(1023));
        x.set(4, 1360);
        Checks.is("four in a strip", 3, x.strips(1023));
        Checks.is("no books after some", 0, x.strips(0));
    }

    @Sentence(in = "Promise 20", says = NO_BOOK)
    static void stripsOfNoSuchBook() {
        refusesBooksThatDoNotExist(BindingPlanner::strips);
        Checks.is("all that exist", 5, Planners.withTenBooks().strips(1023));
    }

    @Sentence(in = "Promise 20", says = TOO_BROAD)
    static void stripsOfAClothThatIsTooBroad() {
        refusesClothsThatAreTooBroad(BindingPlanner::strips);
    }

    // Promise 21: clothWaste

    @Sentence(in = "Promise 21", says = "Returns the share of the cloth that is wasted.")
    static void wasteFollowsTheRoll() {
        BindingPlanner x = Planners.withCloths();
        double[][] due = {{700, 1414}, {1000, 862}, {1200, 852}, {1300, 572}, {1500, 572}};
        for (double[] d : due) {
            x.set(4, (int) d[0]);
            Checks.isDouble("roll of " + d[0], 1.0 - 649000.0 / (d[0] * d[1]), x.clothWaste(15));
        }
    }

    @Sentence(in = "Promise 21", says = "- `books`: the set")
    static void wasteOfEachSet() {
        double[] areas = {0, 218000, 127800, 345800, 208000, 426000, 335800, 553800, 95200, 313200, 223000, 441000,
            303200, 521200, 431000, 649000};
        double[] lengths = {0, 436, 426, 436, 416, 436, 426, 852, 136, 572, 426, 572, 552, 572, 562, 862};
        Object[] due = new Object[16];
        due[0] = "ArithmeticException";
        for (int set = 1; set < 16; set++) {
            due[set] = 1.0 - areas[set] / (1000 * lengths[set]);
        }
        eachSet("waste", BindingPlanner::clothWaste, due);
    }

    @Sentence(in = "Promise 21", says = "Returns 1.0 minus the quotient of the areas of all cloths together, as a double, "
        + "and the area of the least length of the roll, as a double.")
    static void wasteFromNothingToMost() {
        BindingPlanner x = Planners.withBreadths(500, 500, 400);
        Checks.isDouble("no waste", 0.0, x.clothWaste(3));
        Checks.isDouble("half of the roll", 0.5, x.clothWaste(1));
        Checks.isDouble("three of four halves, but for a tenth", 1.0 - 470400.0 / 672000.0, x.clothWaste(7));
        BindingPlanner least = new BindingPlanner();
        least.set(0, 0);
        least.set(2, 8);
        least.set(3, 1);
        least.set(4, 1500);
        least.addBook(80, 60, 5);
        Checks.isDouble("the least cloth of the broadest roll", 1.0 - 96.0 * 143 / (96.0 * 1500), least.clothWaste(1));
        Checks.isDouble("by the least length, not by fitting", 1.0 - 649000.0 / 862000.0,
            Planners.withCloths().clothWaste(15));
    }

    @Sentence(in = "Promise 21", says = NO_BOOK)
    static void clothWasteOfNoSuchBook() {
        refusesBooksThatDoNotExist(BindingPlanner::clothWaste);
        Checks.isDouble("all that exist", 1.0 - 80240.0 * 10 / (5 * 236 * 1000.0), Planners.withTenBooks().clothWaste(1023));
    }

    @Sentence(in = "Promise 21", says = TOO_BROAD)
    static void clothWasteOfAClothThatIsTooBroad() {
        refusesClothsThatAreTooBroad(BindingPlanner::clothWaste);
    }

    @Sentence(in = "Promise 21", says = "Throws `ArithmeticException` if the set is empty")
    static void clothWasteOfNoBooks() {
        Refusals.leaves(Refusals.ARITHMETIC, BindingPlanner::new, x -> x.clothWaste(0));
        Refusals.leaves(Refusals.ARITHMETIC, Planners::withTenBooks, x -> x.clothWaste(0));
        Refusals.leaves(Refusals.ARITHMETIC, Promises17To21Test::withClothThatIsTooBroad, x -> x.clothWaste(0));
    }
}
