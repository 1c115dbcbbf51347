/**
 * Ten books that differ in all their numbers: book b has the height 100 + 30 b, the width 70 + 20 b, the thickness
 * 6 + 8 b and 1 + 5 b copies; so a board is 106 + 30 b by 65 + 20 b, a spine strip 10 + 8 b broad, a cloth
 * 136 + 30 b by 186 + 48 b and an endpaper 100 + 30 b by 140 + 40 b.
 */
final class TenBooks {
    private TenBooks() {
    }

    interface OfBook {
        Object of(BindingPlanner x, int book);
    }

    static BindingPlanner made() {
        BindingPlanner x = new BindingPlanner();
        for (int book = 0; book < 10; book++) {
            x.addBook(100 + 30 * book, 70 + 20 * book, 6 + 8 * book);
            x.setBlock(book, 3, 1 + 5 * book);
        }
        return x;
    }

    /** What is asked of each of the ten, and of books that do not exist. */
    static void each(String what, OfBook call, Object... due) {
        BindingPlanner x = made();
        Checks.is(what + ": answers due", 10, due.length);
        for (int book = 0; book < due.length; book++) {
            Checks.same(what + " of book " + book, due[book], call.of(x, book));
        }
        for (int book : new int[] {-1, 10, 11, Refusals.LEAST, Refusals.MOST}) {
            Checks.thrown(what + " of book " + book, Refusals.INDEX, () -> call.of(x, book));
        }
        Checks.same(what + " of the first one again", due[0], call.of(x, 0));
    }
}
