/** Planners that tests begin with. */
final class Planners {
    private Planners() {
    }

    static void type(BindingPlanner x, String text) {
        for (int at = 0; at < text.length(); at++) {
            x.append(text.charAt(at));
        }
    }

    /** Boards 206 x 135, a spine strip 206 x 24, a cloth 236 x 340, endpapers 200 x 280. */
    static BindingPlanner withBook() {
        BindingPlanner x = new BindingPlanner();
        x.addBook(200, 140, 20);
        return x;
    }

    static BindingPlanner withTenBooks() {
        BindingPlanner x = new BindingPlanner();
        for (int book = 0; book < 10; book++) {
            x.addBook(200, 140, 20);
        }
        return x;
    }

    /** Ten lots of each material, a unit in each, the price of the lot being its index and 1. */
    static BindingPlanner withThirtyLots() {
        BindingPlanner x = new BindingPlanner();
        for (int lot = 0; lot < 30; lot++) {
            x.buy(lot % 3, 1, lot / 3 + 1);
        }
        return x;
    }

    /** Prices of board from the days 100 to 119 on, each price being its day. */
    static BindingPlanner withTwentyPrices() {
        BindingPlanner x = new BindingPlanner();
        for (int day = 100; day < 120; day++) {
            x.setPrice(0, day, day);
        }
        return x;
    }

    /** Ten copies need 2 sheets of board, 2 of paper and 24 units of cloth: exactly that is there. */
    static BindingPlanner withEnough() {
        BindingPlanner x = withBook();
        x.setBlock(0, 3, 10);
        x.buy(0, 2, 100);
        x.buy(1, 2, 30);
        x.buy(2, 24, 7);
        return x;
    }

    /** Cloths 436 x 500, 426 x 300, 416 x 500 and 136 x 700, which fitting puts into a strip too many. */
    static BindingPlanner withCloths() {
        BindingPlanner x = new BindingPlanner();
        x.addBook(400, 220, 20);
        x.addBook(390, 120, 20);
        x.addBook(380, 220, 20);
        x.addBook(100, 300, 60);
        return x;
    }

    /** Books whose cloths, all of the same length, have these breadths, 200 to 640. */
    static BindingPlanner withBreadths(int... breadths) {
        BindingPlanner x = new BindingPlanner();
        for (int breadth : breadths) {
            x.addBook(300, (breadth - 60) / 2, 20);
        }
        return x;
    }

    /** Something of everything: two books, lots, prices, changes, a reason, a fault, a snapshot and a begun text. */
    static BindingPlanner busy() {
        BindingPlanner x = withEnough();
        x.addBook(400, 300, 80);
        x.setBlock(1, 3, 50);
        x.setPrice(0, 5, 80);
        x.setPrice(1, 0, 20);
        type(x, "20y");
        Checks.answer(x::readBook);
        Checks.answer(() -> x.make(1));
        x.save();
        x.make(0);
        x.buy(2, 9, 4);
        x.buy(1, 3, 8);
        x.pass(12);
        type(x, "90x80x7");
        return x;
    }

    /** As much as is kept of everything, on the last day. */
    static BindingPlanner full() {
        BindingPlanner x = withTenBooks();
        for (int lot = 0; lot < 30; lot++) {
            x.buy(lot % 3, 999, 9999);
        }
        for (int day = 100; day < 120; day++) {
            x.setPrice(0, day, day);
        }
        for (int times = 0; times < 10; times++) {
            x.pass(999);
        }
        x.pass(9);
        type(x, "100x100x10".repeat(4));
        return x;
    }
}
