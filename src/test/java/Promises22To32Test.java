import java.util.List;
import java.util.function.Consumer;

/** Each sentence of the promises 22 to 32 (lots, prices, making). */
public final class Promises22To32Test {
    private static final String NO_BOOK = "Throws `IndexOutOfBoundsException` if there is no such book";
    private static final String NO_MATERIAL = "Throws `IndexOutOfBoundsException` if there is no such material";
    private static final String RANGE = "Throws `IllegalArgumentException` if a number is out of range";

    public static void main(String[] args) {
        Sentences.ofPromises(Promises22To32Test.class, 22, 32, "Lots, prices, making.");
    }

    private interface OfMaterial {
        Object of(BindingPlanner x, int material);
    }

    private static void refusesMaterialsThatDoNotExist(OfMaterial call) {
        List<Integer> wrong = List.of(3, -1, Refusals.LEAST, Refusals.MOST);
        for (int material : wrong) {
            Consumer<BindingPlanner> ofWrong = x -> call.of(x, material);
            Refusals.leaves(Refusals.INDEX, BindingPlanner::new, ofWrong);
            Refusals.leaves(Refusals.INDEX, Planners::busy, ofWrong);
            Refusals.leaves(Refusals.INDEX, Planners::full, ofWrong);
        }
        for (int each = 0; each < 3; each++) {
            int material = each;
            Checks.same("material " + material, false,
                "IndexOutOfBoundsException".equals(Checks.answer(() -> call.of(Planners.busy(), material))));
        }
    }

    // Promise 22: buy

    private static void isLot(BindingPlanner x, int material, int index, int units, int price) {
        Checks.is("units of lot " + index + " of material " + material, units, x.lot(material, index, false));
        Checks.is("price of lot " + index + " of material " + material, price, x.lot(material, index, true));
    }

    @Sentence(in = "Promise 22", says = "Buys a lot.")
    static void boughtLotIsKeptPaidAndUsed() {
        BindingPlanner x = Planners.withBook();
        x.buy(0, 2, 300);
        isLot(x, 0, 0, 2, 300);
        Checks.is("one lot", 1, x.account(6));
        Checks.is("paid", 600, x.account(4));
        Checks.is("worth", 600, x.account(5));
        x.buy(1, 1, 20);
        x.buy(2, 3, 7);
        Checks.is("used by make", 600 + 20 + 21, x.make(0));
        Checks.is("no lot is left", 0, x.account(6));
        x.undo();
        x.undo();
        x.undo();
        isLot(x, 0, 0, 2, 300);
        x.undo();
        Checks.is("no lot after the last undo", 0, x.account(6));
        Checks.is("nor paid for", 0, x.account(4));
    }

    @Sentence(in = "Promise 22", says = "- `material`: the material")
    static void buyOfEachMaterial() {
        for (int bought = 0; bought < 3; bought++) {
            BindingPlanner x = new BindingPlanner();
            x.buy(bought, 5, 40);
            for (int each = 0; each < 3; each++) {
                int material = each;
                Checks.is("units of " + material, material == bought ? 5 : 0, x.stock(material));
            }
            isLot(x, bought, 0, 5, 40);
        }
        BindingPlanner x = new BindingPlanner();
        Checks.thrown("material 3", Refusals.INDEX, () -> x.buy(3, 5, 40));
        Checks.thrown("material -1", Refusals.INDEX, () -> x.buy(-1, 5, 40));
    }

    @Sentence(in = "Promise 22", says = "- `units`: the units")
    static void buyOfEachNumberOfUnits() {
        for (int units = 1; units <= 999; units++) {
            BindingPlanner x = new BindingPlanner();
            x.buy(1, units, 9999);
            isLot(x, 1, 0, units, 9999);
        }
        for (int units : new int[] {Refusals.LEAST, -1, 0, 1000, 9999, Refusals.MOST}) {
            BindingPlanner x = new BindingPlanner();
            Checks.thrown(units + " units", Refusals.ARGUMENT, () -> x.buy(1, units, 9999));
            Checks.is("no lot", 0, x.account(6));
        }
    }

    @Sentence(in = "Promise 22", says = "- `price`: the price for a unit")
    static void buyAtAPriceForAUnit() {
        for (int price : new int[] {1, 2, 10, 998, 999, 1000, 5000, 9998, 9999}) {
            BindingPlanner x = new BindingPlanner();
            x.buy(2, 999, price);
            isLot(x, 2, 0, 999, price);
            Checks.is("paid for all units", 999L * price, x.account(4));
        }
        for (int price : new int[] {Refusals.LEAST, -1, 0, 10000, Refusals.MOST}) {
            BindingPlanner x = new BindingPlanner();
            Checks.thrown("price " + price, Refusals.ARGUMENT, () -> x.buy(2, 999, price));
            Checks.is("no lot", 0, x.account(6));
        }
    }

    @Sentence(in = "Promise 22", says = "Returns the number of lots of this material.")
    static void lotsOfAMaterialFrom1To30() {
        BindingPlanner x = new BindingPlanner();
        Checks.is("first of cloth", 1, x.buy(2, 1, 1));
        for (int lot = 1; lot <= 28; lot++) {
            Checks.is("lots of board", lot, x.buy(0, 1, 1));
        }
        Checks.is("second of cloth", 2, x.buy(2, 1, 1));
        BindingPlanner y = new BindingPlanner();
        for (int lot = 1; lot <= 30; lot++) {
            Checks.is("lots of paper", lot, y.buy(1, 999, 9999));
        }
        BindingPlanner z = Planners.withEnough();
        z.make(0);
        Checks.is("first after all went", 1, z.buy(0, 1, 1));
    }

    @Sentence(in = "Promise 22", says = NO_MATERIAL)
    static void buyOfNoSuchMaterial() {
        refusesMaterialsThatDoNotExist((x, material) -> x.buy(material, 1, 1));
    }

    @Sentence(in = "Promise 22", says = RANGE)
    static void buyOutOfRange() {
        Refusals.leaves(Refusals.ARGUMENT, Planners::busy, x -> x.buy(0, 0, 1), x -> x.buy(0, 1000, 1),
            x -> x.buy(0, 1, 0), x -> x.buy(0, 1, 10000), x -> x.buy(1, -1, 1), x -> x.buy(2, 1, -1),
            x -> x.buy(0, Refusals.LEAST, 1), x -> x.buy(0, Refusals.MOST, 1), x -> x.buy(0, 1, Refusals.LEAST),
            x -> x.buy(0, 1, Refusals.MOST));
        BindingPlanner x = new BindingPlanner();
        Checks.is("the least numbers", 1, x.buy(0, 1, 1));
        Checks.is("the greatest numbers", 2, x.buy(0, 999, 9999));
    }

    @Sentence(in = "Promise 22", says = "Throws `IllegalStateException` if 30 lots are kept")
    static void buyWhereThirtyAreKept() {
        Refusals.leaves(Refusals.STATE, Planners::withThirtyLots, x -> x.buy(0, 1, 1), x -> x.buy(1, 1, 1),
            x -> x.buy(2, 999, 9999));
        BindingPlanner x = Planners.withThirtyLots();
        x.undo();
        Checks.is("where 29 are kept", 11, x.buy(0, 1, 1));
    }

    // Promise 23: stock

    @Sentence(in = "Promise 23", says = "Returns the units of a material in all lots.")
    static void unitsOfAllLotsOfAMaterial() {
        BindingPlanner x = Planners.withEnough();
        x.buy(0, 7, 1);
        x.buy(2, 1, 1);
        x.buy(0, 999, 1);
        Checks.is("three lots of board", 2 + 7 + 999, x.stock(0));
        Checks.is("a lot of paper", 2, x.stock(1));
        Checks.is("two lots of cloth", 25, x.stock(2));
        x.make(0);
        Checks.is("board after make", 1006, x.stock(0));
        Checks.is("paper after make", 0, x.stock(1));
        Checks.is("cloth after make", 1, x.stock(2));
    }

    @Sentence(in = "Promise 23", says = "- `material`: the material")
    static void stockOfEachMaterial() {
        BindingPlanner x = new BindingPlanner();
        x.buy(2, 30, 1);
        x.buy(1, 20, 1);
        x.buy(0, 10, 1);
        for (int material = 0; material < 3; material++) {
            Checks.is("units of " + material, 10 * (material + 1), x.stock(material));
        }
        Checks.thrown("material 3", Refusals.INDEX, () -> x.stock(3));
        Checks.thrown("material -1", Refusals.INDEX, () -> x.stock(-1));
    }

    @Sentence(in = "Promise 23", says = "Returns the units.")
    static void unitsFromNoneTo30FullLots() {
        BindingPlanner x = new BindingPlanner();
        Checks.is("no lot", 0, x.stock(1));
        x.buy(1, 1, 5);
        Checks.is("a unit", 1, x.stock(1));
        Checks.is("none of another material", 0, x.stock(0));
        BindingPlanner y = new BindingPlanner();
        for (int lot = 0; lot < 30; lot++) {
            y.buy(2, 999, 5);
        }
        Checks.is("thirty full lots", 30 * 999, y.stock(2));
    }

    @Sentence(in = "Promise 23", says = NO_MATERIAL)
    static void stockOfNoSuchMaterial() {
        refusesMaterialsThatDoNotExist(BindingPlanner::stock);
    }

    // Promise 24: lot

    @Sentence(in = "Promise 24", says = "Returns a number of a lot.")
    static void numbersOfLotsAsTheyAreUsed() {
        BindingPlanner x = Planners.withBook();
        x.buy(0, 1, 11);
        x.buy(0, 5, 12);
        x.buy(1, 5, 13);
        x.buy(2, 5, 14);
        isLot(x, 0, 0, 1, 11);
        isLot(x, 0, 1, 5, 12);
        x.make(0);
        isLot(x, 0, 0, 4, 12);
        isLot(x, 1, 0, 4, 13);
        isLot(x, 2, 0, 2, 14);
        Checks.thrown("the first went", Refusals.MISSING, () -> x.lot(0, 1, false));
        x.undo();
        isLot(x, 0, 0, 1, 11);
        isLot(x, 0, 1, 5, 12);
    }

    @Sentence(in = "Promise 24", says = "- `material`: the material")
    static void lotOfEachMaterial() {
        BindingPlanner x = new BindingPlanner();
        for (int lot = 1; lot <= 9; lot++) {
            x.buy(2 - lot % 3, lot, 100 * lot);
        }
        for (int lot = 1; lot <= 9; lot++) {
            isLot(x, 2 - lot % 3, (lot - 1) / 3, lot, 100 * lot);
        }
        for (int each = 0; each < 3; each++) {
            int material = each;
            Checks.thrown("no fourth lot of " + material, Refusals.MISSING, () -> x.lot(material, 3, true));
        }
        Checks.thrown("material 3", Refusals.INDEX, () -> x.lot(3, 0, true));
        Checks.thrown("material -1", Refusals.INDEX, () -> x.lot(-1, 0, false));
    }

    @Sentence(in = "Promise 24", says = "- `isPrice`: whether the price is asked for, and not the units")
    static void priceOnlyWhereItIsAskedFor() {
        BindingPlanner x = new BindingPlanner();
        x.buy(1, 40, 50);
        x.buy(1, 60, 70);
        Checks.is("price", 50, x.lot(1, 0, true));
        Checks.is("units", 40, x.lot(1, 0, false));
        Checks.is("price of the second", 70, x.lot(1, 1, true));
        Checks.is("units of the second", 60, x.lot(1, 1, false));
        for (boolean isPrice : new boolean[] {false, true}) {
            Checks.thrown("no third lot", Refusals.MISSING, () -> x.lot(1, 2, isPrice));
            Checks.thrown("no material 3", Refusals.INDEX, () -> x.lot(3, 0, isPrice));
        }
    }

    @Sentence(in = "Promise 24", says = "- `index`: the index of the lot, from 0 for the first one")
    static void firstAndLastLot() {
        BindingPlanner x = Planners.withThirtyLots();
        for (int material = 0; material < 3; material++) {
            Checks.is("first", 1, x.lot(material, 0, true));
            Checks.is("last", 10, x.lot(material, 9, true));
        }
        BindingPlanner y = new BindingPlanner();
        for (int lot = 1; lot <= 30; lot++) {
            y.buy(0, lot, 5);
        }
        Checks.is("first of thirty", 1, y.lot(0, 0, false));
        Checks.is("last of thirty", 30, y.lot(0, 29, false));
    }

    @Sentence(in = "Promise 24", says = "Returns the number.")
    static void leastAndGreatestNumbersOfALot() {
        BindingPlanner x = new BindingPlanner();
        x.buy(0, 1, 9999);
        x.buy(0, 999, 1);
        Checks.is("fewest units", 1, x.lot(0, 0, false));
        Checks.is("greatest price", 9999, x.lot(0, 0, true));
        Checks.is("most units", 999, x.lot(0, 1, false));
        Checks.is("least price", 1, x.lot(0, 1, true));
    }

    @Sentence(in = "Promise 24", says = NO_MATERIAL)
    static void lotOfNoSuchMaterial() {
        refusesMaterialsThatDoNotExist((x, material) -> x.lot(material, 0, true));
    }

    @Sentence(in = "Promise 24", says = "Throws `NoSuchElementException` if there is no such lot")
    static void lotThatDoesNotExist() {
        Refusals.leaves(Refusals.MISSING, BindingPlanner::new, x -> x.lot(0, 0, true), x -> x.lot(2, 0, false));
        Refusals.leaves(Refusals.MISSING, Planners::withThirtyLots, x -> x.lot(0, 10, true), x -> x.lot(1, -1, false),
            x -> x.lot(2, 29, true), x -> x.lot(0, Refusals.LEAST, true), x -> x.lot(0, Refusals.MOST, false));
        BindingPlanner x = Planners.withEnough();
        Checks.is("before it went", 2, x.lot(0, 0, false));
        x.make(0);
        Checks.thrown("after it went", Refusals.MISSING, () -> x.lot(0, 0, false));
    }

    // Promise 25: setPrice

    @Sentence(in = "Promise 25", says = "Sets the price of a material from a day on, in place of one from the same day "
        + "on.")
    static void inPlaceOfOneFromTheSameDayOn() {
        BindingPlanner x = new BindingPlanner();
        x.setPrice(1, 5, 10);
        x.setPrice(1, 6, 20);
        x.setPrice(1, 5, 30);
        Checks.is("the same day", 30, x.price(1, 5));
        Checks.is("the next day stays", 20, x.price(1, 6));
        x.setPrice(2, 6, 40);
        Checks.is("another material stays", 20, x.price(1, 6));
        Checks.is("three", 3, x.account(7));
    }

    @Sentence(in = "Promise 25", says = "- `material`: the material")
    static void setPriceOfEachMaterial() {
        for (int set = 0; set < 3; set++) {
            BindingPlanner x = new BindingPlanner();
            x.setPrice(set, 5, 60);
            for (int each = 0; each < 3; each++) {
                int material = each;
                Checks.same("price of " + material, material == set ? "60" : "NoSuchElementException",
                    Checks.answer(() -> x.price(material, 5)));
            }
        }
        BindingPlanner x = new BindingPlanner();
        Checks.thrown("material 3", Refusals.INDEX, () -> x.setPrice(3, 5, 60));
        Checks.thrown("material -1", Refusals.INDEX, () -> x.setPrice(-1, 5, 60));
    }

    @Sentence(in = "Promise 25", says = "- `day`: the day, 0 to 9999")
    static void setPriceOfTheFirstAndTheLastDay() {
        BindingPlanner x = new BindingPlanner();
        x.setPrice(0, 0, 1);
        x.setPrice(0, 9999, 2);
        Checks.is("first day", 1, x.price(0, 0));
        Checks.is("last day", 2, x.price(0, 9999));
        Checks.thrown("-1", Refusals.ARGUMENT, () -> x.setPrice(0, -1, 1));
        Checks.thrown("10000", Refusals.ARGUMENT, () -> x.setPrice(0, 10000, 1));
    }

    @Sentence(in = "Promise 25", says = "- `price`: the price, 1 to 9999")
    static void setPriceOfTheLeastAndTheGreatestPrice() {
        BindingPlanner x = new BindingPlanner();
        x.setPrice(0, 5, 1);
        Checks.is("least", 1, x.price(0, 5));
        x.setPrice(0, 5, 9999);
        Checks.is("greatest", 9999, x.price(0, 5));
        Checks.thrown("0", Refusals.ARGUMENT, () -> x.setPrice(0, 5, 0));
        Checks.thrown("10000", Refusals.ARGUMENT, () -> x.setPrice(0, 5, 10000));
        Checks.is("stays", 9999, x.price(0, 5));
    }

    @Sentence(in = "Promise 25", says = "Returns the number of prices that are kept.")
    static void pricesFrom1To20() {
        BindingPlanner x = new BindingPlanner();
        for (int price = 0; price < 20; price++) {
            Checks.is("kept", price + 1, x.setPrice(price % 3, 7 * price, 5));
            Checks.is("in place of it", price + 1, x.setPrice(price % 3, 7 * price, 6));
        }
        x.dropPrice(0, 0);
        Checks.is("after one was dropped", 20, x.setPrice(2, 0, 5));
    }

    @Sentence(in = "Promise 25", says = NO_MATERIAL)
    static void setPriceOfNoSuchMaterial() {
        refusesMaterialsThatDoNotExist((x, material) -> x.setPrice(material, 100, 1));
    }

    @Sentence(in = "Promise 25", says = RANGE)
    static void setPriceOutOfRange() {
        Refusals.leaves(Refusals.ARGUMENT, Planners::busy, x -> x.setPrice(0, -1, 1), x -> x.setPrice(0, 10000, 1),
            x -> x.setPrice(0, 0, 0), x -> x.setPrice(0, 0, 10000), x -> x.setPrice(0, Refusals.LEAST, 1),
            x -> x.setPrice(0, Refusals.MOST, 1), x -> x.setPrice(0, 0, Refusals.LEAST),
            x -> x.setPrice(0, 0, Refusals.MOST));
        Refusals.leaves(Refusals.ARGUMENT, Planners::full, x -> x.setPrice(0, 100, 0), x -> x.setPrice(0, 10000, 1));
    }

    @Sentence(in = "Promise 25", says = "Throws `IllegalStateException` if 20 prices are kept and none from this day on "
        + "for the material")
    static void setPriceWhereTwentyAreKept() {
        Refusals.leaves(Refusals.STATE, Planners::withTwentyPrices, x -> x.setPrice(0, 99, 1),
            x -> x.setPrice(0, 120, 1), x -> x.setPrice(1, 100, 1), x -> x.setPrice(2, 119, 1),
            x -> x.setPrice(0, 0, 1), x -> x.setPrice(0, 9999, 1));
        BindingPlanner x = Planners.withTwentyPrices();
        Checks.is("in place of the first of twenty", 20, x.setPrice(0, 100, 7));
        Checks.is("the first of twenty", 7, x.price(0, 100));
        Checks.is("in place of the last of twenty", 20, x.setPrice(0, 119, 8));
        Checks.is("the last of twenty", 8, x.price(0, 119));
        x.dropPrice(0, 110);
        Checks.is("another one where 19 are kept", 20, x.setPrice(1, 100, 1));
        Checks.thrown("and no more", Refusals.STATE, () -> x.setPrice(0, 110, 1));
    }

    // Promise 26: dropPrice

    @Sentence(in = "Promise 26", says = "Drops a price.")
    static void priceBeforeItHoldsAgain() {
        BindingPlanner x = new BindingPlanner();
        x.setPrice(1, 3, 30);
        x.setPrice(1, 7, 70);
        x.setPrice(1, 5, 50);
        Checks.is("the middle one", 50, x.dropPrice(1, 5));
        Checks.is("the first one holds on its day", 30, x.price(1, 5));
        Checks.is("the last one stays", 70, x.price(1, 7));
        Checks.thrown("it cannot be dropped twice", Refusals.MISSING, () -> x.dropPrice(1, 5));
        Checks.is("the first one", 30, x.dropPrice(1, 3));
        Checks.thrown("nothing holds the day before the last one", Refusals.MISSING, () -> x.price(1, 6));
        x.undo();
        x.undo();
        Checks.is("the middle one is back", 50, x.price(1, 6));
    }

    @Sentence(in = "Promise 26", says = "- `material`: the material")
    static void dropPriceOfEachMaterial() {
        for (int dropped = 0; dropped < 3; dropped++) {
            BindingPlanner x = new BindingPlanner();
            for (int material = 0; material < 3; material++) {
                x.setPrice(material, 5, 60 + material);
            }
            Checks.is("dropped", 60 + dropped, x.dropPrice(dropped, 5));
            for (int each = 0; each < 3; each++) {
                int material = each;
                Checks.same("price of " + material, material == dropped ? "NoSuchElementException" : "" + (60 + material),
                    Checks.answer(() -> x.price(material, 5)));
            }
            Checks.thrown("material 3", Refusals.INDEX, () -> x.dropPrice(3, 5));
            Checks.thrown("material -1", Refusals.INDEX, () -> x.dropPrice(-1, 5));
        }
    }

    @Sentence(in = "Promise 26", says = "- `day`: the day from which it is")
    static void daysBesideThatOfAPrice() {
        BindingPlanner x = Planners.withTwentyPrices();
        Checks.thrown("the day after the last", Refusals.MISSING, () -> x.dropPrice(0, 120));
        Checks.thrown("the day before the first", Refusals.MISSING, () -> x.dropPrice(0, 99));
        Checks.is("the last", 119, x.dropPrice(0, 119));
        Checks.is("the first", 100, x.dropPrice(0, 100));
        Checks.is("18 are kept", 18, x.account(7));
        Checks.is("the one before holds", 118, x.price(0, 119));
        Checks.thrown("none holds before the second", Refusals.MISSING, () -> x.price(0, 100));
        x.setPrice(1, 0, 5);
        x.setPrice(1, 9999, 6);
        Checks.is("day 0", 5, x.dropPrice(1, 0));
        Checks.is("day 9999", 6, x.dropPrice(1, 9999));
    }

    @Sentence(in = "Promise 26", says = "Returns the price.")
    static void allOfTwentyPrices() {
        BindingPlanner x = Planners.withTwentyPrices();
        for (int price = 0; price < 20; price++) {
            int day = 100 + price * 7 % 20;
            Checks.is("price", day, x.dropPrice(0, day));
            Checks.is("kept", 19 - price, x.account(7));
            Checks.thrown("dropped", Refusals.MISSING, () -> x.dropPrice(0, day));
        }
        x.setPrice(0, 5, 9999);
        Checks.is("the greatest", 9999, x.dropPrice(0, 5));
    }

    @Sentence(in = "Promise 26", says = "Returns the price.")
    static void allOfTwentyPricesOfAllMaterials() {
        BindingPlanner x = new BindingPlanner();
        for (int price = 0; price < 20; price++) {
            x.setPrice(price % 3, 10 + price, 100 + price);
        }
        for (int dropped = 0; dropped < 20; dropped++) {
            Checks.is("price", 100 + dropped, x.dropPrice(dropped % 3, 10 + dropped));
            for (int kept = dropped + 1; kept < 20; kept++) {
                Checks.is("another one stays", 100 + kept, x.price(kept % 3, 10 + kept));
            }
        }
        for (int left = 7; left >= 0; left--) {
            x.undo();
            Checks.is("undone", 112 + left, x.price((12 + left) % 3, 12 + left + 10));
        }
        Checks.is("eight are brought back", 8, x.account(7));
    }

    @Sentence(in = "Promise 26", says = NO_MATERIAL)
    static void dropPriceOfNoSuchMaterial() {
        refusesMaterialsThatDoNotExist((x, material) -> x.dropPrice(material, 5));
    }

    @Sentence(in = "Promise 26", says = "Throws `NoSuchElementException` if there is no such price")
    static void dropPriceThatDoesNotExist() {
        Refusals.leaves(Refusals.MISSING, BindingPlanner::new, x -> x.dropPrice(0, 0));
        Refusals.leaves(Refusals.MISSING, Planners::withTwentyPrices, x -> x.dropPrice(0, 99), x -> x.dropPrice(0, 120),
            x -> x.dropPrice(1, 100), x -> x.dropPrice(2, 119), x -> x.dropPrice(0, -1), x -> x.dropPrice(0, 10000),
            x -> x.dropPrice(0, Refusals.LEAST), x -> x.dropPrice(0, Refusals.MOST));
    }

    // Promise 27: price

    @Sentence(in = "Promise 27", says = "Returns the list price of a material.")
    static void listPriceOfEachDay() {
        BindingPlanner x = new BindingPlanner();
        x.setPrice(0, 4, 40);
        x.setPrice(0, 2, 90);
        x.setPrice(0, 8, 10);
        int[] due = {90, 90, 40, 40, 40, 40, 10, 10};
        for (int day = 2; day < 10; day++) {
            Checks.is("day " + day, due[day - 2], x.price(0, day));
        }
        x.pass(999);
        Checks.is("whatever the day is", 90, x.price(0, 3));
        x.buy(0, 5, 77);
        Checks.is("whatever the lots cost", 90, x.price(0, 3));
    }

    @Sentence(in = "Promise 27", says = "- `material`: the material")
    static void priceOfEachMaterial() {
        BindingPlanner x = new BindingPlanner();
        for (int material = 2; material >= 0; material--) {
            x.setPrice(material, 6 - material, 60 + material);
            x.setPrice(material, 10, 70 + material);
        }
        for (int material = 0; material < 3; material++) {
            Checks.is("early, material " + material, 60 + material, x.price(material, 9));
            Checks.is("late, material " + material, 70 + material, x.price(material, 10));
        }
        Checks.thrown("board on the day of paper", Refusals.MISSING, () -> x.price(0, 5));
        Checks.thrown("material 3", Refusals.INDEX, () -> x.price(3, 9));
        Checks.thrown("material -1", Refusals.INDEX, () -> x.price(-1, 9));
    }

    @Sentence(in = "Promise 27", says = "- `day`: the day, any int")
    static void priceOfTheLeastAndTheGreatestInt() {
        BindingPlanner x = new BindingPlanner();
        x.setPrice(0, 0, 5);
        x.setPrice(0, 9999, 6);
        Checks.thrown("least int", Refusals.MISSING, () -> x.price(0, Refusals.LEAST));
        Checks.thrown("-1", Refusals.MISSING, () -> x.price(0, -1));
        Checks.is("0", 5, x.price(0, 0));
        Checks.is("9998", 5, x.price(0, 9998));
        Checks.is("9999", 6, x.price(0, 9999));
        Checks.is("10000", 6, x.price(0, 10000));
        Checks.is("greatest int", 6, x.price(0, Refusals.MOST));
    }

    @Sentence(in = "Promise 27", says = "Returns the price.")
    static void leastAndGreatestPrice() {
        BindingPlanner x = new BindingPlanner();
        x.setPrice(2, 0, 1);
        x.setPrice(2, 1, 9999);
        Checks.is("least", 1, x.price(2, 0));
        Checks.is("greatest", 9999, x.price(2, 1));
        BindingPlanner y = Planners.withTwentyPrices();
        for (int day = 100; day < 120; day++) {
            Checks.is("of twenty", day, y.price(0, day));
        }
    }

    @Sentence(in = "Promise 27", says = NO_MATERIAL)
    static void priceOfNoSuchMaterial() {
        refusesMaterialsThatDoNotExist((x, material) -> x.price(material, 5));
    }

    @Sentence(in = "Promise 27", says = "Throws `NoSuchElementException` if there is none on this day")
    static void priceOfADayWithoutOne() {
        Refusals.leaves(Refusals.MISSING, BindingPlanner::new, x -> x.price(0, 0), x -> x.price(0, Refusals.MOST));
        Refusals.leaves(Refusals.MISSING, Planners::withTwentyPrices, x -> x.price(0, 99), x -> x.price(0, -1),
            x -> x.price(0, Refusals.LEAST), x -> x.price(1, 100), x -> x.price(2, Refusals.MOST));
    }

    // Promise 28: cost

    private static BindingPlanner withPrices() {
        BindingPlanner x = Planners.withBook();
        x.setPrice(0, 7, 100);
        x.setPrice(1, 0, 10);
        x.setPrice(2, 5, 1);
        return x;
    }

    @Sentence(in = "Promise 28", says = "Returns what a book costs by the list prices.")
    static void costByTheListPricesNotByTheLots() {
        BindingPlanner x = withPrices();
        x.setBlock(0, 3, 10);
        Checks.is("without lots", 2 * 100 + 2 * 10 + 24, x.cost(0, 7));
        x.buy(0, 50, 9000);
        x.buy(1, 50, 9000);
        x.buy(2, 50, 9000);
        Checks.is("with dear lots", 244, x.cost(0, 7));
        x.make(0);
        Checks.is("after make", 244, x.cost(0, 7));
        x.pass(5);
        Checks.is("whatever the day is", 244, x.cost(0, 7));
        x.setPrice(2, 6, 1000);
        Checks.is("dearer cloth", 220 + 24000, x.cost(0, 7));
    }

    @Sentence(in = "Promise 28", says = "- `book`: the book")
    static void costOfEachBookOfTen() {
        TenBooks.each("cost", (x, book) -> {
            x.setPrice(0, 0, 1);
            x.setPrice(1, 0, 100);
            x.setPrice(2, 0, 9999);
            return x.cost(book, 0);
        }, 20100, 100092, 220180, 370366, 540550, 750631, 982010, 1252285, 1553962, 1874439);
    }

    @Sentence(in = "Promise 28", says = "- `day`: the day")
    static void costOfEachDay() {
        BindingPlanner x = withPrices();
        x.setPrice(0, 9, 200);
        x.setPrice(1, 10, 20);
        x.setPrice(2, 9999, 5);
        int[] days = {7, 8, 9, 10, 11, 9998, 9999, 10000, Refusals.MOST};
        int[] due = {213, 213, 413, 423, 423, 423, 435, 435, 435};
        for (int each = 0; each < days.length; each++) {
            Checks.is("day " + days[each], due[each], x.cost(0, days[each]));
        }
        for (int day : new int[] {6, 5, 0, -1, Refusals.LEAST}) {
            Checks.thrown("day " + day, Refusals.MISSING, () -> x.cost(0, day));
        }
    }

    @Sentence(in = "Promise 28", says = "Returns the cost.")
    static void costOfTheFirstDayOfAllPricesAndTheLastInt() {
        BindingPlanner x = withPrices();
        Checks.is("first day", 2 * 100 + 10 + 3, x.cost(0, 7));
        Checks.is("last int", 2 * 100 + 10 + 3, x.cost(0, Refusals.MOST));
        x.setPrice(0, 8, 9999);
        Checks.is("the day before another price", 2 * 100 + 10 + 3, x.cost(0, 7));
        Checks.is("the day of it", 2 * 9999 + 10 + 3, x.cost(0, 8));
        x.setBlock(0, 3, 50);
        Checks.is("50 copies", 6 * 100 + 10 * 10 + 118, x.cost(0, 7));
    }

    @Sentence(in = "Promise 28", says = NO_BOOK)
    static void costWithoutSuchABook() {
        Refusals.leaves(Refusals.INDEX, BindingPlanner::new, x -> x.cost(0, 0));
        Refusals.leaves(Refusals.INDEX, Planners::busy, x -> x.cost(2, 9), x -> x.cost(-1, 9),
            x -> x.cost(Refusals.LEAST, 9), x -> x.cost(Refusals.MOST, 9));
        Refusals.leaves(Refusals.INDEX, Planners::withTenBooks, x -> x.cost(10, 0));
    }

    @Sentence(in = "Promise 28", says = "Throws `UnsupportedOperationException` if making it would be refused for reason "
        + "1 or 2")
    static void costWhereReason1Or2Holds() {
        Refusals.leaves(Refusals.UNSUPPORTED, () -> {
            BindingPlanner x = withPrices();
            x.set(4, 339);
            return x;
        }, x -> x.cost(0, 7), x -> x.cost(0, 0));
        int[][] wrong = {{0, 205, 135}, {0, 206, 134}, {1, 199, 280}, {1, 200, 279}};
        for (int[] w : wrong) {
            Refusals.leaves(Refusals.UNSUPPORTED, () -> {
                BindingPlanner x = withPrices();
                x.setSheet(w[0], w[1], w[2], 1);
                return x;
            }, x -> x.cost(0, 7));
        }
        BindingPlanner x = withPrices();
        x.set(4, 340);
        x.setSheet(0, 206, 135, 1);
        x.setSheet(1, 200, 280, 1);
        Checks.is("reason 3", 3, x.wouldRefuse(0));
        Checks.is("cost where reason 3 holds", 3 * 100 + 2 * 10 + 3, x.cost(0, 7));
        x.buy(0, 9, 1);
        Checks.is("reason 4", 4, x.wouldRefuse(0));
        Checks.is("cost where reason 4 holds", 323, x.cost(0, 7));
        x.buy(1, 9, 1);
        Checks.is("reason 5", 5, x.wouldRefuse(0));
        Checks.is("cost where reason 5 holds", 323, x.cost(0, 7));
    }

    @Sentence(in = "Promise 28", says = "Throws `NoSuchElementException` if a material has no list price on this day")
    static void costWhereAMaterialHasNoListPrice() {
        Refusals.leaves(Refusals.MISSING, Promises22To32Test::withPrices, x -> x.cost(0, 6), x -> x.cost(0, 4),
            x -> x.cost(0, -1), x -> x.cost(0, Refusals.LEAST));
        for (int each = 0; each < 3; each++) {
            int material = each;
            Refusals.leaves(Refusals.MISSING, () -> {
                BindingPlanner x = withPrices();
                x.dropPrice(material, new int[] {7, 0, 5}[material]);
                return x;
            }, x -> x.cost(0, 7), x -> x.cost(0, Refusals.MOST));
        }
    }

    // Promise 29: make

    @Sentence(in = "Promise 29", says = "Makes a book.")
    static void madeBookUsesUnitsAndCounts() {
        BindingPlanner x = Planners.withEnough();
        x.buy(2, 5, 9);
        Checks.is("cost", 2 * 100 + 2 * 30 + 24 * 7, x.make(0));
        long[] due = {0, 1, 10, 428, 473, 45, 1, 0, 2, 2, 24};
        for (int what = 0; what <= 10; what++) {
            Checks.is("account " + what, due[what], x.account(what));
        }
        Checks.is("units of cloth that are left", 5, x.stock(2));
    }

    @Sentence(in = "Promise 29", says = "- `book`: the book")
    static void makeOfEachBookOfTen() {
        int[] due = {2102, 10102, 22202, 37403, 54604, 75706, 100108, 127410, 159117, 191626};
        BindingPlanner x = TenBooks.made();
        x.buy(0, 999, 1);
        x.buy(1, 999, 100);
        x.buy(2, 999, 1000);
        int copies = 0;
        for (int book = 0; book < 10; book++) {
            Checks.is("cost of book " + book, due[book], x.make(book));
            copies += 1 + 5 * book;
            Checks.is("copies made", copies, x.account(2));
        }
        Checks.thrown("book 10", Refusals.INDEX, () -> x.make(10));
        Checks.thrown("book -1", Refusals.INDEX, () -> x.make(-1));
        Checks.is("board used", 80, x.account(8));
        Checks.is("paper used", 153, x.account(9));
        Checks.is("cloth used", 765, x.account(10));
    }

    @Sentence(in = "Promise 29", says = "Returns what the units that are used cost by the prices of their lots.")
    static void costOverTheLotsThatAreUsed() {
        BindingPlanner x = Planners.withBook();
        x.setBlock(0, 3, 10);
        x.buy(0, 1, 9999);
        x.buy(2, 23, 10);
        x.buy(0, 1, 1);
        x.buy(1, 2, 5);
        x.buy(2, 1, 1000);
        x.buy(2, 1, 7777);
        Checks.is("two lots of board and of cloth", 9999 + 1 + 2 * 5 + 23 * 10 + 1000, x.make(0));
        Checks.is("the third lot of cloth is not used", 7777, x.lot(2, 0, true));
        BindingPlanner y = new BindingPlanner();
        y.set(0, 0);
        y.set(2, 8);
        y.addBook(80, 60, 5);
        y.buy(0, 2, 1);
        y.buy(1, 1, 1);
        y.buy(2, 1, 1);
        Checks.is("the least cost", 4, y.make(0));
    }

    @Sentence(in = "Promise 29", says = "Returns what the units that are used cost by the prices of their lots.")
    static void costOverTenLotsOfAMaterial() {
        BindingPlanner x = Planners.withBook();
        x.setBlock(0, 3, 4);
        x.buy(0, 9, 1);
        x.buy(1, 9, 1);
        for (int lot = 1; lot <= 11; lot++) {
            x.buy(2, 1, lot);
        }
        Checks.is("10 units of cloth", 2 + 1 + 55, x.make(0));
        Checks.is("the eleventh is left", 11, x.lot(2, 0, true));
        Checks.is("three lots", 3, x.account(6));
    }

    @Sentence(in = "Promise 29", says = NO_BOOK)
    static void makeWithoutSuchABook() {
        Refusals.leaves(Refusals.INDEX, BindingPlanner::new, x -> x.make(0));
        Refusals.leaves(Refusals.INDEX, Planners::busy, x -> x.make(2), x -> x.make(-1), x -> x.make(Refusals.LEAST),
            x -> x.make(Refusals.MOST));
        Refusals.leaves(Refusals.INDEX, Planners::full, x -> x.make(10));
        Checks.is("the last of ten", (2 + 1 + 3) * 9999, Planners.full().make(9));
    }

    @Sentence(in = "Promise 29", says = "Throws `UnsupportedOperationException` if this is refused; the reason is kept for "
        + "refusal")
    static void refusedMakeKeepsTheReasonAlone() {
        BindingPlanner x = Planners.withEnough();
        x.setBlock(0, 3, 11);
        String before = Told.now(x);
        Checks.thrown("a sheet of board and two units of cloth too few", Refusals.UNSUPPORTED, () -> x.make(0));
        Checks.is("reason", 3, x.refusal());
        Checks.same("all else stays", before.replaceFirst("NoSuchElementException -1$", "3 -1"), Told.now(x));
        x.undo();
        Checks.is("made with a copy less", 2 * 100 + 2 * 30 + 24 * 7, x.make(0));
        Checks.is("the reason stays", 3, x.refusal());
        Checks.thrown("nothing is left", Refusals.UNSUPPORTED, () -> x.make(0));
        Checks.is("six changes were kept", 5, x.undo());
    }

    // Promise 30: refusal

    private static void refused(BindingPlanner x, int reason) {
        Checks.thrown("refused for " + reason, Refusals.UNSUPPORTED, () -> x.make(0));
        Checks.is("reason " + reason, reason, x.refusal());
    }

    @Sentence(in = "Promise 30", says = "Returns the reason for which the latest call of make that was refused was "
        + "refused.")
    static void latestReasonStays() {
        BindingPlanner x = Planners.withBook();
        refused(x, 3);
        x.set(4, 300);
        refused(x, 1);
        Checks.thrown("no such book is no refusal", Refusals.INDEX, () -> x.make(1));
        Checks.is("latest", 1, x.refusal());
        x.set(4, 1000);
        for (int material = 0; material < 3; material++) {
            x.buy(material, 9, 1);
        }
        x.make(0);
        Checks.is("after a make that was not refused", 1, x.refusal());
        Checks.is("and the same again", 1, x.refusal());
    }

    @Sentence(in = "Promise 30", says = "Returns the reason, 1 to 5.")
    static void eachReason() {
        BindingPlanner x = Planners.withBook();
        x.set(4, 339);
        x.setSheet(1, 199, 280, 1);
        refused(x, 1);
        x.set(4, 340);
        refused(x, 2);
        x.setSheet(1, 200, 280, 1);
        refused(x, 3);
        x.buy(0, 2, 1);
        refused(x, 4);
        x.buy(1, 2, 1);
        refused(x, 5);
    }

    @Sentence(in = "Promise 30", says = "Throws `NoSuchElementException` if none was refused")
    static void refusalWhereNoneWasRefused() {
        Refusals.leaves(Refusals.MISSING, BindingPlanner::new, x -> x.refusal());
        Refusals.leaves(Refusals.MISSING, Planners::withEnough, x -> x.refusal());
        BindingPlanner x = Planners.withEnough();
        x.make(0);
        Checks.thrown("after a make", Refusals.MISSING, x::refusal);
        x.wouldRefuse(0);
        Checks.thrown("after wouldRefuse", Refusals.MISSING, x::refusal);
        Checks.thrown("no such book", Refusals.INDEX, () -> x.make(1));
        Checks.thrown("after no such book", Refusals.MISSING, x::refusal);
    }

    // Promise 31: pass

    @Sentence(in = "Promise 31", says = "Lets days pass.")
    static void daysAddUp() {
        BindingPlanner x = Planners.withEnough();
        Checks.is("five", 5, x.pass(5));
        Checks.is("and one", 6, x.pass(1));
        Checks.is("and 300", 306, x.pass(300));
        Checks.is("account of the day", 306, x.account(0));
        x.undo();
        Checks.is("account of the day after undo", 6, x.account(0));
        Checks.is("nothing else changes", 2, x.stock(0));
    }

    @Sentence(in = "Promise 31", says = "- `days`: the number of days, 1 to 999")
    static void fewestAndMostDays() {
        BindingPlanner x = new BindingPlanner();
        Checks.is("1", 1, x.pass(1));
        Checks.is("999", 1000, x.pass(999));
        Checks.thrown("0", Refusals.ARGUMENT, () -> x.pass(0));
        Checks.thrown("1000", Refusals.ARGUMENT, () -> x.pass(1000));
        Checks.is("day", 1000, x.account(0));
    }

    private static BindingPlanner onDay(int day) {
        BindingPlanner x = new BindingPlanner();
        int left = day;
        while (left > 0) {
            int days = Math.min(left, 999);
            x.pass(days);
            left -= days;
        }
        return x;
    }

    @Sentence(in = "Promise 31", says = "Returns the day then.")
    static void firstAndLastDay() {
        Checks.is("first", 1, new BindingPlanner().pass(1));
        Checks.is("last, by a day", 9999, onDay(9998).pass(1));
        Checks.is("last, by most days", 9999, onDay(9000).pass(999));
    }

    @Sentence(in = "Promise 31", says = "Throws `IllegalArgumentException` if the number is out of range")
    static void passOutOfRange() {
        Refusals.leaves(Refusals.ARGUMENT, Planners::busy, x -> x.pass(0), x -> x.pass(1000), x -> x.pass(-1),
            x -> x.pass(Refusals.LEAST), x -> x.pass(Refusals.MOST));
        Refusals.leaves(Refusals.ARGUMENT, Planners::full, x -> x.pass(0), x -> x.pass(1000), x -> x.pass(-999),
            x -> x.pass(Refusals.MOST));
    }

    @Sentence(in = "Promise 31", says = "Throws `IllegalStateException` if the day would be greater than 9999")
    static void passBehindTheLastDay() {
        Refusals.leaves(Refusals.STATE, () -> onDay(9999), x -> x.pass(1), x -> x.pass(999));
        Refusals.leaves(Refusals.STATE, () -> onDay(9998), x -> x.pass(2), x -> x.pass(999));
        Refusals.leaves(Refusals.STATE, () -> onDay(9001), x -> x.pass(999));
        Checks.is("just the last day", 9999, onDay(9001).pass(998));
    }

    // Promise 32: account

    @Sentence(in = "Promise 32", says = "Returns an account.")
    static void accountsOfABusyPlanner() {
        BindingPlanner x = Planners.busy();
        long[] due = {12, 2, 10, 428, 428 + 36 + 24, 36 + 24, 2, 2, 2, 2, 24};
        for (int what = 0; what <= 10; what++) {
            Checks.is("account " + what, due[what], x.account(what));
            Checks.is("account " + what + " again", due[what], x.account(what));
        }
    }

    @Sentence(in = "Promise 32", says = "- `what`: 0 for the day, 1 for the books that are kept, 2 for the copies made, "
        + "3 for the cost of all that was made, 4 for what was paid for all lots, 5 for the worth of all lots that are kept, by "
        + "their units and prices, 6 for the lots and 7 for the prices that are kept, 8 to 10 for the units of material "
        + "0 to 2 that were used")
    static void eachAccountOfAnEmptyAndOfAFullPlanner() {
        BindingPlanner empty = new BindingPlanner();
        BindingPlanner full = Planners.full();
        long paid = 30L * 999 * 9999;
        long[] due = {9999, 10, 0, 0, paid, paid, 30, 20, 0, 0, 0};
        for (int what = 0; what <= 10; what++) {
            Checks.is("empty, account " + what, 0, empty.account(what));
            Checks.is("full, account " + what, due[what], full.account(what));
        }
        full.setBlock(9, 3, 50);
        full.make(9);
        full.make(0);
        long made = (6 + 10 + 118 + 2 + 1 + 3) * 9999L;
        long[] dueThen = {9999, 10, 51, made, paid, paid - made, 30, 20, 8, 11, 121};
        for (int what = 0; what <= 10; what++) {
            Checks.is("then, account " + what, dueThen[what], full.account(what));
        }
    }

    @Sentence(in = "Promise 32", says = "Returns the number.")
    static void accountsOf120DearMakes() {
        BindingPlanner x = new BindingPlanner();
        x.set(0, 6);
        x.set(1, 4);
        x.set(2, 25);
        x.addBook(400, 300, 80);
        x.setBlock(0, 3, 50);
        x.setSheet(0, 412, 302, 1);
        x.setSheet(1, 400, 600, 1);
        for (int round = 0; round < 120; round++) {
            x.buy(0, 117, 9999);
            x.buy(1, 100, 9999);
            x.buy(2, 231, 9999);
            x.make(0);
        }
        long sum = 120L * (117 + 100 + 231) * 9999;
        long[] due = {0, 1, 6000, sum, sum, 0, 0, 0, 120 * 117, 120 * 100, 120 * 231};
        for (int what = 0; what <= 10; what++) {
            Checks.is("account " + what, due[what], x.account(what));
        }
    }

    @Sentence(in = "Promise 32", says = "Throws `IllegalArgumentException` if what is not from 0 to 10")
    static void accountThatDoesNotExist() {
        Refusals.leaves(Refusals.ARGUMENT, Planners::busy, x -> x.account(-1), x -> x.account(11),
            x -> x.account(Refusals.LEAST), x -> x.account(Refusals.MOST));
    }
}
