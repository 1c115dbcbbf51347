import java.util.List;
import java.util.function.Consumer;

/** Each sentence of the second half of "Description", Lots to "In doubt, too". */
public final class DescriptionKeepingTest {
    public static void main(String[] args) {
        Sentences.ofSections(DescriptionKeepingTest.class, List.of("Lots", "Prices", "Making", "Texts", "Changes",
            "In doubt", "Exceptions", "In doubt, too"));
    }

    // Lots

    @Sentence(in = "Lots", says = "A lot has a material, a number of units, 1 to 999, and a price for a unit, 1 to 9999")
    static void lotsOfAllMaterialsApart() {
        BindingPlanner x = new BindingPlanner();
        x.buy(2, 999, 1);
        x.buy(0, 1, 9999);
        x.buy(1, 500, 5000);
        int[][] due = {{1, 9999}, {500, 5000}, {999, 1}};
        for (int each = 0; each < 3; each++) {
            int material = each;
            Checks.is("units of " + material, due[material][0], x.lot(material, 0, false));
            Checks.is("price of " + material, due[material][1], x.lot(material, 0, true));
            Checks.thrown("no second lot of " + material, Refusals.MISSING, () -> x.lot(material, 1, true));
        }
        Checks.thrown("no lot without a material", Refusals.INDEX, () -> x.buy(3, 1, 1));
    }

    @Sentence(in = "Lots", says = "a number of units, 1 to 999")
    static void unitsFrom1To999() {
        BindingPlanner x = new BindingPlanner();
        x.buy(0, 1, 5);
        x.buy(0, 999, 5);
        Checks.is("least", 1, x.lot(0, 0, false));
        Checks.is("most", 999, x.lot(0, 1, false));
        Checks.thrown("0", Refusals.ARGUMENT, () -> x.buy(0, 0, 5));
        Checks.thrown("1000", Refusals.ARGUMENT, () -> x.buy(0, 1000, 5));
        Checks.is("two lots", 2, x.account(6));
    }

    @Sentence(in = "Lots", says = "a price for a unit, 1 to 9999")
    static void priceOfALotFrom1To9999() {
        BindingPlanner x = new BindingPlanner();
        x.buy(2, 7, 1);
        x.buy(2, 7, 9999);
        Checks.is("least", 1, x.lot(2, 0, true));
        Checks.is("greatest", 9999, x.lot(2, 1, true));
        Checks.thrown("0", Refusals.ARGUMENT, () -> x.buy(2, 7, 0));
        Checks.thrown("10000", Refusals.ARGUMENT, () -> x.buy(2, 7, 10000));
        Checks.is("two lots", 2, x.account(6));
    }

    @Sentence(in = "Lots", says = "a unit is a sheet, or 100 millimetres of cloth from the roll.")
    static void begun100MillimetresAreAUnit() {
        BindingPlanner x = new BindingPlanner();
        x.addBook(164, 100, 10);
        Checks.is("200 millimetres of cloth", 2, x.needed(0, 2));
        x.setBlock(0, 0, 165);
        Checks.is("201 millimetres of cloth", 3, x.needed(0, 2));
        x.setBlock(0, 0, 163);
        Checks.is("199 millimetres of cloth", 2, x.needed(0, 2));
    }

    @Sentence(in = "Lots", says = "At most 30 lots are kept")
    static void thirtyLotsOfAllMaterialsAreKept() {
        BindingPlanner none = new BindingPlanner();
        Checks.is("none at first", 0, none.account(6));
        BindingPlanner x = Planners.withThirtyLots();
        Checks.is("30", 30, x.account(6));
        for (int each = 0; each < 3; each++) {
            int material = each;
            Checks.thrown("the 31st", Refusals.STATE, () -> x.buy(material, 1, 1));
            for (int lot = 0; lot < 10; lot++) {
                Checks.is("price of lot " + lot, lot + 1, x.lot(material, lot, true));
            }
        }
        BindingPlanner ofOne = new BindingPlanner();
        for (int lot = 1; lot <= 30; lot++) {
            Checks.is("lots of one material", lot, ofOne.buy(1, 1, 1));
        }
        Checks.thrown("the 31st of one material", Refusals.STATE, () -> ofOne.buy(1, 1, 1));
    }

    @Sentence(in = "Lots", says = "when a lot is bought, it comes behind the lots of its material")
    static void newLotComesLast() {
        BindingPlanner x = Planners.withEnough();
        x.buy(0, 9, 50);
        x.make(0);
        x.buy(0, 4, 60);
        x.buy(1, 5, 70);
        Checks.is("first lot of board", 50, x.lot(0, 0, true));
        Checks.is("last lot of board", 60, x.lot(0, 1, true));
        Checks.is("first lot of a material that had gone", 70, x.lot(1, 0, true));
    }

    @Sentence(in = "Lots", says = "what is used is taken from the first lot of the material, which goes when it has no "
        + "units any more.")
    static void lotGoesWithItsLastUnit() {
        BindingPlanner x = Planners.withEnough();
        x.buy(0, 1, 55);
        x.buy(1, 1, 66);
        x.buy(2, 25, 77);
        x.make(0);
        Checks.is("the lots behind the used ones", 3, x.account(6));
        Checks.is("first price of board", 55, x.lot(0, 0, true));
        Checks.is("first price of paper", 66, x.lot(1, 0, true));
        Checks.is("first price of cloth", 77, x.lot(2, 0, true));
        x.buy(0, 2, 56);
        x.buy(1, 2, 67);
        Checks.is("over two lots", 55 + 56 + 66 + 67 + 24 * 77, x.make(0));
        Checks.is("a lot with one unit stays", 1, x.lot(0, 0, false));
        Checks.is("and keeps its price", 56, x.lot(0, 0, true));
        Checks.is("a unit of cloth stays", 1, x.lot(2, 0, false));
        Checks.is("three lots", 3, x.account(6));
    }

    @Sentence(in = "Lots", says = "which goes when it has no units any more.")
    static void lotsThatWentMakeRoomForOthers() {
        BindingPlanner x = Planners.withEnough();
        for (int lot = 3; lot < 30; lot++) {
            x.buy(0, 1, lot);
        }
        Checks.thrown("30 are kept", Refusals.STATE, () -> x.buy(1, 1, 1));
        x.make(0);
        Checks.is("27 are kept", 27, x.account(6));
        Checks.is("room again", 1, x.buy(1, 1, 1));
        Checks.is("room again", 2, x.buy(1, 1, 1));
        Checks.is("room again", 3, x.buy(1, 1, 1));
        Checks.thrown("30 are kept again", Refusals.STATE, () -> x.buy(1, 1, 1));
    }

    // Prices

    @Sentence(in = "Prices", says = "At most 20 prices are kept, each for a material")
    static void twentyPricesOfAllMaterialsAreKept() {
        BindingPlanner none = new BindingPlanner();
        Checks.is("none at first", 0, none.account(7));
        BindingPlanner x = new BindingPlanner();
        for (int price = 0; price < 20; price++) {
            Checks.is("kept", price + 1, x.setPrice(price % 3, price, price + 1));
        }
        for (int each = 0; each < 3; each++) {
            int material = each;
            Checks.thrown("the 21st", Refusals.STATE, () -> x.setPrice(material, 30, 1));
        }
        for (int price = 0; price < 20; price++) {
            Checks.is("price " + price, price + 1, x.price(price % 3, price));
        }
        x.dropPrice(2, 2);
        Checks.is("room again", 20, x.setPrice(1, 30, 1));
    }

    @Sentence(in = "Prices", says = "from a day on, 0 to 9999")
    static void pricesFromTheDays0To9999On() {
        BindingPlanner x = new BindingPlanner();
        x.setPrice(0, 9999, 7);
        Checks.thrown("nothing the day before the last", Refusals.MISSING, () -> x.price(0, 9998));
        Checks.is("on the last day", 7, x.price(0, 9999));
        x.setPrice(0, 0, 5);
        Checks.is("on the first day", 5, x.price(0, 0));
        Checks.is("the day before the last", 5, x.price(0, 9998));
        Checks.thrown("day -1", Refusals.ARGUMENT, () -> x.setPrice(0, -1, 5));
        Checks.thrown("day 10000", Refusals.ARGUMENT, () -> x.setPrice(0, 10000, 5));
    }

    @Sentence(in = "Prices", says = "there is at most one for the same material and day.")
    static void onePriceForAMaterialAndDay() {
        BindingPlanner x = new BindingPlanner();
        Checks.is("first", 1, x.setPrice(0, 5, 10));
        Checks.is("the same material and day", 1, x.setPrice(0, 5, 20));
        Checks.is("the same day of another material", 2, x.setPrice(1, 5, 30));
        Checks.is("the next day of the material", 3, x.setPrice(0, 6, 40));
        Checks.is("the later price holds", 20, x.price(0, 5));
        Checks.is("dropped", 20, x.dropPrice(0, 5));
        Checks.thrown("no other one is below it", Refusals.MISSING, () -> x.price(0, 5));
    }

    @Sentence(in = "Prices", says = "The list price of a material on a day is the price for it with the latest day that "
        + "is not later.")
    static void latestDayThatIsNotLater() {
        BindingPlanner x = new BindingPlanner();
        x.setPrice(1, 10, 100);
        x.setPrice(1, 12, 120);
        x.setPrice(1, 11, 110);
        x.setPrice(2, 9, 999);
        Checks.thrown("the day before the first", Refusals.MISSING, () -> x.price(1, 9));
        Checks.is("the first day", 100, x.price(1, 10));
        Checks.is("the second day", 110, x.price(1, 11));
        Checks.is("the third day", 120, x.price(1, 12));
        Checks.is("the day after", 120, x.price(1, 13));
        Checks.is("the last int", 120, x.price(1, Refusals.MOST));
    }

    @Sentence(in = "Prices", says = "A book costs, on a day, the sum over the three materials of the units that all of "
        + "its copies need times the list price, where the cloth of all copies needs the length of a cloth times the "
        + "copies divided by 100, rounded up.")
    static void leastAndGreatestCost() {
        BindingPlanner x = new BindingPlanner();
        x.addBook(164, 100, 10);
        for (int material = 0; material < 3; material++) {
            x.setPrice(material, 0, 1);
        }
        Checks.is("200 millimetres are 2 units", 2 + 1 + 2, x.cost(0, 0));
        x.setBlock(0, 0, 165);
        Checks.is("201 millimetres are 3 units", 2 + 1 + 3, x.cost(0, 0));
        BindingPlanner y = dearest();
        for (int material = 0; material < 3; material++) {
            y.setPrice(material, 0, 9999);
        }
        Checks.is("50 copies of the greatest book", (117 + 100 + 231) * 9999, y.cost(0, 9999));
    }

    /** 50 copies, each sheet giving one board or endpaper or three spine strips: 117 of board, 100, 231 of cloth. */
    private static BindingPlanner dearest() {
        BindingPlanner x = new BindingPlanner();
        x.set(0, 6);
        x.set(1, 4);
        x.set(2, 25);
        x.set(3, 4);
        x.addBook(400, 300, 80);
        x.setBlock(0, 3, 50);
        x.setSheet(0, 412, 302, 1);
        x.setSheet(1, 400, 600, 1);
        return x;
    }

    // Making

    @Sentence(in = "Making", says = "To make a book means to use the units that it costs of all three materials, from "
        + "the lots.")
    static void lastUnitsAreUsed() {
        BindingPlanner x = Planners.withEnough();
        Checks.is("cost by the lots", 2 * 100 + 2 * 30 + 24 * 7, x.make(0));
        for (int material = 0; material < 3; material++) {
            Checks.is("nothing left of material " + material, 0, x.stock(material));
        }
        Checks.is("no lot", 0, x.account(6));
        BindingPlanner y = dearest();
        for (int material = 0; material < 3; material++) {
            y.buy(material, 999, 9999);
        }
        Checks.is("the dearest book", (117 + 100 + 231) * 9999, y.make(0));
        Checks.is("board left", 999 - 117, y.stock(0));
        Checks.is("paper left", 999 - 100, y.stock(1));
        Checks.is("cloth left", 999 - 231, y.stock(2));
    }

    private static void refusedFor(String what, int reason, BindingPlanner x) {
        Checks.is(what + ": would be refused", reason, x.wouldRefuse(0));
        Checks.thrown(what + ": refused", Refusals.UNSUPPORTED, () -> x.make(0));
        Checks.is(what + ": reason", reason, x.refusal());
    }

    @Sentence(in = "Making", says = "It is refused for the first of these reasons")
    static void firstReasonWhereAllHold() {
        BindingPlanner x = Planners.withBook();
        x.set(4, 339);
        x.setSheet(0, 100, 100, 0);
        x.setSheet(1, 100, 100, 0);
        refusedFor("all of them", 1, x);
        x.set(4, 340);
        refusedFor("all but the first", 2, x);
        x.setSheet(0, 206, 135, 1);
        refusedFor("paper alone has the yield 0", 2, x);
        x.setSheet(0, 205, 135, 1);
        x.setSheet(1, 200, 280, 1);
        refusedFor("board alone has the yield 0", 2, x);
        x.setSheet(0, 206, 135, 1);
        refusedFor("nothing is there", 3, x);
        x.buy(0, 3, 1);
        refusedFor("no paper and no cloth", 4, x);
        x.buy(1, 2, 1);
        refusedFor("no cloth", 5, x);
        x.buy(2, 3, 1);
        Checks.is("no reason", 0, x.wouldRefuse(0));
    }

    @Sentence(in = "Making", says = "1, the cloth is too broad")
    static void refusedForAClothThatIsAMillimetreTooBroad() {
        BindingPlanner x = Planners.withEnough();
        x.set(4, 339);
        refusedFor("339", 1, x);
        x.set(4, 340);
        Checks.is("340", 0, x.wouldRefuse(0));
    }

    @Sentence(in = "Making", says = "2, a sheet has the yield 0 for a piece")
    static void refusedForASheetThatIsAMillimetreTooSmall() {
        BindingPlanner x = Planners.withEnough();
        x.buy(0, 99, 1);
        x.buy(1, 99, 1);
        int[][] wrong = {{0, 205, 135}, {0, 206, 134}, {1, 199, 280}, {1, 200, 279}};
        for (int[] w : wrong) {
            x.setSheet(w[0], w[1], w[2], 1);
            refusedFor(w[1] + " x " + w[2], 2, x);
            x.setSheet(w[0], 206, 280, 1);
            Checks.is("206 x 280", 0, x.wouldRefuse(0));
        }
    }

    @Sentence(in = "Making", says = "3, 4 and 5, there are not enough units of material 0, 1 or 2.")
    static void refusedForAUnitTooFew() {
        int[] enough = {2, 2, 24};
        for (int shortOne = 0; shortOne < 3; shortOne++) {
            BindingPlanner x = Planners.withBook();
            x.setBlock(0, 3, 10);
            for (int material = 0; material < 3; material++) {
                x.buy(material, material == shortOne ? enough[material] - 1 : enough[material], 1);
            }
            refusedFor("a unit too few", 3 + shortOne, x);
            x.buy(shortOne, 1, 1);
            Checks.is("as many as it needs", 0, x.wouldRefuse(0));
            Checks.is("made", 28, x.make(0));
        }
    }

    // Texts

    private static void reads(String text, int height, int width, int thickness, int copies) {
        BindingPlanner x = new BindingPlanner();
        Planners.type(x, text);
        Checks.same(text, "0", Checks.answer(x::readBook));
        Checks.same(text, List.of(height, width, thickness, copies),
            List.of(x.block(0, 0), x.block(0, 1), x.block(0, 2), x.block(0, 3)));
        Checks.is(text + ": no fault", -1, x.faultPosition());
    }

    private static void hasFault(String text, int fault) {
        BindingPlanner x = new BindingPlanner();
        Planners.type(x, text);
        Checks.thrown(text, Refusals.ARGUMENT, x::readBook);
        Checks.is("fault of " + text, fault, x.faultPosition());
        Checks.is("books of " + text, 0, x.account(1));
    }

    private static void isOutOfRange(String text) {
        hasFault(text, -1);
    }

    @Sentence(in = "Texts", says = "A text of a block consists of three numbers with \"x\" between them: height, width "
        + "and thickness, each with 1 to 3 digits of which the first one is not 0")
    static void threeNumbersOf1To3Digits() {
        reads("80x60x5", 80, 60, 5, 1);
        reads("400x300x80", 400, 300, 80, 1);
        isOutOfRange("1x1x1");
        isOutOfRange("999x999x999");
        isOutOfRange("100x100x100");
        hasFault("x60x5", 0);
        hasFault("80xx5", 3);
        hasFault("80x60x", 6);
        hasFault("1000x60x5", 3);
        hasFault("80x1000x5", 6);
        hasFault("80x60x1000", 9);
        hasFault("080x60x5", 0);
        hasFault("80x060x5", 3);
        hasFault("80x60x05", 6);
        hasFault("80x60", 5);
        hasFault("80x60x5x1", 7);
    }

    @Sentence(in = "Texts", says = "and possibly \"*\" and the copies, with 1 or 2 digits of which the first one is not "
        + "0.")
    static void copiesOf1Or2Digits() {
        reads("80x60x5*1", 80, 60, 5, 1);
        reads("80x60x5*9", 80, 60, 5, 9);
        reads("80x60x5*10", 80, 60, 5, 10);
        reads("400x300x80*50", 400, 300, 80, 50);
        isOutOfRange("80x60x5*51");
        isOutOfRange("80x60x5*99");
        hasFault("80x60x5*", 8);
        hasFault("80x60x5*0", 8);
        hasFault("80x60x5*01", 8);
        hasFault("80x60x5*100", 10);
        hasFault("80x60x5*1*1", 9);
        hasFault("80x60*1", 5);
    }

    @Sentence(in = "Texts", says = "The fault position of a text is the index of its first character that cannot continue "
        + "such a text")
    static void faultAtEachCharacter() {
        String text = "100x100x100*10";
        for (int fault = 0; fault < text.length(); fault++) {
            hasFault(text.substring(0, fault) + "?", fault);
            hasFault(text.substring(0, fault) + "?" + text.substring(fault), fault);
        }
        hasFault(text + "?", 14);
        for (char sign : new char[] {0, ' ', '/', ':', 'X', 'y', '\n', 255, 256, 0x0660, 0xFF11, 0xFFFF}) {
            hasFault(sign + "0x60x5", 0);
            hasFault("8" + sign + "x60x5", 1);
            hasFault("80" + sign + "60x5", 2);
            hasFault("80x60x5" + sign, 7);
            hasFault("80x60x5*" + sign, 8);
            hasFault("80x60x5*5" + sign, 9);
        }
        hasFault("100x100x10" + "0".repeat(30), 11);
    }

    @Sentence(in = "Texts", says = "or the length of the text if it ends too early.")
    static void textThatEndsTooEarly() {
        String text = "100x100x100*10";
        for (int length : new int[] {0, 1, 2, 3, 4, 5, 6, 7, 8, 12}) {
            hasFault(text.substring(0, length), length);
        }
        for (int length : new int[] {9, 10, 11, 13, 14}) {
            boolean isThickEnough = length == 10;
            if (isThickEnough) {
                reads(text.substring(0, length), 100, 100, 10, 1);
            } else {
                isOutOfRange(text.substring(0, length));
            }
        }
    }

    @Sentence(in = "Texts", says = "or the length of the text if it ends too early.")
    static void shortTextAfterALongOne() {
        String text = "100x100x10*10";
        for (int length : new int[] {0, 1, 2, 3, 4, 5, 6, 7, 8, 11}) {
            BindingPlanner x = new BindingPlanner();
            Planners.type(x, text);
            Checks.is("the long one", 0, x.readBook());
            Planners.type(x, text.substring(0, length));
            Checks.thrown("ends too early", Refusals.ARGUMENT, x::readBook);
            Checks.is("fault at its end", length, x.faultPosition());
        }
        BindingPlanner x = new BindingPlanner();
        Planners.type(x, text);
        x.readBook();
        Planners.type(x, "100x100x10");
        Checks.is("without the copies of the long one", 1, x.readBook());
        Checks.is("one copy", 1, x.block(1, 3));
    }

    // Changes

    private static List<Consumer<BindingPlanner>> changes() {
        return List.of(x -> x.addBook(80, 60, 5), x -> x.setBlock(0, 0, 90), x -> x.set(4, 1500),
            x -> x.setSheet(0, 1200, 1200, 0), x -> x.buy(0, 999, 9999), x -> x.setPrice(2, 9999, 9999),
            x -> x.dropPrice(0, 5), x -> x.make(0), x -> x.pass(999), x -> {
                Planners.type(x, "80x60x5");
                x.readBook();
            });
    }

    private static BindingPlanner withoutChanges() {
        BindingPlanner x = Planners.withEnough();
        x.setPrice(0, 5, 80);
        x.save();
        x.restore();
        return x;
    }

    @Sentence(in = "Changes", says = "A change is a successful call of addBook, setBlock, set, setSheet, buy, setPrice, "
        + "dropPrice, make, pass or readBook.")
    static void eachChangeCanBeUndoneOnce() {
        for (int change = 0; change < 10; change++) {
            BindingPlanner x = withoutChanges();
            String before = Told.now(x);
            changes().get(change).accept(x);
            Checks.same("changed by " + change, false, before.equals(Told.now(x)));
            Checks.is("undone " + change, 0, x.undo());
            Checks.same("as before " + change, before, Told.now(x));
            Checks.thrown("nothing more", Refusals.STATE, x::undo);
        }
    }

    @Sentence(in = "Changes", says = "A change is a successful call of addBook, setBlock, set, setSheet, buy, setPrice, "
        + "dropPrice, make, pass or readBook.")
    static void refusedCallsAreNoChanges() {
        List<Consumer<BindingPlanner>> refused = List.of(x -> x.addBook(79, 60, 5), x -> x.setBlock(0, 0, 79),
            x -> x.set(4, 1501), x -> x.setSheet(0, 1201, 1200, 0), x -> x.buy(0, 1000, 9999),
            x -> x.setPrice(2, 10000, 9999), x -> x.dropPrice(0, 6), x -> x.make(1), x -> x.pass(1000), x -> {
                Planners.type(x, "79x60x5");
                x.readBook();
            });
        for (Consumer<BindingPlanner> call : refused) {
            BindingPlanner x = withoutChanges();
            Checks.same("refused", true, Checks.answer(() -> {
                call.accept(x);
                return "";
            }).endsWith("Exception"));
            Checks.thrown("no change is kept", Refusals.STATE, x::undo);
        }
    }

    @Sentence(in = "Changes", says = "A change is a successful call of addBook, setBlock, set, setSheet, buy, setPrice, "
        + "dropPrice, make, pass or readBook.")
    static void otherCallsAreNoChanges() {
        List<Consumer<BindingPlanner>> others = List.of(x -> x.block(0, 0), x -> x.setting(0), x -> x.piece(0, 0, true),
            x -> x.wouldRefuse(0), x -> x.sheet(0, 0), x -> x.perSheet(0, 0), x -> x.needed(0, 0),
            x -> x.boardShare(0), x -> x.tapes(0), x -> x.station(0, 0), x -> x.widestGap(0),
            x -> x.leastCloth(1), x -> x.fittedCloth(1), x -> x.strip(1, 0), x -> x.strips(1), x -> x.clothWaste(1),
            x -> x.stock(0), x -> x.lot(0, 0, true), x -> x.price(0, 5), x -> x.account(0), x -> x.append('1'),
            BindingPlanner::faultPosition, BindingPlanner::save, BindingPlanner::restore);
        for (Consumer<BindingPlanner> call : others) {
            BindingPlanner x = withoutChanges();
            call.accept(x);
            Checks.thrown("no change is kept", Refusals.STATE, x::undo);
        }
        BindingPlanner x = withoutChanges();
        x.pass(1);
        x.pass(1);
        Checks.is("undo is no change", 1, x.undo());
        Checks.is("undo is no change", 0, x.undo());
    }

    @Sentence(in = "Changes", says = "The planner before each of the latest 8 changes is kept and can be undone")
    static void eightChangesAreKeptAndNoMore() {
        for (int changes = 0; changes <= 17; changes++) {
            BindingPlanner x = new BindingPlanner();
            for (int change = 0; change < changes; change++) {
                x.pass(1);
            }
            int kept = Math.min(changes, 8);
            for (int undo = 1; undo <= kept; undo++) {
                Checks.is("left of " + changes, kept - undo, x.undo());
                Checks.is("day", changes - undo, x.account(0));
            }
            Checks.thrown("no more of " + changes, Refusals.STATE, x::undo);
            Checks.is("day after it", changes - kept, x.account(0));
        }
    }

    @Sentence(in = "Changes", says = "The planner before each of the latest 8 changes is kept and can be undone")
    static void changesAfterUndoComeInPlaceOfTheUndone() {
        BindingPlanner x = new BindingPlanner();
        for (int change = 0; change < 8; change++) {
            x.pass(1);
        }
        x.undo();
        x.undo();
        Checks.is("a new change", 6 + 100, x.pass(100));
        Checks.is("six before it", 6, x.undo());
        Checks.is("day before it", 6, x.account(0));
        for (int change = 0; change < 3; change++) {
            x.pass(10);
        }
        for (int left = 7; left >= 0; left--) {
            Checks.is("eight again", left, x.undo());
        }
        Checks.is("the ninth stays", 1, x.account(0));
    }

    @Sentence(in = "Changes", says = "restore forgets them.")
    static void restoreForgetsEightChanges() {
        BindingPlanner x = new BindingPlanner();
        x.save();
        for (int change = 0; change < 8; change++) {
            x.pass(1);
        }
        x.restore();
        Checks.thrown("none is kept", Refusals.STATE, x::undo);
        Checks.is("day 0", 0, x.account(0));
        x.pass(1);
        Checks.is("one after it", 0, x.undo());
        Checks.thrown("and none before it", Refusals.STATE, x::undo);
    }

    @Sentence(in = "Changes", says = "The text buffer, the fault position and the reason that is kept do not belong to "
        + "it.")
    static void textFaultAndReasonStayOverUndoAndRestore() {
        BindingPlanner x = Planners.withBook();
        x.save();
        x.pass(1);
        Planners.type(x, "80y");
        Checks.thrown("fault", Refusals.ARGUMENT, x::readBook);
        Checks.thrown("refused", Refusals.UNSUPPORTED, () -> x.make(0));
        Planners.type(x, "90x80");
        x.undo();
        Checks.is("fault position after undo", 2, x.faultPosition());
        Checks.is("reason after undo", 3, x.refusal());
        Planners.type(x, "x7");
        x.restore();
        Checks.is("fault position after restore", 2, x.faultPosition());
        Checks.is("reason after restore", 3, x.refusal());
        Planners.type(x, "*9");
        Checks.is("text after both", 1, x.readBook());
        Checks.is("its height", 90, x.block(1, 0));
        Checks.is("its copies", 9, x.block(1, 3));
        x.undo();
        Checks.thrown("undo of readBook leaves the buffer empty", Refusals.ARGUMENT, x::readBook);
        Checks.is("at its end", 0, x.faultPosition());
    }

    @Sentence(in = "Changes", says = "A successful call is a change even if it leaves all as it was.")
    static void callsThatLeaveAllAsItWasAreChanges() {
        List<Consumer<BindingPlanner>> calls = List.of(x -> x.setBlock(0, 0, 200), x -> x.setBlock(0, 3, 10),
            x -> x.set(0, 3), x -> x.set(4, 1000), x -> x.setSheet(0, 1000, 700, 1), x -> x.setSheet(1, 1000, 700, 1),
            x -> x.setPrice(0, 5, 80));
        for (Consumer<BindingPlanner> call : calls) {
            BindingPlanner x = withoutChanges();
            String before = Told.now(x);
            call.accept(x);
            Checks.same("all as it was", before, Told.now(x));
            Checks.is("a change", 0, x.undo());
            Checks.same("all as it was after undo", before, Told.now(x));
        }
    }

    // In doubt

    @Sentence(in = "In doubt", says = "A book that was made stays, and can be made again.")
    static void madeAgainUntilNothingIsLeft() {
        BindingPlanner x = Planners.withEnough();
        x.buy(0, 2, 1);
        x.buy(1, 2, 1);
        x.buy(2, 24, 1);
        x.make(0);
        Checks.is("stays", 1, x.account(1));
        Checks.is("keeps its copies", 10, x.block(0, 3));
        Checks.is("again", 28, x.make(0));
        Checks.is("copies made", 20, x.account(2));
        Checks.thrown("nothing is left", Refusals.UNSUPPORTED, () -> x.make(0));
        Checks.is("stays all the same", 1, x.account(1));
    }

    @Sentence(in = "In doubt", says = "The day matters for nothing but account and pass.")
    static void lastDayIsAsTheFirst() {
        BindingPlanner x = Planners.withEnough();
        x.setPrice(0, 9999, 3);
        x.setPrice(1, 0, 4);
        x.setPrice(2, 10, 5);
        int cost = x.cost(0, 9999);
        for (int times = 0; times < 11; times++) {
            x.pass(909);
        }
        Checks.is("last day", 9999, x.account(0));
        Checks.is("price", 3, x.price(0, 9999));
        Checks.thrown("price before it", Refusals.MISSING, () -> x.price(0, 9998));
        Checks.is("cost", cost, x.cost(0, 9999));
        Checks.thrown("cost before it", Refusals.MISSING, () -> x.cost(0, 9998));
        Checks.is("a price of the first day", 4, x.setPrice(0, 0, 7));
        Checks.is("holds on the first day", 7, x.price(0, 0));
        Checks.is("dropped", 7, x.dropPrice(0, 0));
        Checks.is("bought", 2, x.buy(0, 1, 1));
        Checks.is("made", 2 * 100 + 2 * 30 + 24 * 7, x.make(0));
    }

    @Sentence(in = "In doubt", says = "A material without a lot has no units.")
    static void noLotsNoUnits() {
        BindingPlanner x = Planners.withBook();
        for (int each = 0; each < 3; each++) {
            int material = each;
            Checks.is("no units", 0, x.stock(material));
            Checks.thrown("no lot", Refusals.MISSING, () -> x.lot(material, 0, false));
            Checks.is("not enough", 3 + material, x.wouldRefuse(0));
            x.buy(material, 999, 1);
            Checks.is("units", 999, x.stock(material));
        }
    }

    @Sentence(in = "In doubt", says = "Units and lots of a refused call of make stay.")
    static void refusedMakeLeavesUnitsAndLots() {
        BindingPlanner x = Planners.withEnough();
        x.make(0);
        x.undo();
        x.setBlock(0, 3, 11);
        x.buy(0, 9, 1);
        x.buy(1, 9, 1);
        String before = Told.now(x);
        Checks.thrown("two units of cloth too few", Refusals.UNSUPPORTED, () -> x.make(0));
        Checks.is("reason", 5, x.refusal());
        String due = before.replaceFirst("NoSuchElementException -1$", "5 -1");
        Checks.same("all else", due, Told.now(x));
        Checks.is("eight changes were kept", 7, x.undo());
    }

    @Sentence(in = "In doubt", says = "A price from a later day on never counts for an earlier day.")
    static void priceOfTheNextDayDoesNotCount() {
        BindingPlanner x = Planners.withBook();
        x.setPrice(0, 1, 5);
        x.setPrice(1, 0, 5);
        x.setPrice(2, 0, 5);
        Checks.thrown("price a day too early", Refusals.MISSING, () -> x.price(0, 0));
        Checks.thrown("cost a day too early", Refusals.MISSING, () -> x.cost(0, 0));
        Checks.is("price on the day", 5, x.price(0, 1));
        Checks.is("cost on the day", (2 + 1 + 3) * 5, x.cost(0, 1));
        x.setPrice(1, 2, 9999);
        Checks.is("cost on the day before a dearer price", (2 + 1 + 3) * 5, x.cost(0, 1));
        Checks.thrown("the least int", Refusals.MISSING, () -> x.price(1, Refusals.LEAST));
    }

    // Exceptions

    @Sentence(in = "Exceptions", says = "A call that throws an exception leaves the state unchanged, unless stated "
        + "otherwise.")
    static void refusedCallsLeaveABusyPlanner() {
        Refusals.leaves(Refusals.ARGUMENT, Planners::busy, x -> x.addBook(401, 100, 10));
        Refusals.leaves(Refusals.INDEX, Planners::busy, x -> x.setBlock(2, 0, 100));
        Refusals.leaves(Refusals.ARGUMENT, Planners::busy, x -> x.setBlock(0, 3, 51));
        Refusals.leaves(Refusals.INDEX, Planners::busy, x -> x.set(5, 3));
        Refusals.leaves(Refusals.ARGUMENT, Planners::busy, x -> x.set(0, 7));
        Refusals.leaves(Refusals.INDEX, Planners::busy, x -> x.setSheet(2, 500, 500, 0));
        Refusals.leaves(Refusals.ARGUMENT, Planners::busy, x -> x.setSheet(0, 500, 500, 3));
        Refusals.leaves(Refusals.INDEX, Planners::busy, x -> x.buy(3, 1, 1));
        Refusals.leaves(Refusals.ARGUMENT, Planners::busy, x -> x.buy(0, 1, 10000));
        Refusals.leaves(Refusals.INDEX, Planners::busy, x -> x.setPrice(3, 0, 1));
        Refusals.leaves(Refusals.ARGUMENT, Planners::busy, x -> x.setPrice(0, 0, 10000));
        Refusals.leaves(Refusals.INDEX, Planners::busy, x -> x.dropPrice(3, 5));
        Refusals.leaves(Refusals.MISSING, Planners::busy, x -> x.dropPrice(0, 6));
        Refusals.leaves(Refusals.INDEX, Planners::busy, x -> x.make(2));
        Refusals.leaves(Refusals.ARGUMENT, Planners::busy, x -> x.pass(1000));
        Refusals.leaves(Refusals.STATE, BindingPlanner::new, BindingPlanner::undo);
        Refusals.leaves(Refusals.STATE, Planners::withEnough, BindingPlanner::restore);
    }

    @Sentence(in = "Exceptions", says = "A call that throws an exception leaves the state unchanged, unless stated "
        + "otherwise.")
    static void refusedCallsLeaveAFullPlanner() {
        Refusals.leaves(Refusals.STATE, Planners::full, x -> x.addBook(80, 60, 5));
        Refusals.leaves(Refusals.STATE, Planners::full, x -> x.buy(2, 1, 1));
        Refusals.leaves(Refusals.STATE, Planners::full, x -> x.setPrice(2, 0, 1));
        Refusals.leaves(Refusals.STATE, Planners::full, x -> x.pass(1));
        Refusals.leaves(Refusals.STATE, Planners::full, x -> x.append('x'));
        Refusals.leaves(Refusals.STATE, Planners::full, BindingPlanner::restore);
    }

    @Sentence(in = "Exceptions", says = "unless stated otherwise.")
    static void statedOtherwiseForMakeAndReadBook() {
        BindingPlanner x = Planners.busy();
        Checks.is("fault before", 2, x.faultPosition());
        Checks.is("reason before", 3, x.refusal());
        Checks.thrown("out of range", Refusals.ARGUMENT, () -> {
            x.append('x');
            x.readBook();
        });
        Checks.is("fault of 90x80x7x", 7, x.faultPosition());
        Checks.thrown("buffer is empty", Refusals.ARGUMENT, x::readBook);
        Checks.is("fault of nothing", 0, x.faultPosition());
        x.set(4, 300);
        Checks.thrown("refused", Refusals.UNSUPPORTED, () -> x.make(0));
        Checks.is("reason", 1, x.refusal());
    }

    @Sentence(in = "Exceptions", says = "If several conditions of a method are fulfilled, the one that is listed first "
        + "determines the exception.")
    static void firstExceptionOfBooksAndSheets() {
        BindingPlanner x = Planners.withTenBooks();
        Checks.thrown("addBook: range, 10 kept", Refusals.ARGUMENT, () -> x.addBook(80, 60, 4));
        Checks.thrown("setBlock: book, what", Refusals.INDEX, () -> x.setBlock(10, 4, 100));
        Checks.thrown("setBlock: book, value", Refusals.INDEX, () -> x.setBlock(-1, 0, 79));
        Checks.thrown("block: book, what", Refusals.INDEX, () -> x.block(10, 4));
        Checks.thrown("set: setting, value", Refusals.INDEX, () -> x.set(5, Refusals.MOST));
        Checks.thrown("setSheet: material, range", Refusals.INDEX, () -> x.setSheet(2, 99, 1201, 3));
        Checks.thrown("sheet: material, what", Refusals.INDEX, () -> x.sheet(-1, 3));
        Checks.thrown("perSheet: book, piece 3", Refusals.INDEX, () -> x.perSheet(10, 3));
        Checks.thrown("station: book, station", Refusals.INDEX, () -> x.station(10, -1));
        x.setSheet(0, 100, 100, 1);
        x.setSheet(1, 100, 100, 1);
        x.set(4, 300);
        Checks.thrown("needed: material, impossible", Refusals.INDEX, () -> x.needed(0, 3));
        Checks.thrown("needed: book, impossible", Refusals.INDEX, () -> x.needed(10, 2));
        Checks.thrown("boardShare: book, yield", Refusals.INDEX, () -> x.boardShare(10));
    }

    @Sentence(in = "Exceptions", says = "If several conditions of a method are fulfilled, the one that is listed first "
        + "determines the exception.")
    static void firstExceptionOfSets() {
        BindingPlanner x = Planners.withCloths();
        x.set(4, 699);
        Checks.thrown("leastCloth: book, too broad", Refusals.ARGUMENT, () -> x.leastCloth(24));
        Checks.thrown("fittedCloth: book, too broad", Refusals.ARGUMENT, () -> x.fittedCloth(24));
        Checks.thrown("strips: book, too broad", Refusals.ARGUMENT, () -> x.strips(24));
        Checks.thrown("clothWaste: book, too broad", Refusals.ARGUMENT, () -> x.clothWaste(24));
        Checks.thrown("strip: book, too broad, not in the set", Refusals.ARGUMENT, () -> x.strip(24, 0));
        Checks.thrown("strip: book, not in the set", Refusals.ARGUMENT, () -> x.strip(16, 0));
        Checks.thrown("strip: too broad, not in the set", Refusals.UNSUPPORTED, () -> x.strip(8, 0));
        Checks.thrown("strip: too broad, no book", Refusals.UNSUPPORTED, () -> x.strip(8, 31));
    }

    @Sentence(in = "Exceptions", says = "If several conditions of a method are fulfilled, the one that is listed first "
        + "determines the exception.")
    static void firstExceptionOfLotsPricesAndTexts() {
        BindingPlanner x = Planners.full();
        Checks.thrown("buy: material, range, 30 kept", Refusals.INDEX, () -> x.buy(3, 0, 0));
        Checks.thrown("buy: material, 30 kept", Refusals.INDEX, () -> x.buy(-1, 1, 1));
        Checks.thrown("buy: range, 30 kept", Refusals.ARGUMENT, () -> x.buy(0, 1000, 1));
        Checks.thrown("lot: material, lot", Refusals.INDEX, () -> x.lot(3, 30, true));
        Checks.thrown("setPrice: material, range, 20 kept", Refusals.INDEX, () -> x.setPrice(3, -1, 0));
        Checks.thrown("setPrice: material, 20 kept", Refusals.INDEX, () -> x.setPrice(-1, 0, 1));
        Checks.thrown("setPrice: day, 20 kept", Refusals.ARGUMENT, () -> x.setPrice(0, 10000, 1));
        Checks.thrown("setPrice: price, 20 kept", Refusals.ARGUMENT, () -> x.setPrice(0, 0, 0));
        Checks.thrown("dropPrice: material, price", Refusals.INDEX, () -> x.dropPrice(3, 0));
        Checks.thrown("price: material, price", Refusals.INDEX, () -> x.price(3, -1));
        Checks.thrown("cost: book, price", Refusals.INDEX, () -> x.cost(10, -1));
        Checks.thrown("pass: range, last day", Refusals.ARGUMENT, () -> x.pass(1000));
        x.set(4, 300);
        Checks.thrown("cost: too broad, price", Refusals.UNSUPPORTED, () -> x.cost(0, -1));
        Checks.thrown("cost: book, too broad", Refusals.INDEX, () -> x.cost(10, 100));
        Checks.thrown("make: book, refused", Refusals.INDEX, () -> x.make(10));
        Checks.thrown("readBook: fault, 10 kept", Refusals.ARGUMENT, x::readBook);
        Planners.type(x, "80x60x4");
        Checks.thrown("readBook: range, 10 kept", Refusals.ARGUMENT, x::readBook);
    }

    // In doubt, too

    @Sentence(in = "In doubt, too", says = "Pieces are compared before and after a change, so that nothing that stays "
        + "the same counts.")
    static void nothingThatStaysTheSameCounts() {
        BindingPlanner x = Planners.withBook();
        Checks.is("the same square", 0, x.set(0, 3));
        Checks.is("the same height", 0, x.setBlock(0, 0, 200));
        Checks.is("the joint leaves the cloth and the spine strip", 2, x.set(1, 9));
        Checks.is("the roll leaves all", 0, x.set(4, 300));
        Checks.is("copies leave all", 0, x.setBlock(0, 3, 50));
        Checks.is("the square leaves the endpaper", 4, x.set(0, 4));
        Checks.is("the thickness leaves the boards", 12, x.setBlock(0, 2, 21));
        Checks.is("the width leaves the spine strip", 27, x.setBlock(0, 1, 141));
        Checks.is("the height leaves none", 31, x.setBlock(0, 0, 201));
    }

    @Sentence(in = "In doubt, too", says = "The cloths of a set are one for each book, whatever the copies.")
    static void mostCopiesAreOneClothOfASet() {
        BindingPlanner x = Planners.withCloths();
        double waste = x.clothWaste(15);
        for (int book = 0; book < 4; book++) {
            x.setBlock(book, 3, 50);
        }
        Checks.is("least length", 862, x.leastCloth(15));
        Checks.is("fitted length", 988, x.fittedCloth(15));
        Checks.is("strips", 3, x.strips(15));
        Checks.is("strip", 2, x.strip(15, 3));
        Checks.isDouble("waste", waste, x.clothWaste(15));
    }

    @Sentence(in = "In doubt, too", says = "The sheets that boardShare counts are those for boards alone.")
    static void sheetsForSpineStripsDoNotCount() {
        BindingPlanner x = Planners.withBook();
        x.setSheet(0, 206, 270, 1);
        Checks.is("a sheet for the boards and one for the spine strip", 2, x.needed(0, 0));
        Checks.isDouble("of the first one nothing is left", 1.0, x.boardShare(0));
    }

    @Sentence(in = "In doubt, too", says = "The cost of all that was made is the sum of what make answered, and all lots "
        + "that were bought count as paid.")
    static void lotsThatWentCountAsPaid() {
        BindingPlanner x = Planners.withEnough();
        Checks.is("nothing made", 0, x.account(3));
        int made = x.make(0);
        Checks.is("no lot is kept", 0, x.account(6));
        Checks.is("paid all the same", 2 * 100 + 2 * 30 + 24 * 7, x.account(4));
        Checks.is("made", made, x.account(3));
        Checks.is("worth of no lots", 0, x.account(5));
        x.buy(0, 2, 3);
        x.buy(1, 2, 3);
        x.buy(2, 25, 3);
        made += x.make(0);
        Checks.is("made twice", made, x.account(3));
        Checks.is("worth of the unit that is left", 3, x.account(5));
        BindingPlanner full = Planners.full();
        Checks.is("most lots paid", 30L * 999 * 9999, full.account(4));
        Checks.is("worth of most lots", 30L * 999 * 9999, full.account(5));
    }

    @Sentence(in = "In doubt, too", says = "Undoing brings all accounts back, and a snapshot holds them.")
    static void undoAndRestoreBringAccountsBack() {
        BindingPlanner x = Planners.withEnough();
        x.setPrice(0, 0, 1);
        x.pass(5);
        String before = accounts(x);
        x.save();
        x.make(0);
        Checks.is("undone", 7, x.undo());
        Checks.same("accounts after undo", before, accounts(x));
        for (Consumer<BindingPlanner> change : List.<Consumer<BindingPlanner>>of(y -> y.make(0), y -> y.buy(0, 999, 9),
                y -> y.addBook(80, 60, 5), y -> y.pass(9), y -> y.dropPrice(0, 0))) {
            change.accept(x);
            Checks.same("accounts changed", false, before.equals(accounts(x)));
        }
        String after = accounts(x);
        for (int change = 0; change < 5; change++) {
            x.undo();
        }
        Checks.same("accounts after five undos", before, accounts(x));
        x.make(0);
        Checks.same("accounts differ", false, before.equals(accounts(x)) || after.equals(accounts(x)));
        x.restore();
        Checks.same("accounts after restore", before, accounts(x));
    }

    private static String accounts(BindingPlanner x) {
        StringBuilder told = new StringBuilder();
        for (int what = 0; what <= 10; what++) {
            told.append(x.account(what)).append(' ');
        }
        return told.toString();
    }
}
