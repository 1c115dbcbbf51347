/** Each sentence of the promises 9 to 16 (grain, stations) that names a boundary case. */
public final class Promises9To16Test {
    public static void main(String[] args) {
        Sentences.ofPromises(Promises9To16Test.class, 9, 16, "Grain, stations.", "Sets the sheets of a material.",
            "Returns the number.", "Returns the yield of a sheet for a piece that is cut from sheets.",
            "Returns the units of a material that all copies of a book need.",
            "Returns the share of its sheets that the boards of a book use.", "Returns where a station of a block is.",
            "Returns the distance.");
    }

    // Promise 9: setSheet

    @Sentence(in = "Promise 9", says = "- `material`: 0 or 1")
    static void setSheetOfBothMaterials() {
        for (int material = 0; material <= 1; material++) {
            BindingPlanner x = new BindingPlanner();
            x.setSheet(material, 100, 1200, 2);
            Checks.is("length", 100, x.sheet(material, 0));
            Checks.is("breadth", 1200, x.sheet(material, 1));
            Checks.is("grain", 2, x.sheet(material, 2));
            Checks.is("length of the other one", 1000, x.sheet(1 - material, 0));
            Checks.is("breadth of the other one", 700, x.sheet(1 - material, 1));
            Checks.is("grain of the other one", 1, x.sheet(1 - material, 2));
        }
    }

    @Sentence(in = "Promise 9", says = "- `grain`: the grain, 0 to 2")
    static void setSheetOfEachGrain() {
        BindingPlanner x = new BindingPlanner();
        for (int grain = 0; grain <= 2; grain++) {
            x.setSheet(1, 1200, 100, grain);
            Checks.is("grain", grain, x.sheet(1, 2));
        }
        Checks.thrown("grain 3", Refusals.ARGUMENT, () -> x.setSheet(1, 1200, 100, 3));
        Checks.thrown("grain -1", Refusals.ARGUMENT, () -> x.setSheet(1, 1200, 100, -1));
        Checks.is("grain stays", 2, x.sheet(1, 2));
    }

    @Sentence(in = "Promise 9", says = "Returns the previous grain.")
    static void previousGrain() {
        for (int material = 0; material <= 1; material++) {
            BindingPlanner x = new BindingPlanner();
            Checks.is("at first", 1, x.setSheet(material, 500, 500, 0));
            Checks.is("none", 0, x.setSheet(material, 500, 500, 2));
            Checks.is("along the breadth", 2, x.setSheet(material, 500, 500, 2));
            Checks.is("the same again", 2, x.setSheet(material, 500, 500, 1));
            x.undo();
            Checks.is("after undo", 2, x.setSheet(material, 500, 500, 1));
        }
    }

    @Sentence(in = "Promise 9", says = "Throws `IndexOutOfBoundsException` if material is neither 0 nor 1")
    static void setSheetOfNoSuchMaterial() {
        Refusals.leaves(Refusals.INDEX, Planners::busy, x -> x.setSheet(2, 500, 500, 0), x -> x.setSheet(-1, 500, 500, 0),
            x -> x.setSheet(3, 500, 500, 0), x -> x.setSheet(Refusals.LEAST, 500, 500, 0),
            x -> x.setSheet(Refusals.MOST, 500, 500, 0));
    }

    @Sentence(in = "Promise 9", says = "Throws `IllegalArgumentException` if a number is out of range")
    static void setSheetOutOfRange() {
        for (int each = 0; each <= 1; each++) {
            int material = each;
            Refusals.leaves(Refusals.ARGUMENT, Planners::busy, x -> x.setSheet(material, 99, 100, 0),
                x -> x.setSheet(material, 1201, 1200, 2), x -> x.setSheet(material, 100, 99, 0),
                x -> x.setSheet(material, 1200, 1201, 2), x -> x.setSheet(material, 100, 100, -1),
                x -> x.setSheet(material, 100, 100, 3), x -> x.setSheet(material, Refusals.LEAST, 100, 0),
                x -> x.setSheet(material, 100, Refusals.MOST, 0), x -> x.setSheet(material, 100, 100, Refusals.MOST));
            BindingPlanner x = new BindingPlanner();
            Checks.is("the least numbers", 1, x.setSheet(material, 100, 100, 0));
            Checks.is("the greatest numbers", 0, x.setSheet(material, 1200, 1200, 2));
        }
    }

    // Promise 10: sheet

    @Sentence(in = "Promise 10", says = "Returns a number of the sheets of a material.")
    static void leastAndGreatestSheets() {
        BindingPlanner x = new BindingPlanner();
        x.setSheet(0, 100, 1200, 0);
        x.setSheet(1, 1200, 100, 2);
        int[] due = {100, 1200, 0, 1200, 100, 2};
        for (int number = 0; number < 6; number++) {
            Checks.is("number " + number, due[number], x.sheet(number / 3, number % 3));
        }
    }

    @Sentence(in = "Promise 10", says = "- `material`: 0 or 1")
    static void sheetOfBothMaterials() {
        BindingPlanner x = new BindingPlanner();
        x.setSheet(1, 300, 200, 0);
        Checks.is("board", 1000, x.sheet(0, 0));
        Checks.is("paper", 300, x.sheet(1, 0));
    }

    @Sentence(in = "Promise 10", says = "- `what`: 0 for the length, 1 for the breadth, 2 for the grain")
    static void sheetOfEachNumber() {
        BindingPlanner x = new BindingPlanner();
        Checks.is("length", 1000, x.sheet(0, 0));
        Checks.is("breadth", 700, x.sheet(0, 1));
        Checks.is("grain", 1, x.sheet(0, 2));
    }

    @Sentence(in = "Promise 10", says = "Throws `IndexOutOfBoundsException` if material is neither 0 nor 1")
    static void sheetOfNoSuchMaterial() {
        Refusals.leaves(Refusals.INDEX, Planners::busy, x -> x.sheet(2, 0), x -> x.sheet(-1, 0),
            x -> x.sheet(Refusals.LEAST, 0), x -> x.sheet(Refusals.MOST, 0));
    }

    @Sentence(in = "Promise 10", says = "Throws `IllegalArgumentException` if what is not from 0 to 2")
    static void sheetOfNoSuchNumber() {
        Refusals.leaves(Refusals.ARGUMENT, Planners::busy, x -> x.sheet(0, 3), x -> x.sheet(1, -1), x -> x.sheet(1, 3),
            x -> x.sheet(0, Refusals.LEAST), x -> x.sheet(0, Refusals.MOST));
    }

    // Promise 11: perSheet

    @Sentence(in = "Promise 11", says = "- `piece`: the piece, 0, 1, 2 or 4")
    static void perSheetOfEachPiece() {
        BindingPlanner x = Planners.withBook();
        Checks.is("front board", 20, x.perSheet(0, 0));
        Checks.is("back board", 20, x.perSheet(0, 1));
        Checks.is("spine strip", 116, x.perSheet(0, 2));
        Checks.is("endpaper", 10, x.perSheet(0, 4));
    }

    @Sentence(in = "Promise 11", says = "Returns the yield.")
    static void yieldsFrom0On() {
        BindingPlanner x = Planners.withBook();
        x.setSheet(0, 100, 100, 0);
        x.setSheet(1, 199, 1200, 1);
        for (int piece : new int[] {0, 1, 2, 4}) {
            Checks.is("none of piece " + piece, 0, x.perSheet(0, piece));
        }
        x.setSheet(0, 206, 135, 1);
        x.setSheet(1, 200, 280, 1);
        for (int piece : new int[] {0, 1, 4}) {
            Checks.is("just one of piece " + piece, 1, x.perSheet(0, piece));
        }
        BindingPlanner y = new BindingPlanner();
        y.set(0, 0);
        y.set(3, 1);
        y.addBook(80, 60, 5);
        y.setSheet(0, 1200, 1200, 0);
        Checks.is("most spine strips, 80 x 7", 15 * 171, y.perSheet(0, 2));
    }

    @Sentence(in = "Promise 11", says = "Throws `IndexOutOfBoundsException` if there is no such book or piece")
    static void perSheetOfNoSuchBookOrPiece() {
        Refusals.leaves(Refusals.INDEX, BindingPlanner::new, x -> x.perSheet(0, 0), x -> x.perSheet(0, 3));
        Refusals.leaves(Refusals.INDEX, Planners::busy, x -> x.perSheet(2, 0), x -> x.perSheet(-1, 0),
            x -> x.perSheet(2, 3), x -> x.perSheet(0, 5), x -> x.perSheet(0, -1), x -> x.perSheet(Refusals.MOST, 0),
            x -> x.perSheet(0, Refusals.LEAST));
        Refusals.leaves(Refusals.INDEX, Planners::withTenBooks, x -> x.perSheet(10, 0));
        Checks.is("the last of ten", 10, Planners.withTenBooks().perSheet(9, 4));
    }

    @Sentence(in = "Promise 11", says = "Throws `UnsupportedOperationException` if it is piece 3")
    static void perSheetOfCloth() {
        Refusals.leaves(Refusals.UNSUPPORTED, Planners::busy, x -> x.perSheet(0, 3), x -> x.perSheet(1, 3));
    }

    // Promise 12: needed

    @Sentence(in = "Promise 12", says = "- `material`: the material, 0 to 2")
    static void neededOfEachMaterial() {
        BindingPlanner x = Planners.withBook();
        x.setBlock(0, 3, 11);
        Checks.is("board: 22 of 20, 11 of 116", 2 + 1, x.needed(0, 0));
        Checks.is("paper: 22 of 10", 3, x.needed(0, 1));
        Checks.is("cloth: 2596 of 100", 26, x.needed(0, 2));
    }

    @Sentence(in = "Promise 12", says = "Returns the units.")
    static void leastAndMostUnits() {
        BindingPlanner x = new BindingPlanner();
        x.set(2, 8);
        x.set(0, 0);
        x.addBook(80, 60, 5);
        Checks.is("least board", 2, x.needed(0, 0));
        Checks.is("least paper", 1, x.needed(0, 1));
        Checks.is("least cloth, 96 millimetres", 1, x.needed(0, 2));
        x.setBlock(0, 0, 85);
        Checks.is("101 millimetres of cloth", 2, x.needed(0, 2));
        x.setBlock(0, 0, 84);
        Checks.is("100 millimetres of cloth", 1, x.needed(0, 2));
        x.set(0, 6);
        x.set(1, 4);
        x.set(2, 25);
        x.set(3, 4);
        x.addBook(400, 300, 80);
        x.setBlock(1, 3, 50);
        x.setSheet(0, 412, 302, 1);
        x.setSheet(1, 400, 600, 1);
        Checks.is("most board", 100 + 17, x.needed(1, 0));
        Checks.is("most paper", 100, x.needed(1, 1));
        Checks.is("most cloth", 231, x.needed(1, 2));
    }

    @Sentence(in = "Promise 12", says = "Throws `IndexOutOfBoundsException` if there is no such book or material")
    static void neededOfNoSuchBookOrMaterial() {
        Refusals.leaves(Refusals.INDEX, BindingPlanner::new, x -> x.needed(0, 0), x -> x.needed(0, 2));
        Refusals.leaves(Refusals.INDEX, Planners::busy, x -> x.needed(2, 0), x -> x.needed(-1, 0), x -> x.needed(0, 3),
            x -> x.needed(0, -1), x -> x.needed(Refusals.MOST, 0), x -> x.needed(0, Refusals.LEAST));
        Refusals.leaves(Refusals.INDEX, Planners::withTenBooks, x -> x.needed(10, 0));
        Checks.is("the last of ten", 3, Planners.withTenBooks().needed(9, 2));
    }

    @Sentence(in = "Promise 12", says = "Throws `NoSuchElementException` if a yield is 0 for a piece of this material")
    static void neededWithAYieldOf0() {
        Refusals.leaves(Refusals.MISSING, () -> withSheets(205, 135, 200, 280), x -> x.needed(0, 0));
        Refusals.leaves(Refusals.MISSING, () -> withSheets(206, 134, 200, 280), x -> x.needed(0, 0));
        Refusals.leaves(Refusals.MISSING, () -> withSheets(206, 135, 199, 280), x -> x.needed(0, 1));
        Refusals.leaves(Refusals.MISSING, () -> withSheets(206, 135, 200, 279), x -> x.needed(0, 1));
        BindingPlanner x = withSheets(206, 135, 199, 280);
        Checks.is("board where paper is too small", 3, x.needed(0, 0));
        Checks.is("cloth where paper is too small", 3, x.needed(0, 2));
        BindingPlanner y = withSheets(205, 135, 200, 280);
        Checks.is("paper where board is too small", 2, y.needed(0, 1));
        Checks.is("cloth where board is too small", 3, y.needed(0, 2));
    }

    private static BindingPlanner withSheets(int boardLength, int boardBreadth, int paperLength, int paperBreadth) {
        BindingPlanner x = Planners.withBook();
        x.setSheet(0, boardLength, boardBreadth, 1);
        x.setSheet(1, paperLength, paperBreadth, 1);
        return x;
    }

    @Sentence(in = "Promise 12", says = "or it is cloth and the cloth is too broad")
    static void neededWithAClothThatIsTooBroad() {
        Refusals.leaves(Refusals.MISSING, () -> {
            BindingPlanner x = Planners.busy();
            x.set(4, 339);
            return x;
        }, x -> x.needed(0, 2));
        BindingPlanner x = Planners.withBook();
        x.set(4, 339);
        Checks.is("board all the same", 2, x.needed(0, 0));
        Checks.is("paper all the same", 1, x.needed(0, 1));
        x.set(4, 340);
        Checks.is("just broad enough", 3, x.needed(0, 2));
    }

    // Promise 13: boardShare

    @Sentence(in = "Promise 13", says = "Returns the areas of all boards of all copies together, without the spine "
        + "strips, divided by that of the sheets needed for them, both as doubles.")
    static void shareOfFullAndOfEmptySheets() {
        BindingPlanner x = Planners.withBook();
        x.setSheet(0, 206, 135, 1);
        Checks.isDouble("nothing is left of one board a sheet", 1.0, x.boardShare(0));
        x.setBlock(0, 3, 50);
        Checks.isDouble("nor of 50 copies", 1.0, x.boardShare(0));
        x.setSheet(0, 412, 270, 1);
        Checks.isDouble("nor of four boards a sheet", 1.0, x.boardShare(0));
        x.setBlock(0, 3, 1);
        Checks.isDouble("half of a sheet", 0.5, x.boardShare(0));
        x.setBlock(0, 3, 3);
        Checks.isDouble("three quarters of two sheets", 0.75, x.boardShare(0));
        BindingPlanner y = new BindingPlanner();
        y.set(0, 0);
        y.set(1, 12);
        y.addBook(80, 60, 5);
        y.setSheet(0, 1200, 1200, 0);
        Checks.isDouble("the least boards of the greatest sheet", 2 * 80 * 48 / 1440000.0, y.boardShare(0));
        BindingPlanner z = new BindingPlanner();
        z.set(0, 6);
        z.set(1, 4);
        z.addBook(400, 300, 80);
        z.setBlock(0, 3, 50);
        z.setSheet(0, 823, 1200, 1);
        Checks.isDouble("the greatest boards of large sheets", 100 * 412 * 302 / (823.0 * 1200 * 34), z.boardShare(0));
    }

    @Sentence(in = "Promise 13", says = "Throws `IndexOutOfBoundsException` if there is no such book")
    static void boardShareWithoutSuchABook() {
        Refusals.leaves(Refusals.INDEX, BindingPlanner::new, x -> x.boardShare(0));
        Refusals.leaves(Refusals.INDEX, Planners::busy, x -> x.boardShare(2), x -> x.boardShare(-1),
            x -> x.boardShare(Refusals.LEAST), x -> x.boardShare(Refusals.MOST));
        Refusals.leaves(Refusals.INDEX, Planners::withTenBooks, x -> x.boardShare(10));
        Checks.isDouble("the last of ten", 55620.0 / 700000.0, Planners.withTenBooks().boardShare(9));
    }

    @Sentence(in = "Promise 13", says = "Throws `ArithmeticException` if the yield is 0")
    static void boardShareWithAYieldOf0() {
        Refusals.leaves(Refusals.ARITHMETIC, () -> withSheets(205, 135, 200, 280), x -> x.boardShare(0));
        Refusals.leaves(Refusals.ARITHMETIC, () -> withSheets(206, 134, 200, 280), x -> x.boardShare(0));
        BindingPlanner x = withSheets(206, 135, 100, 100);
        Checks.isDouble("the yield of paper is nothing to it", 1.0, x.boardShare(0));
    }

    // Promise 14: tapes

    private static BindingPlanner withHeight(int height) {
        BindingPlanner x = new BindingPlanner();
        x.addBook(height, 60, 5);
        return x;
    }

    @Sentence(in = "Promise 14", says = "Returns the number of tapes of a block.")
    static void tapesFrom2To7() {
        Checks.is("least height", 2, withHeight(80).tapes(0));
        Checks.is("a millimetre too low for 3", 2, withHeight(139).tapes(0));
        Checks.is("just 3", 3, withHeight(140).tapes(0));
        Checks.is("a millimetre too low for 7", 6, withHeight(379).tapes(0));
        Checks.is("just 7", 7, withHeight(380).tapes(0));
        Checks.is("greatest height", 7, withHeight(400).tapes(0));
    }

    @Sentence(in = "Promise 14", says = "Throws `IndexOutOfBoundsException` if there is no such book")
    static void tapesWithoutSuchABook() {
        Refusals.leaves(Refusals.INDEX, BindingPlanner::new, x -> x.tapes(0));
        Refusals.leaves(Refusals.INDEX, Planners::busy, x -> x.tapes(2), x -> x.tapes(-1), x -> x.tapes(Refusals.LEAST),
            x -> x.tapes(Refusals.MOST));
        Refusals.leaves(Refusals.INDEX, Planners::withTenBooks, x -> x.tapes(10));
        Checks.is("the last of ten", 4, Planners.withTenBooks().tapes(9));
    }

    // Promise 15: station

    @Sentence(in = "Promise 15", says = "- `station`: the station, from 0")
    static void stationsFrom0To8() {
        BindingPlanner x = withHeight(400);
        for (int station = 0; station <= 8; station++) {
            Checks.is("station " + station, 12 + 47 * station, x.station(0, station));
        }
    }

    @Sentence(in = "Promise 15", says = "Returns the place in its height.")
    static void leastAndGreatestPlaces() {
        Checks.is("lower kettle stitch of the least height", 12, withHeight(80).station(0, 0));
        Checks.is("upper kettle stitch of the least height", 68, withHeight(80).station(0, 3));
        Checks.is("upper kettle stitch of the greatest height", 388, withHeight(400).station(0, 8));
        Checks.is("upper kettle stitch where places are rounded", 387, withHeight(399).station(0, 8));
        Checks.is("rounded down", 340, withHeight(399).station(0, 7));
    }

    @Sentence(in = "Promise 15", says = "Throws `IndexOutOfBoundsException` if there is no such book")
    static void stationWithoutSuchABook() {
        Refusals.leaves(Refusals.INDEX, BindingPlanner::new, x -> x.station(0, 0));
        Refusals.leaves(Refusals.INDEX, Planners::busy, x -> x.station(2, 0), x -> x.station(-1, 0),
            x -> x.station(Refusals.LEAST, 0), x -> x.station(Refusals.MOST, -1));
        Refusals.leaves(Refusals.INDEX, Planners::withTenBooks, x -> x.station(10, 0));
        Checks.is("the last of ten", 12, Planners.withTenBooks().station(9, 0));
    }

    @Sentence(in = "Promise 15", says = "Throws `NoSuchElementException` if there is no such station")
    static void stationThatDoesNotExist() {
        Refusals.leaves(Refusals.MISSING, () -> withHeight(139), x -> x.station(0, 4), x -> x.station(0, -1));
        Refusals.leaves(Refusals.MISSING, () -> withHeight(140), x -> x.station(0, 5), x -> x.station(0, Refusals.LEAST));
        Refusals.leaves(Refusals.MISSING, () -> withHeight(400), x -> x.station(0, 9), x -> x.station(0, Refusals.MOST));
        Checks.is("last of 139", 127, withHeight(139).station(0, 3));
        Checks.is("last of 140", 128, withHeight(140).station(0, 4));
    }

    // Promise 16: widestGap

    @Sentence(in = "Promise 16", says = "Returns the greatest distance between neighboring stations of a block.")
    static void gapsOfEqualAndOfUnequalStations() {
        Checks.is("18, 19 and 19", 19, withHeight(80).widestGap(0));
        Checks.is("19, 19 and 19", 19, withHeight(81).widestGap(0));
        Checks.is("19, 19 and 20", 20, withHeight(82).widestGap(0));
        Checks.is("38, 38 and 39", 39, withHeight(139).widestGap(0));
        Checks.is("four times 29", 29, withHeight(140).widestGap(0));
        Checks.is("46 and seven times 47", 47, withHeight(399).widestGap(0));
        Checks.is("eight times 47", 47, withHeight(400).widestGap(0));
    }

    @Sentence(in = "Promise 16", says = "Throws `IndexOutOfBoundsException` if there is no such book")
    static void widestGapWithoutSuchABook() {
        Refusals.leaves(Refusals.INDEX, BindingPlanner::new, x -> x.widestGap(0));
        Refusals.leaves(Refusals.INDEX, Planners::busy, x -> x.widestGap(2), x -> x.widestGap(-1),
            x -> x.widestGap(Refusals.LEAST), x -> x.widestGap(Refusals.MOST));
        Refusals.leaves(Refusals.INDEX, Planners::withTenBooks, x -> x.widestGap(10));
        Checks.is("the last of ten", 36, Planners.withTenBooks().widestGap(9));
    }
}
