/** Each sentence of the promises 9 to 16 (grain, stations). */
public final class Promises9To16Test {
    public static void main(String[] args) {
        Sentences.ofPromises(Promises9To16Test.class, 9, 16, "Grain, stations.");
    }

    // Promise 9: setSheet

    @Sentence(in = "Promise 9", says = "- `material`: 0 or 1")
    static void setSheetOfBothMaterials() {
        for (int material = 0; material <= 1; material++) {
            BindingPlanner x = new BindingPlanner();
            x.setSheet(material, 100, 1200, 2);
            Checks.is("length", 100, x.sheet(material, 0));
            Checks.is("breadth", 1200, x.sheet(material, 1));
            Checks.is("grain", 2, x.sheet(material, 2));
            Checks.is("length of the other one", 1000, x.sheet(1 - material, 0));
            Checks.is("breadth of the other one", 700, x.sheet(1 - material, 1));
            Checks.is("grain of the other one", 1, x.sheet(1 - material, 2));
        }
    }

    @Sentence(in = "Promise 9", says = "Sets the sheets of a material.")
    static void sheetsChangeTheYields() {
        BindingPlanner x = Planners.withBook();
        x.setSheet(0, 412, 405, 1);
        Checks.is("boards from a smaller sheet", 6, x.perSheet(0, 0));
        Checks.is("spine strips from it", 32, x.perSheet(0, 2));
        Checks.is("endpapers as before", 10, x.perSheet(0, 4));
        x.setSheet(1, 600, 560, 1);
        Checks.is("endpapers from a smaller sheet", 6, x.perSheet(0, 4));
        Checks.is("boards as before", 6, x.perSheet(0, 0));
        x.setSheet(0, 1200, 1200, 0);
        Checks.is("boards from the greatest sheet", 40, x.perSheet(0, 0));
        Checks.is("a book that comes later", 1, x.addBook(200, 140, 20));
        Checks.is("is cut from the same sheets", 40, x.perSheet(1, 0));
    }

    private static void isSheet(int length, int breadth, int grain) {
        for (int material = 0; material <= 1; material++) {
            BindingPlanner x = new BindingPlanner();
            x.setSheet(material, length, breadth, grain);
            Checks.is("length", length, x.sheet(material, 0));
            Checks.is("breadth", breadth, x.sheet(material, 1));
            Checks.is("grain", grain, x.sheet(material, 2));
        }
    }

    private static void isNoSheet(int length, int breadth, int grain) {
        for (int each = 0; each <= 1; each++) {
            int material = each;
            BindingPlanner x = new BindingPlanner();
            Checks.thrown(length + " x " + breadth, Refusals.ARGUMENT,
                () -> x.setSheet(material, length, breadth, grain));
            Checks.is("length stays", 1000, x.sheet(material, 0));
            Checks.is("breadth stays", 700, x.sheet(material, 1));
        }
    }

    @Sentence(in = "Promise 9", says = "- `length`: the length")
    static void setSheetOfEachLength() {
        for (int length = 100; length <= 1200; length++) {
            isSheet(length, 100, 0);
        }
        for (int length : new int[] {Refusals.LEAST, -100, 0, 2, 99, 1201, Refusals.MOST}) {
            isNoSheet(length, 100, 0);
        }
    }

    @Sentence(in = "Promise 9", says = "- `breadth`: the breadth")
    static void setSheetOfEachBreadth() {
        for (int breadth = 100; breadth <= 1200; breadth++) {
            isSheet(1200, breadth, 2);
        }
        for (int breadth : new int[] {Refusals.LEAST, -100, 0, 2, 99, 1201, Refusals.MOST}) {
            isNoSheet(1200, breadth, 2);
        }
    }

    @Sentence(in = "Promise 9", says = "- `grain`: the grain, 0 to 2")
    static void setSheetOfEachGrain() {
        BindingPlanner x = new BindingPlanner();
        for (int grain = 0; grain <= 2; grain++) {
            x.setSheet(1, 1200, 100, grain);
            Checks.is("grain", grain, x.sheet(1, 2));
        }
        Checks.thrown("grain 3", Refusals.ARGUMENT, () -> x.setSheet(1, 1200, 100, 3));
        Checks.thrown("grain -1", Refusals.ARGUMENT, () -> x.setSheet(1, 1200, 100, -1));
        Checks.is("grain stays", 2, x.sheet(1, 2));
    }

    @Sentence(in = "Promise 9", says = "Returns the previous grain.")
    static void previousGrain() {
        for (int material = 0; material <= 1; material++) {
            BindingPlanner x = new BindingPlanner();
            Checks.is("at first", 1, x.setSheet(material, 500, 500, 0));
            Checks.is("none", 0, x.setSheet(material, 500, 500, 2));
            Checks.is("along the breadth", 2, x.setSheet(material, 500, 500, 2));
            Checks.is("the same again", 2, x.setSheet(material, 500, 500, 1));
            x.undo();
            Checks.is("after undo", 2, x.setSheet(material, 500, 500, 1));
        }
    }

    @Sentence(in = "Promise 9", says = "Throws `IndexOutOfBoundsException` if material is neither 0 nor 1")
    static void setSheetOfNoSuchMaterial() {
        Refusals.leaves(Refusals.INDEX, Planners::busy, x -> x.setSheet(2, 500, 500, 0), x -> x.setSheet(-1, 500, 500, 0),
            x -> x.setSheet(3, 500, 500, 0), x -> x.setSheet(Refusals.LEAST, 500, 500, 0),
            x -> x.setSheet(Refusals.MOST, 500, 500, 0));
    }

    @Sentence(in = "Promise 9", says = "Throws `IllegalArgumentException` if a number is out of range")
    static void setSheetOutOfRange() {
        for (int each = 0; each <= 1; each++) {
            int material = each;
            Refusals.leaves(Refusals.ARGUMENT, Planners::busy, x -> x.setSheet(material, 99, 100, 0),
                x -> x.setSheet(material, 1201, 1200, 2), x -> x.setSheet(material, 100, 99, 0),
                x -> x.setSheet(material, 1200, 1201, 2), x -> x.setSheet(material, 100, 100, -1),
                x -> x.setSheet(material, 100, 100, 3), x -> x.setSheet(material, Refusals.LEAST, 100, 0),
                x -> x.setSheet(material, 100, Refusals.MOST, 0), x -> x.setSheet(material, 100, 100, Refusals.MOST));
            BindingPlanner x = new BindingPlanner();
            Checks.is("the least numbers", 1, x.setSheet(material, 100, 100, 0));
            Checks.is("the greatest numbers", 0, x.setSheet(material, 1200, 1200, 2));
        }
    }

    // Promise 10: sheet

    @Sentence(in = "Promise 10", says = "Returns a number of the sheets of a material.")
    static void leastAndGreatestSheets() {
        BindingPlanner x = new BindingPlanner();
        x.setSheet(0, 100, 1200, 0);
        x.setSheet(1, 1200, 100, 2);
        int[] due = {100, 1200, 0, 1200, 100, 2};
        for (int number = 0; number < 6; number++) {
            Checks.is("number " + number, due[number], x.sheet(number / 3, number % 3));
        }
    }

    @Sentence(in = "Promise 10", says = "- `material`: 0 or 1")
    static void sheetOfBothMaterials() {
        BindingPlanner x = new BindingPlanner();
        x.setSheet(1, 300, 200, 0);
        Checks.is("board", 1000, x.sheet(0, 0));
        Checks.is("paper", 300, x.sheet(1, 0));
    }

    @Sentence(in = "Promise 10", says = "- `what`: 0 for the length, 1 for the breadth, 2 for the grain")
    static void sheetOfEachNumber() {
        BindingPlanner x = new BindingPlanner();
        Checks.is("length", 1000, x.sheet(0, 0));
        Checks.is("breadth", 700, x.sheet(0, 1));
        Checks.is("grain", 1, x.sheet(0, 2));
    }

    @Sentence(in = "Promise 10", says = "Returns the number.")
    static void numberOfTheSheetsNow() {
        for (int material = 0; material <= 1; material++) {
            BindingPlanner x = new BindingPlanner();
            x.setSheet(material, 1200, 100, 0);
            x.setSheet(material, 100, 1200, 2);
            int[] due = {100, 1200, 2, 1200, 100, 0, 1000, 700, 1};
            for (int number = 0; number < 9; number++) {
                Checks.is("number " + number % 3 + " after undos: " + number / 3, due[number],
                    x.sheet(material, number % 3));
                if (number % 3 == 2 && number < 8) {
                    x.undo();
                }
            }
        }
    }

    @Sentence(in = "Promise 10", says = "Throws `IndexOutOfBoundsException` if material is neither 0 nor 1")
    static void sheetOfNoSuchMaterial() {
        Refusals.leaves(Refusals.INDEX, Planners::busy, x -> x.sheet(2, 0), x -> x.sheet(-1, 0),
            x -> x.sheet(Refusals.LEAST, 0), x -> x.sheet(Refusals.MOST, 0));
    }

    @Sentence(in = "Promise 10", says = "Throws `IllegalArgumentException` if what is not from 0 to 2")
    static void sheetOfNoSuchNumber() {
        Refusals.leaves(Refusals.ARGUMENT, Planners::busy, x -> x.sheet(0, 3), x -> x.sheet(1, -1), x -> x.sheet(1, 3),
            x -> x.sheet(0, Refusals.LEAST), x -> x.sheet(0, Refusals.MOST));
    }

    // Promise 11: perSheet

    @Sentence(in = "Promise 11", says = "Returns the yield of a sheet for a piece that is cut from sheets.")
    static void yieldOfTheSheetOfThePiece() {
        BindingPlanner x = Planners.withBook();
        x.setSheet(0, 500, 600, 0);
        x.setSheet(1, 600, 900, 2);
        Checks.is("front board: 2 x 4 or 2 x 3", 8, x.perSheet(0, 0));
        Checks.is("back board", 8, x.perSheet(0, 1));
        Checks.is("spine strip: 2 x 25 or 2 x 20", 50, x.perSheet(0, 2));
        Checks.is("endpaper: 4 x 2", 8, x.perSheet(0, 4));
        x.setBlock(0, 3, 50);
        Checks.is("whatever the copies", 8, x.perSheet(0, 4));
    }

    @Sentence(in = "Promise 11", says = "- `book`: the book")
    static void perSheetOfEachBookOfTen() {
        TenBooks.each("boards", (x, book) -> x.perSheet(book, 0), 90, 56, 36, 25, 16, 12, 9, 9, 6, 4);
        TenBooks.each("spine strips", (x, book) -> x.perSheet(book, 2), 630, 266, 156, 100, 64, 42, 36, 30, 18, 16);
        TenBooks.each("endpapers", (x, book) -> x.perSheet(book, 4), 50, 21, 18, 10, 8, 8, 3, 3, 2, 2);
    }

    @Sentence(in = "Promise 11", says = "- `piece`: the piece, 0, 1, 2 or 4")
    static void perSheetOfEachPiece() {
        BindingPlanner x = Planners.withBook();
        Checks.is("front board", 20, x.perSheet(0, 0));
        Checks.is("back board", 20, x.perSheet(0, 1));
        Checks.is("spine strip", 116, x.perSheet(0, 2));
        Checks.is("endpaper", 10, x.perSheet(0, 4));
    }

    @Sentence(in = "Promise 11", says = "Returns the yield.")
    static void yieldsFrom0On() {
        BindingPlanner x = Planners.withBook();
        x.setSheet(0, 100, 100, 0);
        x.setSheet(1, 199, 1200, 1);
        for (int piece : new int[] {0, 1, 2, 4}) {
            Checks.is("none of piece " + piece, 0, x.perSheet(0, piece));
        }
        x.setSheet(0, 206, 135, 1);
        x.setSheet(1, 200, 280, 1);
        for (int piece : new int[] {0, 1, 4}) {
            Checks.is("just one of piece " + piece, 1, x.perSheet(0, piece));
        }
        BindingPlanner y = new BindingPlanner();
        y.set(0, 0);
        y.set(3, 1);
        y.addBook(80, 60, 5);
        y.setSheet(0, 1200, 1200, 0);
        Checks.is("most spine strips, 80 x 7", 15 * 171, y.perSheet(0, 2));
    }

    @Sentence(in = "Promise 11", says = "Throws `IndexOutOfBoundsException` if there is no such book or piece")
    static void perSheetOfNoSuchBookOrPiece() {
        Refusals.leaves(Refusals.INDEX, BindingPlanner::new, x -> x.perSheet(0, 0), x -> x.perSheet(0, 3));
        Refusals.leaves(Refusals.INDEX, Planners::busy, x -> x.perSheet(2, 0), x -> x.perSheet(-1, 0),
            x -> x.perSheet(2, 3), x -> x.perSheet(0, 5), x -> x.perSheet(0, -1), x -> x.perSheet(Refusals.MOST, 0),
            x -> x.perSheet(0, Refusals.LEAST));
        Refusals.leaves(Refusals.INDEX, Planners::withTenBooks, x -> x.perSheet(10, 0));
        Checks.is("the last of ten", 10, Planners.withTenBooks().perSheet(9, 4));
    }

    @Sentence(in = "Promise 11", says = "Throws `UnsupportedOperationException` if it is piece 3")
    static void perSheetOfCloth() {
        Refusals.leaves(Refusals.UNSUPPORTED, Planners::busy, x -> x.perSheet(0, 3), x -> x.perSheet(1, 3));
    }

    // Promise 12: needed

    @Sentence(in = "Promise 12", says = "Returns the units of a material that all copies of a book need.")
    static void unitsOfAllCopies() {
        BindingPlanner x = Planners.withBook();
        int[][] due = {{1, 2, 1, 3}, {2, 2, 1, 5}, {5, 2, 1, 12}, {6, 2, 2, 15}, {10, 2, 2, 24}, {11, 3, 3, 26},
            {50, 6, 10, 118}};
        for (int[] d : due) {
            x.setBlock(0, 3, d[0]);
            for (int material = 0; material < 3; material++) {
                Checks.is("material " + material + " for " + d[0] + " copies", d[1 + material], x.needed(0, material));
            }
        }
        x.buy(0, 999, 1);
        Checks.is("whatever is there", 6, x.needed(0, 0));
    }

    @Sentence(in = "Promise 12", says = "- `book`: the book")
    static void neededOfEachBookOfTen() {
        TenBooks.each("board", (x, book) -> x.needed(book, 0), 2, 2, 2, 3, 4, 6, 8, 10, 17, 26);
        TenBooks.each("paper", (x, book) -> x.needed(book, 1), 1, 1, 2, 4, 6, 7, 21, 24, 41, 46);
        TenBooks.each("cloth", (x, book) -> x.needed(book, 2), 2, 10, 22, 37, 54, 75, 98, 125, 155, 187);
    }

    @Sentence(in = "Promise 12", says = "- `material`: the material, 0 to 2")
    static void neededOfEachMaterial() {
        BindingPlanner x = Planners.withBook();
        x.setBlock(0, 3, 11);
        Checks.is("board: 22 of 20, 11 of 116", 2 + 1, x.needed(0, 0));
        Checks.is("paper: 22 of 10", 3, x.needed(0, 1));
        Checks.is("cloth: 2596 of 100", 26, x.needed(0, 2));
    }

    @Sentence(in = "Promise 12", says = "Returns the units.")
    static void leastAndMostUnits() {
        BindingPlanner x = new BindingPlanner();
        x.set(2, 8);
        x.set(0, 0);
        x.addBook(80, 60, 5);
        Checks.is("least board", 2, x.needed(0, 0));
        Checks.is("least paper", 1, x.needed(0, 1));
        Checks.is("least cloth, 96 millimetres", 1, x.needed(0, 2));
        x.setBlock(0, 0, 85);
        Checks.is("101 millimetres of cloth", 2, x.needed(0, 2));
        x.setBlock(0, 0, 84);
        Checks.is("100 millimetres of cloth", 1, x.needed(0, 2));
        x.set(0, 6);
        x.set(1, 4);
        x.set(2, 25);
        x.set(3, 4);
        x.addBook(400, 300, 80);
        x.setBlock(1, 3, 50);
        x.setSheet(0, 412, 302, 1);
        x.setSheet(1, 400, 600, 1);
        Checks.is("most board", 100 + 17, x.needed(1, 0));
        Checks.is("most paper", 100, x.needed(1, 1));
        Checks.is("most cloth", 231, x.needed(1, 2));
    }

    @Sentence(in = "Promise 12", says = "Throws `IndexOutOfBoundsException` if there is no such book or material")
    static void neededOfNoSuchBookOrMaterial() {
        Refusals.leaves(Refusals.INDEX, BindingPlanner::new, x -> x.needed(0, 0), x -> x.needed(0, 2));
        Refusals.leaves(Refusals.INDEX, Planners::busy, x -> x.needed(2, 0), x -> x.needed(-1, 0), x -> x.needed(0, 3),
            x -> x.needed(0, -1), x -> x.needed(Refusals.MOST, 0), x -> x.needed(0, Refusals.LEAST));
        Refusals.leaves(Refusals.INDEX, Planners::withTenBooks, x -> x.needed(10, 0));
        Checks.is("the last of ten", 3, Planners.withTenBooks().needed(9, 2));
    }

    @Sentence(in = "Promise 12", says = "Throws `NoSuchElementException` if a yield is 0 for a piece of this material")
    static void neededWithAYieldOf0() {
        Refusals.leaves(Refusals.MISSING, () -> withSheets(205, 135, 200, 280), x -> x.needed(0, 0));
        Refusals.leaves(Refusals.MISSING, () -> withSheets(206, 134, 200, 280), x -> x.needed(0, 0));
        Refusals.leaves(Refusals.MISSING, () -> withSheets(206, 135, 199, 280), x -> x.needed(0, 1));
        Refusals.leaves(Refusals.MISSING, () -> withSheets(206, 135, 200, 279), x -> x.needed(0, 1));
        BindingPlanner x = withSheets(206, 135, 199, 280);
        Checks.is("board where paper is too small", 3, x.needed(0, 0));
        Checks.is("cloth where paper is too small", 3, x.needed(0, 2));
        BindingPlanner y = withSheets(205, 135, 200, 280);
        Checks.is("paper where board is too small", 2, y.needed(0, 1));
        Checks.is("cloth where board is too small", 3, y.needed(0, 2));
    }

    private static BindingPlanner withSheets(int boardLength, int boardBreadth, int paperLength, int paperBreadth) {
        BindingPlanner x = Planners.withBook();
        x.setSheet(0, boardLength, boardBreadth, 1);
        x.setSheet(1, paperLength, paperBreadth, 1);
        return x;
    }

    @Sentence(in = "Promise 12", says = "or it is cloth and the cloth is too broad")
    static void neededWithAClothThatIsTooBroad() {
        Refusals.leaves(Refusals.MISSING, () -> {
            BindingPlanner x = Planners.busy();
            x.set(4, 339);
            return x;
        }, x -> x.needed(0, 2));
        BindingPlanner x = Planners.withBook();
        x.set(4, 339);
        Checks.is("board all the same", 2, x.needed(0, 0));
        Checks.is("paper all the same", 1, x.needed(0, 1));
        x.set(4, 340);
        Checks.is("just broad enough", 3, x.needed(0, 2));
    }

    // Promise 13: boardShare

    @Sentence(in = "Promise 13", says = "Returns the share of its sheets that the boards of a book use.")
    static void shareFollowsCopiesAndSheets() {
        BindingPlanner x = Planners.withBook();
        Checks.isDouble("one copy", 55620.0 / 700000.0, x.boardShare(0));
        x.setBlock(0, 3, 10);
        Checks.isDouble("ten copies fill a sheet", 556200.0 / 700000.0, x.boardShare(0));
        x.setBlock(0, 3, 11);
        Checks.isDouble("eleven begin another one", 611820.0 / 1400000.0, x.boardShare(0));
        x.setSheet(0, 1030, 675, 1);
        Checks.isDouble("25 of a sheet without waste", 22 * 27810.0 / 695250.0, x.boardShare(0));
        x.setSheet(1, 100, 100, 0);
        Checks.isDouble("whatever the paper", 22 * 27810.0 / 695250.0, x.boardShare(0));
    }

    @Sentence(in = "Promise 13", says = "- `book`: the book")
    static void boardShareOfEachBookOfTen() {
        TenBooks.each("share", (x, book) -> x.boardShare(book), 13780.0 / 700000.0, 138720.0 / 700000.0,
            383460.0 / 700000.0, 784000.0 / 1400000.0, 1376340.0 / 2100000.0, 2196480.0 / 3500000.0,
            3280420.0 / 4900000.0, 4664160.0 / 5600000.0, 6383700.0 / 9800000.0, 8475040.0 / 16100000.0);
    }

    @Sentence(in = "Promise 13", says = "Returns the areas of all boards of all copies together, without the spine "
        + "strips, divided by that of the sheets needed for them, both as doubles.")
    static void shareOfFullAndOfEmptySheets() {
        BindingPlanner x = Planners.withBook();
        x.setSheet(0, 206, 135, 1);
        Checks.isDouble("nothing is left of one board a sheet", 1.0, x.boardShare(0));
        x.setBlock(0, 3, 50);
        Checks.isDouble("nor of 50 copies", 1.0, x.boardShare(0));
        x.setSheet(0, 412, 270, 1);
        Checks.isDouble("nor of four boards a sheet", 1.0, x.boardShare(0));
        x.setBlock(0, 3, 1);
        Checks.isDouble("half of a sheet", 0.5, x.boardShare(0));
        x.setBlock(0, 3, 3);
        Checks.isDouble("three quarters of two sheets", 0.75, x.boardShare(0));
        BindingPlanner y = new BindingPlanner();
        y.set(0, 0);
        y.set(1, 12);
        y.addBook(80, 60, 5);
        y.setSheet(0, 1200, 1200, 0);
        Checks.isDouble("the least boards of the greatest sheet", 2 * 80 * 48 / 1440000.0, y.boardShare(0));
        BindingPlanner z = new BindingPlanner();
        z.set(0, 6);
        z.set(1, 4);
        z.addBook(400, 300, 80);
        z.setBlock(0, 3, 50);
        z.setSheet(0, 823, 1200, 1);
        Checks.isDouble("the greatest boards of large sheets", 100 * 412 * 302 / (823.0 * 1200 * 34), z.boardShare(0));
    }

    @Sentence(in = "Promise 13", says = "Throws `IndexOutOfBoundsException` if there is no such book")
    static void boardShareWithoutSuchABook() {
        Refusals.leaves(Refusals.INDEX, BindingPlanner::new, x -> x.boardShare(0));
        Refusals.leaves(Refusals.INDEX, Planners::busy, x -> x.boardShare(2), x -> x.boardShare(-1),
            x -> x.boardShare(Refusals.LEAST), x -> x.boardShare(Refusals.MOST));
        Refusals.leaves(Refusals.INDEX, Planners::withTenBooks, x -> x.boardShare(10));
        Checks.isDouble("the last of ten", 55620.0 / 700000.0, Planners.withTenBooks().boardShare(9));
    }

    @Sentence(in = "Promise 13", says = "Throws `ArithmeticException` if the yield is 0")
    static void boardShareWithAYieldOf0() {
        Refusals.leaves(Refusals.ARITHMETIC, () -> withSheets(205, 135, 200, 280), x -> x.boardShare(0));
        Refusals.leaves(Refusals.ARITHMETIC, () -> withSheets(206, 134, 200, 280), x -> x.boardShare(0));
        BindingPlanner x = withSheets(206, 135, 100, 100);
        Checks.isDouble("the yield of paper is nothing to it", 1.0, x.boardShare(0));
    }

    // Promise 14: tapes

    private static BindingPlanner withHeight(int height) {
        BindingPlanner x = new BindingPlanner();
        x.addBook(height, 60, 5);
        return x;
    }

    @Sentence(in = "Promise 14", says = "- `book`: the book")
    static void tapesOfEachBookOfTen() {
        TenBooks.each("tapes", (x, book) -> x.tapes(book), 2, 2, 3, 3, 4, 4, 5, 5, 6, 6);
    }

    @Sentence(in = "Promise 14", says = "Returns the number.")
    static void numberOfTapesFollowsTheHeightAlone() {
        BindingPlanner x = withHeight(200);
        Checks.is("just 4", 4, x.tapes(0));
        x.setBlock(0, 1, 300);
        x.setBlock(0, 2, 80);
        x.setBlock(0, 3, 50);
        Checks.is("whatever the other numbers", 4, x.tapes(0));
        x.setBlock(0, 0, 199);
        Checks.is("a millimetre lower", 3, x.tapes(0));
        x.undo();
        Checks.is("as high as before", 4, x.tapes(0));
    }

    @Sentence(in = "Promise 14", says = "Returns the number of tapes of a block.")
    static void tapesFrom2To7() {
        Checks.is("least height", 2, withHeight(80).tapes(0));
        Checks.is("a millimetre too low for 3", 2, withHeight(139).tapes(0));
        Checks.is("just 3", 3, withHeight(140).tapes(0));
        Checks.is("a millimetre too low for 7", 6, withHeight(379).tapes(0));
        Checks.is("just 7", 7, withHeight(380).tapes(0));
        Checks.is("greatest height", 7, withHeight(400).tapes(0));
    }

    @Sentence(in = "Promise 14", says = "Throws `IndexOutOfBoundsException` if there is no such book")
    static void tapesWithoutSuchABook() {
        Refusals.leaves(Refusals.INDEX, BindingPlanner::new, x -> x.tapes(0));
        Refusals.leaves(Refusals.INDEX, Planners::busy, x -> x.tapes(2), x -> x.tapes(-1), x -> x.tapes(Refusals.LEAST),
            x -> x.tapes(Refusals.MOST));
        Refusals.leaves(Refusals.INDEX, Planners::withTenBooks, x -> x.tapes(10));
        Checks.is("the last of ten", 4, Planners.withTenBooks().tapes(9));
    }

    // Promise 15: station

    @Sentence(in = "Promise 15", says = "Returns where a station of a block is.")
    static void stationsOfABlock() {
        BindingPlanner x = withHeight(250);
        int[] due = {12, 57, 102, 147, 192, 238};
        for (int station = 0; station < 6; station++) {
            Checks.is("station " + station, due[station], x.station(0, station));
        }
        x.setBlock(0, 0, 130);
        int[] dueThen = {12, 47, 82, 118};
        for (int station = 0; station < 4; station++) {
            Checks.is("station " + station + " of a lower block", dueThen[station], x.station(0, station));
        }
        Checks.thrown("no station 4 of a lower block", Refusals.MISSING, () -> x.station(0, 4));
    }

    @Sentence(in = "Promise 15", says = "- `book`: the book")
    static void stationOfEachBookOfTen() {
        TenBooks.each("lower kettle stitch", (x, book) -> x.station(book, 0), 12, 12, 12, 12, 12, 12, 12, 12, 12, 12);
        TenBooks.each("first tape", (x, book) -> x.station(book, 1), 37, 47, 46, 53, 51, 57, 54, 59, 57, 61);
        TenBooks.each("second tape", (x, book) -> x.station(book, 2), 62, 82, 80, 95, 90, 102, 97, 107, 102, 110);
        TenBooks.each("station 3", (x, book) -> x.station(book, 3), 88, 118, 114, 136, 129, 147, 140, 155, 147, 160);
    }

    @Sentence(in = "Promise 15", says = "- `station`: the station, from 0")
    static void stationsFrom0To8() {
        BindingPlanner x = withHeight(400);
        for (int station = 0; station <= 8; station++) {
            Checks.is("station " + station, 12 + 47 * station, x.station(0, station));
        }
    }

    @Sentence(in = "Promise 15", says = "Returns the place in its height.")
    static void leastAndGreatestPlaces() {
        Checks.is("lower kettle stitch of the least height", 12, withHeight(80).station(0, 0));
        Checks.is("upper kettle stitch of the least height", 68, withHeight(80).station(0, 3));
        Checks.is("upper kettle stitch of the greatest height", 388, withHeight(400).station(0, 8));
        Checks.is("upper kettle stitch where places are rounded", 387, withHeight(399).station(0, 8));
        Checks.is("rounded down", 340, withHeight(399).station(0, 7));
    }

    @Sentence(in = "Promise 15", says = "Throws `IndexOutOfBoundsException` if there is no such book")
    static void stationWithoutSuchABook() {
        Refusals.leaves(Refusals.INDEX, BindingPlanner::new, x -> x.station(0, 0));
        Refusals.leaves(Refusals.INDEX, Planners::busy, x -> x.station(2, 0), x -> x.station(-1, 0),
            x -> x.station(Refusals.LEAST, 0), x -> x.station(Refusals.MOST, -1));
        Refusals.leaves(Refusals.INDEX, Planners::withTenBooks, x -> x.station(10, 0));
        Checks.is("the last of ten", 12, Planners.withTenBooks().station(9, 0));
    }

    @Sentence(in = "Promise 15", says = "Throws `NoSuchElementException` if there is no such station")
    static void stationThatDoesNotExist() {
        Refusals.leaves(Refusals.MISSING, () -> withHeight(139), x -> x.station(0, 4), x -> x.station(0, -1));
        Refusals.leaves(Refusals.MISSING, () -> withHeight(140), x -> x.station(0, 5), x -> x.station(0, Refusals.LEAST));
        Refusals.leaves(Refusals.MISSING, () -> withHeight(400), x -> x.station(0, 9), x -> x.station(0, Refusals.MOST));
        Checks.is("last of 139", 127, withHeight(139).station(0, 3));
        Checks.is("last of 140", 128, withHeight(140).station(0, 4));
    }

    // Promise 16: widestGap

    @Sentence(in = "Promise 16", says = "- `book`: the book")
    static void widestGapOfEachBookOfTen() {
        TenBooks.each("widest gap", (x, book) -> x.widestGap(book), 26, 36, 34, 42, 40, 46, 43, 48, 46, 50);
    }

    @Sentence(in = "Promise 16", says = "Returns the distance.")
    static void distanceOfEachHeight() {
        for (int height = 80; height <= 400; height++) {
            BindingPlanner x = withHeight(height);
            int last = x.tapes(0) + 1;
            int widest = 0;
            for (int station = 0; station < last; station++) {
                widest = Math.max(widest, x.station(0, station + 1) - x.station(0, station));
            }
            Checks.is("between the stations at height " + height, widest, x.widestGap(0));
        }
        Checks.is("the least of all", 19, withHeight(81).widestGap(0));
        Checks.is("the greatest of all", 51, withHeight(379).widestGap(0));
    }

    @Sentence(in = "Promise 16", says = "Returns the greatest distance between neighboring stations of a block.")
    static void gapsOfEqualAndOfUnequalStations() {
        Checks.is("18, 19 and 19", 19, withHeight(80).widestGap(0));
        Checks.is("19, 19 and 19", 19, withHeight(81).widestGap(0));
        Checks.is("19, 19 and 20", 20, withHeight(82).widestGap(0));
        Checks.is("38, 38 and 39", 39, withHeight(139).widestGap(0));
        Checks.is("four times 29", 29, withHeight(140).widestGap(0));
        Checks.is("46 and seven times 47", 47, withHeight(399).widestGap(0));
        Checks.is("eight times 47", 47, withHeight(400).widestGap(0));
    }

    @Sentence(in = "Promise 16", says = "Throws `IndexOutOfBoundsException` if there is no such book")
    static void widestGapWithoutSuchABook() {
        Refusals.leaves(Refusals.INDEX, BindingPlanner::new, x -> x.widestGap(0));
        Refusals.leaves(Refusals.INDEX, Planners::busy, x -> x.widestGap(2), x -> x.widestGap(-1),
            x -> x.widestGap(Refusals.LEAST), x -> x.widestGap(Refusals.MOST));
        Refusals.leaves(Refusals.INDEX, Planners::withTenBooks, x -> x.widestGap(10));
        Checks.is("the last of ten", 36, Planners.withTenBooks().widestGap(9));
    }
}
