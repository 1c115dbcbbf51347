import java.util.Random;
import java.util.concurrent.Callable;

/** Random runs of exactly 512 calls, each answered as the model answers it; the seeds are fixed. */
public final class RandomRunsTest {
    private static final int RUNS = 4000;
    private static final int CALLS = 512;
    private static final int[] EDGES = {0, 1, 2, 3, 4, 5, 9, 10, 11, 32, 50, 51, 99, 100, 999, 1000, 1200, 9999, 10000};

    private static final int THEMES = 10;
    /** Texts are seldom among them: each takes a call for each character. */
    private static final int[] MIX = {0, 0, 0, 1, 1, 2, 2, 2, 3, 3, 3, 4, 4, 4, 5, 5, 5, 6, 6, 6, 7, 8, 8, 8, 9};

    private final Random random;
    /** The group of calls that this run makes more often, so that limits are reached. */
    private final int theme;
    /** Whether changes are seldom taken back, so that books, lots and prices reach their limits. */
    private final boolean isFilling;
    private BindingPlanner planner = new BindingPlanner();
    private Model model = new Model();
    private int calls = 0;

    private RandomRunsTest(int seed) {
        random = new Random(seed);
        theme = seed % THEMES;
        isFilling = seed % 3 != 0;
    }

    public static void main(String[] args) {
        for (int run = 0; run < RUNS; run++) {
            RandomRunsTest test = new RandomRunsTest(run);
            while (test.calls < CALLS) {
                test.callOnce("run " + run + ", call " + test.calls + ": ");
            }
        }
        Checks.finish();
    }

    /** A call; nothing is called behind the 512th one. */
    private void same(String what, Callable<?> due, Callable<?> got) {
        if (calls < CALLS) {
            calls++;
            Checks.same(what, Checks.answer(due), Checks.answer(got));
        }
    }

    /** Mostly from low to high, sometimes just beside, seldom anything. */
    private int number(int low, int high) {
        int kind = random.nextInt(60);
        if (kind == 0) {
            return random.nextInt();
        }
        if (kind == 1) {
            return EDGES[random.nextInt(EDGES.length)] * (random.nextBoolean() ? 1 : -1);
        }
        if (kind < 5) {
            return new int[] {low - 1, low, high, high + 1}[random.nextInt(4)];
        }
        return low + random.nextInt(high - low + 1);
    }

    private int book() {
        int kept = (int) model.account(1);
        return number(0, Math.max(kept, 1) - 1);
    }

    private int set() {
        int all = (1 << (int) model.account(1)) - 1;
        int kind = random.nextInt(12);
        return kind == 0 ? number(0, 1023) : kind < 8 ? random.nextInt(all + 1) : Math.min(all, 255);
    }

    private void callOnce(String at) {
        switch (random.nextInt(3) == 0 ? theme : MIX[random.nextInt(MIX.length)]) {
            case 0 -> blocks(at);
            case 1 -> settings(at);
            case 2 -> sheets(at);
            case 3 -> cloths(at);
            case 4 -> lots(at);
            case 5 -> prices(at);
            case 6 -> making(at);
            case 7 -> days(at);
            case 8 -> history(at);
            default -> texts(at);
        }
    }

    private void blocks(String at) {
        int a = number(80, 400);
        int b = number(60, 300);
        int c = number(5, 80);
        int book = book();
        int what = number(0, 3);
        int value = number(new int[] {80, 60, 5, 1}[what & 3], new int[] {400, 300, 80, 50}[what & 3]);
        switch (random.nextInt(4)) {
            case 0 -> same(at + "addBook", () -> model.addBook(a, b, c, 1), () -> planner.addBook(a, b, c));
            case 1 -> same(at + "block", () -> model.block(book, what), () -> planner.block(book, what));
            default -> same(at + "setBlock", () -> model.setBlock(book, what, value),
                () -> planner.setBlock(book, what, value));
        }
    }

    private void settings(String at) {
        int setting = number(0, 4);
        int kept = setting < 0 || setting > 4 ? 0 : setting;
        int value = number(new int[] {0, 4, 8, 1, 300}[kept], new int[] {6, 12, 25, 4, 1500}[kept]);
        int book = book();
        int piece = number(0, 4);
        boolean isBreadth = random.nextBoolean();
        switch (random.nextInt(4)) {
            case 0 -> same(at + "set", () -> model.set(setting, value), () -> planner.set(setting, value));
            case 1 -> same(at + "setting", () -> model.setting(setting), () -> planner.setting(setting));
            case 2 -> same(at + "piece", () -> model.piece(book, piece, isBreadth),
                () -> planner.piece(book, piece, isBreadth));
            default -> same(at + "wouldRefuse", () -> model.wouldRefuse(book), () -> planner.wouldRefuse(book));
        }
    }

    private void sheets(String at) {
        int material = number(0, 1);
        int length = random.nextBoolean() ? number(700, 1200) : number(100, 1200);
        int breadth = random.nextBoolean() ? number(700, 1200) : number(100, 1200);
        int grain = number(0, 2);
        int book = book();
        int piece = number(0, 4);
        int station = number(0, 8);
        int any = number(0, 2);
        switch (random.nextInt(8)) {
            case 0 -> same(at + "setSheet", () -> model.setSheet(material, length, breadth, grain),
                () -> planner.setSheet(material, length, breadth, grain));
            case 1 -> same(at + "sheet", () -> model.sheet(material, grain), () -> planner.sheet(material, grain));
            case 2 -> same(at + "perSheet", () -> model.perSheet(book, piece), () -> planner.perSheet(book, piece));
            case 3 -> same(at + "needed", () -> model.needed(book, any), () -> planner.needed(book, any));
            case 4 -> same(at + "boardShare", () -> model.boardShare(book), () -> planner.boardShare(book));
            case 5 -> same(at + "tapes", () -> model.tapes(book), () -> planner.tapes(book));
            case 6 -> same(at + "station", () -> model.station(book, station), () -> planner.station(book, station));
            default -> same(at + "widestGap", () -> model.widestGap(book), () -> planner.widestGap(book));
        }
    }

    private void cloths(String at) {
        int set = set();
        int book = book();
        switch (random.nextInt(6)) {
            case 0 -> same(at + "leastCloth " + set, () -> model.leastCloth(set), () -> planner.leastCloth(set));
            case 1 -> same(at + "fittedCloth " + set, () -> model.fittedCloth(set), () -> planner.fittedCloth(set));
            case 2 -> same(at + "strip " + set, () -> model.strip(set, book), () -> planner.strip(set, book));
            case 3 -> same(at + "strips " + set, () -> model.strips(set), () -> planner.strips(set));
            case 4 -> same(at + "clothWaste " + set, () -> model.clothWaste(set), () -> planner.clothWaste(set));
            default -> same(at + "roll", () -> model.set(4, 1000), () -> planner.set(4, 1000));
        }
    }

    private void lots(String at) {
        int material = number(0, 2);
        int units = random.nextBoolean() ? number(1, 40) : number(1, 999);
        int price = number(1, 9999);
        int index = number(0, 6);
        boolean isPrice = random.nextBoolean();
        switch (random.nextInt(5)) {
            case 0 -> same(at + "stock", () -> model.stock(material), () -> planner.stock(material));
            case 1 -> same(at + "lot", () -> model.lot(material, index, isPrice),
                () -> planner.lot(material, index, isPrice));
            default -> same(at + "buy", () -> model.buy(material, units, price),
                () -> planner.buy(material, units, price));
        }
    }

    private void prices(String at) {
        int material = number(0, 2);
        int day = random.nextInt(5) == 0 ? number(0, 9999) : number(0, 15);
        int price = number(1, 9999);
        int book = book();
        switch (random.nextInt(6)) {
            case 0, 1, 2 -> same(at + "setPrice", () -> model.setPrice(material, day, price),
                () -> planner.setPrice(material, day, price));
            case 3 -> same(at + "dropPrice", () -> model.dropPrice(material, day),
                () -> planner.dropPrice(material, day));
            case 4 -> same(at + "price", () -> model.price(material, day), () -> planner.price(material, day));
            default -> same(at + "cost", () -> model.cost(book, day), () -> planner.cost(book, day));
        }
    }

    private void making(String at) {
        int book = book();
        switch (random.nextInt(6)) {
            case 0 -> same(at + "refusal", () -> model.refusal(), () -> planner.refusal());
            case 1 -> account(at);
            default -> same(at + "make", () -> model.make(book), () -> planner.make(book));
        }
    }

    private void days(String at) {
        int days = number(1, 999);
        if (random.nextInt(4) == 0) {
            account(at);
        } else {
            same(at + "pass", () -> model.pass(days), () -> planner.pass(days));
        }
    }

    private void account(String at) {
        int what = number(0, 10);
        same(at + "account " + what, () -> model.account(what), () -> planner.account(what));
    }

    private void texts(String at) {
        String text = random.nextInt(4) == 0 ? "" : text();
        for (int sign = 0; sign < text.length(); sign++) {
            char c = text.charAt(sign);
            same(at + "append " + (int) c, () -> model.append(c), () -> {
                planner.append(c);
                return 0;
            });
        }
        if (random.nextInt(6) != 0) {
            same(at + "readBook " + text, () -> model.readBook(), () -> planner.readBook());
        }
        same(at + "faultPosition " + text, () -> model.faultPosition(), () -> planner.faultPosition());
    }

    private String text() {
        StringBuilder text = new StringBuilder();
        text.append(number(80, 400)).append('x').append(number(60, 300)).append('x').append(number(5, 80));
        if (random.nextBoolean()) {
            text.append('*').append(number(1, 50));
        }
        for (int spoiled = random.nextInt(3); spoiled > 0; spoiled--) {
            int place = random.nextInt(text.length());
            switch (random.nextInt(4)) {
                case 0 -> text.setLength(place + 1);
                case 1 -> text.insert(place, "0123456789x*".charAt(random.nextInt(12)));
                case 2 -> text.setCharAt(place, (char) random.nextInt(300));
                default -> text.append('0');
            }
        }
        return text.toString();
    }

    private void history(String at) {
        switch (isFilling && random.nextInt(8) != 0 ? 7 : random.nextInt(8)) {
            case 0 -> same(at + "save", () -> model.save(), () -> {
                planner.save();
                return 0;
            });
            case 1 -> same(at + "restore", () -> model.restore(), () -> {
                planner.restore();
                return 0;
            });
            case 2, 3, 4 -> same(at + "undo", () -> model.undo(), () -> planner.undo());
            default -> account(at);
        }
    }
}
