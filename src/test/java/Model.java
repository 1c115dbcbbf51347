import java.util.ArrayDeque;
import java.util.ArrayList;
import java.util.Comparator;
import java.util.Deque;
import java.util.HashMap;
import java.util.List;
import java.util.Map;
import java.util.NoSuchElementException;
import java.util.TreeMap;
import java.util.regex.Matcher;
import java.util.regex.Pattern;

/** The document once more, as plainly as the Java library allows: what random runs are compared with. */
final class Model {
    private static final int[][] BLOCK_RANGES = {{80, 400}, {60, 300}, {5, 80}, {1, 50}};
    private static final int[][] SETTING_RANGES = {{0, 6}, {4, 12}, {8, 25}, {1, 4}, {300, 1500}};
    private static final Pattern TEXT =
        Pattern.compile("([1-9]\\d{0,2})x([1-9]\\d{0,2})x([1-9]\\d{0,2})(?:\\*([1-9]\\d?))?", Pattern.DOTALL);

    record Size(int length, int breadth) {
    }

    record Lot(int material, int units, int price) {
    }

    /** Never changed: a change makes another one. */
    record State(List<List<Integer>> blocks, List<Integer> settings, List<List<Integer>> sheets, List<Lot> lots,
                 Map<Integer, TreeMap<Integer, Integer>> prices, List<Long> accounts) {
    }

    private State now = new State(List.of(), List.of(3, 8, 15, 2, 1000), List.of(List.of(1000, 700, 1),
        List.of(1000, 700, 1)), List.of(), Map.of(), List.of(0L, 0L, 0L, 0L, 0L, 0L, 0L));
    private final Deque<State> before = new ArrayDeque<>();
    private State saved = null;
    private int reason = 0;
    private String buffer = "";
    private int fault = -1;

    private static <T> List<T> with(List<T> list, int index, T value) {
        List<T> other = new ArrayList<>(list);
        if (index == list.size()) {
            other.add(value);
        } else {
            other.set(index, value);
        }
        return other;
    }

    private void change(State after) {
        before.push(now);
        if (before.size() > 8) {
            before.removeLast();
        }
        now = after;
    }

    private static void index(boolean isGood) {
        if (!isGood) {
            throw new IndexOutOfBoundsException();
        }
    }

    private static void argument(boolean isGood) {
        if (!isGood) {
            throw new IllegalArgumentException();
        }
    }

    private static void state(boolean isGood) {
        if (!isGood) {
            throw new IllegalStateException();
        }
    }

    private static void element(boolean isGood) {
        if (!isGood) {
            throw new NoSuchElementException();
        }
    }

    private static void supported(boolean isGood) {
        if (!isGood) {
            throw new UnsupportedOperationException();
        }
    }

    private static boolean in(int value, int low, int high) {
        return low <= value && value <= high;
    }

    private void book(int book) {
        index(in(book, 0, now.blocks.size() - 1));
    }

    int addBook(int height, int width, int thickness, int copies) {
        argument(in(height, 80, 400) && in(width, 60, 300) && in(thickness, 5, 80) && in(copies, 1, 50));
        state(now.blocks.size() < 10);
        putBlocks(with(now.blocks, now.blocks.size(), List.of(height, width, thickness, copies)));
        return now.blocks.size() - 1;
    }

    private void putBlocks(List<List<Integer>> blocks) {
        change(new State(blocks, now.settings, now.sheets, now.lots, now.prices, now.accounts));
    }

    private static Size size(State state, int book, int piece) {
        List<Integer> b = state.blocks.get(book);
        List<Integer> s = state.settings;
        Size board = new Size(b.get(0) + 2 * s.get(0), b.get(1) + s.get(0) - s.get(1));
        Size spine = new Size(board.length, b.get(2) + 2 * s.get(3));
        Size cloth = new Size(board.length + 2 * s.get(2),
            2 * board.breadth + 2 * s.get(1) + spine.breadth + 2 * s.get(2));
        return List.of(board, board, spine, cloth, new Size(b.get(0), 2 * b.get(1))).get(piece);
    }

    private int changedPieces(State old, int book) {
        int set = 0;
        for (int piece = 0; piece < 5; piece++) {
            set += size(old, book, piece).equals(size(now, book, piece)) ? 0 : 1 << piece;
        }
        return set;
    }

    int setBlock(int book, int what, int value) {
        book(book);
        argument(in(what, 0, 3) && in(value, BLOCK_RANGES[what][0], BLOCK_RANGES[what][1]));
        State old = now;
        putBlocks(with(now.blocks, book, with(now.blocks.get(book), what, value)));
        return changedPieces(old, book);
    }

    int block(int book, int what) {
        book(book);
        argument(in(what, 0, 3));
        return now.blocks.get(book).get(what);
    }

    int set(int setting, int value) {
        index(in(setting, 0, 4));
        argument(in(value, SETTING_RANGES[setting][0], SETTING_RANGES[setting][1]));
        State old = now;
        change(new State(now.blocks, with(now.settings, setting, value), now.sheets, now.lots, now.prices,
            now.accounts));
        int sum = 0;
        for (int book = 0; book < now.blocks.size(); book++) {
            sum += Integer.bitCount(changedPieces(old, book));
        }
        return sum;
    }

    int setting(int setting) {
        index(in(setting, 0, 4));
        return now.settings.get(setting);
    }

    int piece(int book, int piece, boolean isBreadth) {
        book(book);
        index(in(piece, 0, 4));
        return isBreadth ? size(now, book, piece).breadth : size(now, book, piece).length;
    }

    private boolean isTooBroad(int book) {
        return size(now, book, 3).breadth > now.settings.get(4);
    }

    int wouldRefuse(int book) {
        book(book);
        if (isTooBroad(book)) {
            return 1;
        }
        for (int piece : new int[] {0, 1, 2, 4}) {
            if (perSheet(book, piece) == 0) {
                return 2;
            }
        }
        for (int material = 0; material < 3; material++) {
            if (stock(material) < needed(book, material)) {
                return 3 + material;
            }
        }
        return 0;
    }

    int setSheet(int material, int length, int breadth, int grain) {
        index(in(material, 0, 1));
        argument(in(length, 100, 1200) && in(breadth, 100, 1200) && in(grain, 0, 2));
        int old = now.sheets.get(material).get(2);
        change(new State(now.blocks, now.settings, with(now.sheets, material, List.of(length, breadth, grain)),
            now.lots, now.prices, now.accounts));
        return old;
    }

    int sheet(int material, int what) {
        index(in(material, 0, 1));
        argument(in(what, 0, 2));
        return now.sheets.get(material).get(what);
    }

    int perSheet(int book, int piece) {
        book(book);
        index(in(piece, 0, 4));
        supported(piece != 3);
        List<Integer> sheet = now.sheets.get(piece == 4 ? 1 : 0);
        Size size = size(now, book, piece);
        int straight = sheet.get(0) / size.length * (sheet.get(1) / size.breadth);
        int turned = sheet.get(1) / size.length * (sheet.get(0) / size.breadth);
        return List.of(Math.max(straight, turned), straight, turned).get(sheet.get(2));
    }

    private int sheets(int book, int piece, int number) {
        int yield = perSheet(book, piece);
        element(yield > 0);
        return number / yield + (number % yield == 0 ? 0 : 1);
    }

    int needed(int book, int material) {
        book(book);
        index(in(material, 0, 2));
        int copies = block(book, 3);
        if (material == 0) {
            return sheets(book, 0, 2 * copies) + sheets(book, 2, copies);
        }
        if (material == 1) {
            return sheets(book, 4, 2 * copies);
        }
        element(!isTooBroad(book));
        return (int) Math.ceil(size(now, book, 3).length * copies / 100.0);
    }

    double boardShare(int book) {
        book(book);
        if (perSheet(book, 0) == 0) {
            throw new ArithmeticException();
        }
        Size size = size(now, book, 0);
        int boards = 2 * block(book, 3);
        double used = size.length * size.breadth * boards;
        return used / (double) (sheet(0, 0) * sheet(0, 1) * sheets(book, 0, boards));
    }

    private List<Integer> stations(int book) {
        book(book);
        int height = block(book, 0);
        int tapes = 2 + (height - 80) / 60;
        List<Integer> places = new ArrayList<>(List.of(12));
        for (int k = 0; k < tapes; k++) {
            places.add(12 + (k + 1) * (height - 24) / (tapes + 1));
        }
        places.add(height - 12);
        return places;
    }

    int tapes(int book) {
        return stations(book).size() - 2;
    }

    int station(int book, int station) {
        List<Integer> places = stations(book);
        element(in(station, 0, places.size() - 1));
        return places.get(station);
    }

    int widestGap(int book) {
        List<Integer> places = stations(book);
        int widest = 0;
        for (int at = 1; at < places.size(); at++) {
            widest = Math.max(widest, places.get(at) - places.get(at - 1));
        }
        return widest;
    }

    private List<Integer> booksOf(int set) {
        List<Integer> books = new ArrayList<>();
        for (int bit = 0; bit < 32; bit++) {
            if ((set & 1 << bit) != 0) {
                books.add(bit);
            }
        }
        argument(books.stream().allMatch(book -> book < now.blocks.size()));
        supported(books.stream().noneMatch(this::isTooBroad));
        return books;
    }

    int leastCloth(int set) {
        List<Size> cloths = new ArrayList<>();
        for (int book : booksOf(set)) {
            cloths.add(size(now, book, 3));
        }
        return tryAll(cloths, 0, new int[10], new int[10], 0, Integer.MAX_VALUE);
    }

    /** Every way to put the cloths from the given one on into the strips so far or a new one. */
    private int tryAll(List<Size> cloths, int next, int[] lengths, int[] breadths, int strips, int best) {
        if (next == cloths.size()) {
            int sum = 0;
            for (int strip = 0; strip < strips; strip++) {
                sum += lengths[strip];
            }
            return Math.min(sum, best);
        }
        Size cloth = cloths.get(next);
        int least = best;
        for (int strip = 0; strip <= strips; strip++) {
            int length = strip == strips ? 0 : lengths[strip];
            int breadth = strip == strips ? 0 : breadths[strip];
            if (breadth + cloth.breadth <= now.settings.get(4)) {
                lengths[strip] = Math.max(length, cloth.length);
                breadths[strip] = breadth + cloth.breadth;
                least = tryAll(cloths, next + 1, lengths, breadths, Math.max(strips, strip + 1), least);
                lengths[strip] = length;
                breadths[strip] = breadth;
            }
        }
        return least;
    }

    private List<List<Integer>> fit(int set) {
        List<Integer> books = booksOf(set);
        books.sort(Comparator.comparing(book -> -size(now, book, 3).length));
        List<List<Integer>> strips = new ArrayList<>();
        for (int book : books) {
            int at = 0;
            while (at < strips.size() && breadth(strips.get(at)) + breadth(List.of(book)) > now.settings.get(4)) {
                at++;
            }
            if (at == strips.size()) {
                strips.add(new ArrayList<>());
            }
            strips.get(at).add(book);
        }
        return strips;
    }

    private int breadth(List<Integer> books) {
        return books.stream().mapToInt(book -> size(now, book, 3).breadth).sum();
    }

    int fittedCloth(int set) {
        int sum = 0;
        for (List<Integer> strip : fit(set)) {
            sum += strip.stream().mapToInt(book -> size(now, book, 3).length).max().orElse(0);
        }
        return sum;
    }

    int strip(int set, int book) {
        List<List<Integer>> strips = fit(set);
        for (int at = 0; at < strips.size(); at++) {
            if (strips.get(at).contains(book)) {
                return at;
            }
        }
        throw new NoSuchElementException();
    }

    int strips(int set) {
        return fit(set).size();
    }

    double clothWaste(int set) {
        int areas = 0;
        for (int book : booksOf(set)) {
            areas += size(now, book, 3).length * size(now, book, 3).breadth;
        }
        if (set == 0) {
            throw new ArithmeticException();
        }
        return 1.0 - areas / (double) (leastCloth(set) * now.settings.get(4));
    }

    private List<Lot> lotsOf(int material) {
        index(in(material, 0, 2));
        return now.lots.stream().filter(lot -> lot.material == material).toList();
    }

    private List<Long> booked(int account, long more) {
        return with(now.accounts, account, now.accounts.get(account) + more);
    }

    int buy(int material, int units, int price) {
        index(in(material, 0, 2));
        argument(in(units, 1, 999) && in(price, 1, 9999));
        state(now.lots.size() < 30);
        change(new State(now.blocks, now.settings, now.sheets,
            with(now.lots, now.lots.size(), new Lot(material, units, price)), now.prices,
            booked(3, (long) units * price)));
        return lotsOf(material).size();
    }

    int stock(int material) {
        return lotsOf(material).stream().mapToInt(Lot::units).sum();
    }

    int lot(int material, int index, boolean isPrice) {
        List<Lot> lots = lotsOf(material);
        element(in(index, 0, lots.size() - 1));
        return isPrice ? lots.get(index).price : lots.get(index).units;
    }

    private TreeMap<Integer, Integer> pricesOf(int material) {
        return new TreeMap<>(now.prices.getOrDefault(material, new TreeMap<>()));
    }

    private int priceCount() {
        return now.prices.values().stream().mapToInt(Map::size).sum();
    }

    private void putPrices(int material, TreeMap<Integer, Integer> prices) {
        Map<Integer, TreeMap<Integer, Integer>> all = new HashMap<>(now.prices);
        all.put(material, prices);
        change(new State(now.blocks, now.settings, now.sheets, now.lots, all, now.accounts));
    }

    int setPrice(int material, int day, int price) {
        index(in(material, 0, 2));
        argument(in(day, 0, 9999) && in(price, 1, 9999));
        TreeMap<Integer, Integer> prices = pricesOf(material);
        state(prices.containsKey(day) || priceCount() < 20);
        prices.put(day, price);
        putPrices(material, prices);
        return priceCount();
    }

    int dropPrice(int material, int day) {
        index(in(material, 0, 2));
        TreeMap<Integer, Integer> prices = pricesOf(material);
        element(prices.containsKey(day));
        int price = prices.remove(day);
        putPrices(material, prices);
        return price;
    }

    int price(int material, int day) {
        index(in(material, 0, 2));
        Map.Entry<Integer, Integer> latest = pricesOf(material).floorEntry(day);
        element(latest != null);
        return latest.getValue();
    }

    int cost(int book, int day) {
        int refused = wouldRefuse(book);
        supported(refused != 1 && refused != 2);
        return needed(book, 0) * price(0, day) + needed(book, 1) * price(1, day) + needed(book, 2) * price(2, day);
    }

    int make(int book) {
        int refused = wouldRefuse(book);
        reason = refused == 0 ? reason : refused;
        supported(refused == 0);
        int[] missing = {needed(book, 0), needed(book, 1), needed(book, 2)};
        List<Long> accounts = booked(1, block(book, 3));
        for (int material = 0; material < 3; material++) {
            accounts = with(accounts, 4 + material, accounts.get(4 + material) + missing[material]);
        }
        int cost = 0;
        List<Lot> lots = new ArrayList<>();
        for (Lot lot : now.lots) {
            int taken = Math.min(lot.units, missing[lot.material]);
            missing[lot.material] -= taken;
            cost += taken * lot.price;
            if (taken < lot.units) {
                lots.add(new Lot(lot.material, lot.units - taken, lot.price));
            }
        }
        accounts = with(accounts, 2, accounts.get(2) + cost);
        change(new State(now.blocks, now.settings, now.sheets, lots, now.prices, accounts));
        return cost;
    }

    int refusal() {
        element(reason != 0);
        return reason;
    }

    int pass(int days) {
        argument(in(days, 1, 999));
        state(now.accounts.get(0) + days <= 9999);
        change(new State(now.blocks, now.settings, now.sheets, now.lots, now.prices, booked(0, days)));
        return now.accounts.get(0).intValue();
    }

    long account(int what) {
        argument(in(what, 0, 10));
        List<Long> a = now.accounts;
        long worth = now.lots.stream().mapToLong(lot -> (long) lot.units * lot.price).sum();
        long[] all = {a.get(0), now.blocks.size(), a.get(1), a.get(2), a.get(3), worth, now.lots.size(), priceCount(),
            a.get(4), a.get(5), a.get(6)};
        return all[what];
    }

    int append(char c) {
        state(buffer.length() < 40);
        buffer += c;
        return 0;
    }

    int readBook() {
        String text = buffer;
        buffer = "";
        Matcher whole = TEXT.matcher(text);
        if (!whole.matches()) {
            fault = 0;
            while (fault < text.length() && canContinue(text.substring(0, fault + 1))) {
                fault++;
            }
            throw new IllegalArgumentException();
        }
        fault = -1;
        return addBook(Integer.parseInt(whole.group(1)), Integer.parseInt(whole.group(2)),
            Integer.parseInt(whole.group(3)), whole.group(4) == null ? 1 : Integer.parseInt(whole.group(4)));
    }

    private static boolean canContinue(String start) {
        Matcher matcher = TEXT.matcher(start);
        return matcher.matches() || matcher.hitEnd();
    }

    int faultPosition() {
        return fault;
    }

    int undo() {
        state(!before.isEmpty());
        now = before.pop();
        return before.size();
    }

    int save() {
        saved = now;
        return 0;
    }

    int restore() {
        state(saved != null);
        now = saved;
        before.clear();
        return 0;
    }
}
