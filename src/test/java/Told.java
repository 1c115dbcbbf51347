import java.util.function.Supplier;

/** What a planner tells of its state. */
final class Told {
    private Told() {
    }

    /** All that calls tell that change nothing: some 190 calls. */
    static String now(BindingPlanner x) {
        StringBuilder told = new StringBuilder();
        for (int what = 0; what <= 10; what++) {
            told.append(x.account(what)).append(' ');
        }
        for (int book = 0; book < x.account(1); book++) {
            for (int what = 0; what < 4; what++) {
                told.append(x.block(book, what)).append(' ');
            }
        }
        for (int setting = 0; setting < 5; setting++) {
            told.append(x.setting(setting)).append(' ');
        }
        for (int what = 0; what < 3; what++) {
            told.append(x.sheet(0, what)).append(' ').append(x.sheet(1, what)).append(' ');
        }
        for (int material = 0; material < 3; material++) {
            addMaterial(told, x, material);
        }
        told.append(Checks.answer(x::refusal)).append(' ').append(x.faultPosition());
        return told.toString();
    }

    private static void addMaterial(StringBuilder told, BindingPlanner x, int material) {
        told.append(x.stock(material)).append(' ');
        for (int each = 0; each < 30; each++) {
            int index = each;
            String units = Checks.answer(() -> x.lot(material, index, false));
            told.append(units).append(' ');
            if (!Character.isDigit(units.charAt(0))) {
                break;
            }
            told.append(x.lot(material, index, true)).append(' ');
        }
        int[] days = {0, 5, 100, 109, 110, 119, 9999};
        for (int day : days) {
            told.append(Checks.answer(() -> x.price(material, day))).append(' ');
        }
    }

    /**
     * All of the state: what is told now, after each number of undos, after restore, and what the text buffer holds.
     * Each is asked of a planner of its own, so that none is used for more than 512 calls.
     */
    static String whole(Supplier<BindingPlanner> maker) {
        StringBuilder told = new StringBuilder(now(maker.get()));
        for (int undos = 1; undos <= 9; undos++) {
            BindingPlanner x = maker.get();
            for (int undo = 1; undo <= undos; undo++) {
                told.append('\n').append(Checks.answer(x::undo)).append(' ');
            }
            told.append(now(x));
        }
        BindingPlanner restored = maker.get();
        told.append('\n').append(Checks.answer(() -> {
            restored.restore();
            return "restored";
        })).append(' ').append(now(restored));
        BindingPlanner full = maker.get();
        for (int sign = 0; sign <= 40; sign++) {
            told.append('\n').append(Checks.answer(() -> {
                full.append('!');
                return "appended";
            }));
        }
        BindingPlanner read = maker.get();
        told.append('\n').append(Checks.answer(read::readBook)).append(' ').append(now(read));
        return told.toString();
    }
}
