import java.util.ArrayList;
import java.util.List;

/** All that can be asked of an object, each call with its answer. */
final class Ask {
    private final SealedHouse house;
    private final List<String> answers = new ArrayList<>();

    private Ask(SealedHouse asked) {
        house = asked;
    }

    /** Asking changes nothing but one register, by which the DIRECTORY is looked through. */
    static List<String> everything(SealedHouse x, int scratch) {
        Ask ask = new Ask(x);
        for (int d = 0; d < 6; d++) {
            ask.device(d);
        }
        ask.registers();
        ask.totals();
        ask.directory(scratch);
        return ask.answers;
    }

    private void add(String call, int answer) {
        answers.add(call + " = " + answer);
    }

    private void device(int d) {
        for (int what = 0; what <= 7; what++) {
            add("device " + d + " " + what, house.device(d, what));
        }
        for (int what = 0; what <= 3; what++) {
            add("taken " + d + " " + what, house.taken(d, what));
        }
        for (int p = 0; p < 6; p++) {
            for (int k = 0; k < 2; k++) {
                for (int what = 0; what <= 6; what++) {
                    add("session " + d + " " + p + " " + k + " " + what,
                            house.session(d, p, k, what));
                }
            }
        }
        for (int g = 0; g < 4; g++) {
            for (int what = 0; what <= 45; what++) {
                add("group " + d + " " + g + " " + what, house.group(d, g, what));
            }
        }
    }

    private void registers() {
        for (int r = 0; r < 32; r++) {
            term("register " + r, r);
            for (int q = 0; q < r; q++) {
                add("same " + r + " " + q, house.same(r, q));
            }
        }
    }

    private void term(String name, int r) {
        for (int what = 0; what <= 5; what++) {
            add(name + ", about " + what, house.about(r, what));
        }
    }

    private void totals() {
        for (int what = 0; what <= 2; what++) {
            add("count " + what, house.count(what));
        }
        for (int w = 0; w < house.count(0); w++) {
            add("letter " + w, house.letter(w));
        }
        for (int l = 0; l < house.count(1); l++) {
            add("derived " + l, house.derived(l));
        }
        add("forged", house.forged());
        add("doubled", house.doubled());
        add("leaked", house.leaked());
    }

    private void directory(int scratch) {
        for (int i = 0; i < 30; i++) {
            int there = house.take(scratch, 1, i);
            add("place " + i, there);
            if (there == 1) {
                term("place " + i, scratch);
                add("its row", house.part(scratch, scratch, 5));
                term("place " + i, scratch);
            }
        }
    }
}
