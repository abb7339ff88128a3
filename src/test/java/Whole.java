import java.util.ArrayList;
import java.util.List;

/**
 * All that can be found out about an object by further calls, which use it up: two objects that were made alike are
 * still alike, if this is alike for both. With the calls that made the object it stays below 512.
 */
final class Whole {
    private static final int[] REST_OF_A_TEXT = {';', 'e', 'a', 't', 's', ' ', '3', ';', 't', 'e', 'l', 'l', 's', ' ', '2', ';'};
    private final StalemateDinner d;
    private final List<Long> found = new ArrayList<>();

    private Whole(StalemateDinner d) {
        this.d = d;
    }

    static List<Long> of(StalemateDinner d) {
        Whole whole = new Whole(d);
        whole.table(9);
        whole.add(d.back());
        whole.table(6);
        // From here on there is an image, so that who comes can be sent away again.
        whole.add(d.image());
        for (int s = 0; s < 4; s++) {
            whole.sheet(s);
        }
        whole.tape();
        whole.texts();
        return whole.found;
    }

    private void add(long answer) {
        found.add(answer);
    }

    private void table(int mostTold) {
        for (int what = 0; what < 6; what++) {
            add(d.count(what));
        }
        for (int p = 0; p < 6; p++) {
            for (int what = 0; what <= mostTold; what++) {
                add(d.told(p, what));
            }
        }
    }

    /** A sheet's sort and size, and its first twelve numbers, as far as they can be a guest. */
    private void sheet(int s) {
        int sort = -1;
        for (int k = 0; k < 3; k++) {
            if (d.guestsBy(s, k, 0, 0) == 0) {
                sort = k;
            }
        }
        add(sort);
        int size = 0;
        for (int step = 32; step > 0; step /= 2) {
            // Copied onto itself a sheet stays as it is.
            if (size + step <= 40 && d.copy(s, 0, s, 0, size + step) == size + step) {
                size += step;
            }
        }
        add(size);
        for (int from = 0; from + 3 <= size && from < 12; from += 3) {
            int came = d.guestsBy(s, sort, from, 1);
            add(came);
            if (came == 1) {
                int p = d.count(0) - 1;
                add(d.told(p, 0));
                add(d.told(p, 1));
                add(10L * d.told(p, 5) + d.told(p, 6));
                d.back();
            }
        }
    }

    private void tape() {
        for (int i = 0; i < REST_OF_A_TEXT.length; i++) {
            add(d.feed(1, REST_OF_A_TEXT[i], 0, 0, 0, 0));
        }
        add(d.text());
        add(d.count(5));
    }

    private void texts() {
        d.guest(0, 0, 0);
        for (int t = 0; t < 6; t++) {
            add(d.force(t));
            for (int part = 0; part < 3; part++) {
                add(d.asks(part, 0));
            }
        }
    }
}
