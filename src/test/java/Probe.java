import java.util.ArrayList;
import java.util.List;

/** All that calls can tell of an object, as one row of answers, but for status() and fault(). */
final class Probe {
    private final StringsSheet x;
    private final List<Long> answers = new ArrayList<>();

    private Probe(StringsSheet x) {
        this.x = x;
    }

    static void same(String what, long[] got, long[] want) {
        Sentence.due(what + ", how many", got.length, want.length);
        for (int k = 0; k < Math.min(got.length, want.length); k++) {
            Sentence.due(what + ", answer " + k, got[k], want[k]);
        }
    }

    /** By calls that change nothing; some 180 of them. */
    static long[] quietly(StringsSheet x) {
        Probe p = new Probe(x);
        p.tellTown();
        p.tellSellers();
        p.tellSums();
        return p.row();
    }

    /** By calls that change things, too; some 330 of them, after which the object is of no more use. */
    static long[] wholly(StringsSheet x) {
        Probe p = new Probe(x);
        p.tellTown();
        p.tellSellers();
        p.tellSums();
        p.useUpTown();
        p.useUpRows();
        p.useUpTapeAndImages();
        return p.row();
    }

    private long[] row() {
        return answers.stream().mapToLong(Long::longValue).toArray();
    }

    private void tell(long answer) {
        answers.add(answer);
    }

    private void tellTown() {
        for (int what = 0; what <= 8; what++) {
            tell(x.count(what));
        }
        for (int i = 0; i < 6; i++) {
            tell(x.trace(i));
        }
        for (int c = 0; c < 3; c++) {
            tell(x.walk(0, c, 0));
            tell(x.walk(1, c, 1));
            tell(x.feared(c, 0));
            tell(x.feared(c, 1));
            tell(x.escapes(0, c));
            tell(x.odds(3, c, 0));
        }
        for (int g = 0; g < 2; g++) {
            tell(x.newcomer(g));
        }
    }

    private void tellSellers() {
        for (int s = 0; s < 3; s++) {
            for (int what = 0; what < 5; what++) {
                tell(x.seller(s, what));
            }
            for (int what = 0; what < 4; what++) {
                tell(x.after(s, what));
            }
            for (int c = 0; c < 3; c++) {
                tell(x.score(s, c));
            }
            for (int other = 0; other < 3; other++) {
                tell(x.owed(s, other));
            }
            tell(x.may(s));
            tell(x.kind(s));
            tell(x.stored(s));
        }
    }

    private void tellSums() {
        tell(x.after(-1, 4));
        tell(x.rest());
        tell(x.rests(-1));
        tell(x.rests(0));
        tell(x.stored(-1));
        tell(x.value(3, 0));
        tell(x.value(3, 1));
        for (int w = 0; w < 2; w++) {
            tell(x.nothing(w));
            for (int s = 0; s < 3; s++) {
                tell(x.saved(w, s));
                tell(x.pays(w, 7, s, 0));
            }
        }
    }

    private void useUpTown() {
        tell(x.keep());
        for (int c = 0; c < 3; c++) {
            tell(x.feared(c, 0));
        }
        for (int w = 0; w < 2; w++) {
            for (int s = 0; s < 3; s++) {
                tell(x.saved(w, s));
            }
            tell(x.watch(w, 0));
        }
        tell(x.passed());
        tell(x.settle());
        for (int s = 0; s < 3; s++) {
            tell(x.goes(s, s));
        }
    }

    // With seller k at corner k and no watcher who could warn in time, a raid tells an item.
    private void useUpRows() {
        for (int row = 0; row < 8; row++) {
            for (int i = 0; i < 3; i++) {
                tell(x.raid(row, i, 1));
            }
            // Three lanes tell this number in three ways.
            tell(x.set(row, 0, 0x18081));
            tell(x.drop(row));
        }
    }

    private void useUpTapeAndImages() {
        tell(x.pavement());
        tell(x.count(1));
        for (int k = 0; k < 2; k++) {
            tell(x.restore(k));
            tell(x.count(1));
            tell(x.count(7));
            tell(x.keep());
            for (int s = 0; s < 3; s++) {
                tell(x.seller(s, 1));
                tell(x.owed(s, 0));
                tell(x.after(s, 2));
            }
            for (int w = 0; w < 2; w++) {
                tell(x.saved(w, 0));
                tell(x.watch(w, 0));
            }
        }
    }
}
