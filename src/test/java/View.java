import java.util.ArrayList;
import java.util.List;
import java.util.function.Consumer;

/** All that can be asked of an object, so that two of them can be held against each other. */
final class View {
    private final OnePane x;
    private final List<String> rows = new ArrayList<>();

    private View(OnePane x) {
        this.x = x;
    }

    /** The object is used up: its acts are undone at last. With a pane, "total lifts" must be all that is on its tape. */
    static List<String> of(OnePane x) {
        View view = new View(x);
        view.counts();
        view.cells();
        view.people();
        view.reckoned();
        view.written();
        view.hidden();
        return view.rows;
    }

    /**
     * Two objects come to the same by the steps; then a call of one of them is refused, which must be counted once, as of
     * that kind (NONE: not at all), and must change nothing else. A call that takes the tape brings its own.
     */
    static void stays(String call, int kind, boolean takesTape, Consumer<Desk> steps, Consumer<Desk> refused) {
        Desk left = new Desk();
        Desk right = new Desk();
        steps.accept(left);
        steps.accept(right);
        if (!takesTape) {
            left.text("total lifts");
            right.text("total lifts");
        }
        refused.accept(right);
        for (int what = 0; what < 6; what++) {
            Desk.due(call + ": status(" + what + ")", left.x.status(what) + (what == kind ? 1 : 0), right.x.status(what));
        }
        if (!takesTape) {
            Desk.due(call + ": fault(0)", left.x.fault(0), right.x.fault(0));
            Desk.due(call + ": fault(1)", left.x.fault(1), right.x.fault(1));
        } else {
            left.text("total lifts");
            right.text("total lifts");
        }
        alike(call, of(left.x), of(right.x));
    }

    static void alike(String call, List<String> want, List<String> got) {
        Desk.due(call + ": rows that can be seen", want.size(), got.size());
        for (int i = 0; i < Math.min(want.size(), got.size()); i++) {
            if (!want.get(i).equals(got.get(i))) {
                Desk.due(call + ": as it was (" + want.get(i) + ", now " + got.get(i) + ")", true, false);
            }
        }
    }

    private void row(String call, long answer) {
        rows.add(call + " " + answer);
    }

    private void counts() {
        for (int what = 0; what < 10; what++) {
            row("has " + what, x.has(what));
        }
        for (int k = 0; k < x.has(7); k++) {
            row("kept " + k, (x.kept(k, 0) * 10 + x.kept(k, 1)) * 10 + x.kept(k, 2));
        }
    }

    private void cells() {
        for (int r = 0; r < x.has(1); r++) {
            for (int c = 0; c < x.has(0); c++) {
                for (int what = 0; what < 4; what++) {
                    row("cell " + c + " " + r + " " + what, x.cell(c, r, what));
                }
                row("slack " + c + " " + r, x.slack(c, r));
            }
        }
    }

    private void people() {
        for (int p = 0; p < x.has(2); p++) {
            for (int k = 0; k < 6; k++) {
                row("letter " + p + " " + k, x.letter(p, k));
                row("person " + p + " " + k, x.person(p, k));
            }
            row("lifts " + p, x.lifts(p, 1, 0));
            row("stand " + p, x.stand(p, 0) * 100 + x.stand(p, 1) * 10 + x.stand(p, 2));
        }
    }

    private void reckoned() {
        row("next", x.next());
        row("later 7 1", x.later(7, 1));
        row("later 60 0", x.later(60, 0));
        row("lasts", x.lasts(2));
        row("free", x.free());
        row("needed", x.needed());
        row("weak", x.weak(0) * 10 + x.weak(1));
        row("mends", x.mends(3, 0) * 10 + x.mends(3, 1));
        for (int what = 0; what < 3; what++) {
            row("who " + what, x.who(what));
            row("knock " + what, x.knock(what));
        }
    }

    private void written() {
        for (int k = 0; x.octet(k) != OnePane.NONE; k++) {
            row("octet " + k, x.octet(k));
        }
        row("image", x.image());
        for (int k = 0; x.octet(k) != OnePane.NONE; k++) {
            row("new octet " + k, x.octet(k));
        }
    }

    /** What only later calls show: the tape, the seed, the acts that can be undone. */
    private void hidden() {
        row("ask", x.ask());
        row("feed", x.feed(1, 2, 3, 4, 5));
        row("chance", x.chance(60));
        row("cracked", x.has(4));
        boolean undone = true;
        for (int i = 0; undone; i++) {
            undone = x.undo();
            row("undo " + i, undone ? 1 : 0);
            row("hour, cracked, at rest", x.has(3) * 10000 + x.has(4) * 100 + x.has(6));
            row("kept, where the first stands", x.has(7) * 100 + x.person(0, 0) * 10 + x.person(0, 1));
        }
    }
}
