/** Terms II and III, promises 6 to 23: each sentence that names an edge, with a test of its own. */
public final class EdgeTownTest extends PromiseBase {
    private static final int LOW = Integer.MIN_VALUE;
    private static final int HIGH = Integer.MAX_VALUE;

    /** Ten people, a to j, on the first cells row by row. */
    private static String ten(int columns, int lifts) {
        StringBuilder b = new StringBuilder();
        for (int i = 0; i < 10; i++) {
            b.append("pole ").append((char) ('a' + i)).append(" at ").append(i % columns).append(" ").append(i / columns)
                .append(" lifts ").append(lifts).append(";");
        }
        return b.toString();
    }

    private static void nextTo() {
        topic("CELLS next to one another have a side in common");
        Desk d = new Desk().with("pane 3 by 3 tough 1;heavy 2 0 2;adds 5;");
        due("the corner cracks", 1, d.x.hours(1));
        int[] corner = {1, 6, 2, 1, 1, 6, 1, 1, 1};
        for (int i = 0; i < 9; i++) {
            due("load " + i, corner[i], d.x.cell(i % 3, i / 3, 2));
        }
        d.with("pane 3 by 3 tough 1;heavy 1 1 2;adds 5;");
        d.x.hours(1);
        int[] middle = {1, 6, 1, 6, 2, 6, 1, 6, 1};
        for (int i = 0; i < 9; i++) {
            due("load " + i, middle[i], d.x.cell(i % 3, i / 3, 2));
        }
        d.with("pane 3 by 3 tough 1;pole a at 2 0 lifts 1;pole b at 0 1 lifts 1;pole c at 1 1 lifts 1;pole d at 1 2 lifts 1;pole e at 2 2 lifts 1;");
        int[] near = {0, 1, 2, 2, 1};
        for (int i = 0; i < 5; i++) {
            due("near of " + i, near[i], d.ask("total (1-min(1,max(number-" + i + "," + i + "-number)))*near"));
        }
        d.with("pane 3 by 3 tough 1;pole a at 1 1 lifts 1;pole b at 0 1 lifts 1;pole c at 2 1 lifts 1;pole d at 1 0 lifts 1;pole e at 1 2 lifts 1;");
        due("four at most", 4, d.ask("most near"));
        due("the first counts, too", 1, d.ask("least near"));
        due("all together", 8, d.ask("total near"));
    }

    private static void atFirst() {
        topic("It is HOUR 0 at first, nothing is CRACKED, nobody is tired or sent to REST");
        Desk d = new Desk().with("pane 6 by 6 tough 0;" + ten(6, 9));
        due("HOUR", 0, d.x.has(3));
        due("CRACKED", 0, d.x.has(4));
        due("at REST", 0, d.x.has(6));
        due("tired", 0, d.ask("most tired"));
        for (int i = 0; i < 36; i++) {
            due("cracked " + i, 0, d.x.cell(i % 6, i / 6, 1));
        }
    }

    private static void holdsIf() {
        topic("A PERSON HOLDS in an HOUR, if he is not at REST, and the TEST of holds holds");
        Desk d = new Desk().with("pane 2 by 2 tough 9;pole a at 0 0 lifts 3;pole b at 1 0 lifts 4;holds lifts<4;");
        due("a", 1, d.x.person(0, 4));
        due("b by the test", 0, d.x.person(1, 4));
        d.x.rest(0, 1);
        d.x.rest(1, 1);
        due("a at rest", 0, d.x.person(0, 4));
        due("b for both", 0, d.x.person(1, 4));
        d.x.rest(1, 0);
        due("b called", 0, d.x.person(1, 4));
        due("none", 0, d.x.has(5));
    }

    private static void liftsZero() {
        topic("What he LIFTS of a CELL is how strong he is less fades for each step to it, 0 at least");
        int[][] cases = {{6, 3, 6, 3, 0, 0}, {7, 3, 7, 4, 1, 0}, {5, 3, 5, 2, 0, 0}, {99, 0, 99, 99, 99, 99}, {99, 99, 99, 0, 0, 0},
            {99, 98, 99, 1, 0, 0}, {0, 0, 0, 0, 0, 0}, {0, 99, 0, 0, 0, 0}};
        for (int[] one : cases) {
            Desk d = new Desk().with("pane 3 by 2 tough 0;pole a at 0 0 lifts " + one[0] + ";fades " + one[1] + ";");
            for (int i = 0; i < 6; i++) {
                due("lifts " + one[0] + " fades " + one[1], one[2 + i % 3 + i / 3], d.x.lifts(0, i % 3, i / 3));
            }
            due("slack by it", one[5] - 1, d.x.slack(2, 1));
        }
        Desk d = new Desk().with("pane 6 by 6 tough 0;pole a at 0 0 lifts 99;fades 9;");
        due("ten steps", 9, d.x.lifts(0, 5, 5));
        d.with("pane 6 by 6 tough 0;pole a at 5 5 lifts 99;fades 9;");
        due("ten steps back", 9, d.x.lifts(0, 0, 0));
    }

    private static void addsBounds() {
        topic("of each CRACKED one next to it the SUM of adds, 0 .. 999 (below is 0, above 999)");
        String[] sums = {"0-9999*9999", "0-1", "0", "1", "998", "999", "1000", "9999", "9999*9999"};
        int[] due = {0, 0, 0, 1, 998, 999, 999, 999, 999};
        for (int i = 0; i < sums.length; i++) {
            Desk d = new Desk().with("pane 3 by 3 tough 0;adds " + sums[i] + ";");
            due("none is added yet", 1, d.x.cell(1, 1, 2));
            d.x.hours(1);
            due(sums[i] + ", two beside", 1 + 2 * due[i], d.x.cell(0, 0, 2));
            due(sums[i] + ", three beside", 1 + 3 * due[i], d.x.cell(1, 0, 2));
            due(sums[i] + ", four beside", 1 + 4 * due[i], d.x.cell(1, 1, 2));
        }
        Desk d = new Desk().with("pane 2 by 2 tough 0;heavy 0 1 2;heavy 1 0 3;adds weight*500-400;");
        d.x.hours(1);
        due("each is bounded by itself", 1 + 600 + 999, d.x.cell(0, 0, 2));
        d.with("pane 2 by 2 tough 0;heavy 0 1 2;heavy 1 0 3;adds weight*5-11;");
        d.x.hours(1);
        due("each is bounded by itself", 1 + 0 + 4, d.x.cell(0, 0, 2));
        d.with("pane 2 by 2 tough 9;heavy 0 0 0;heavy 1 1 0;heavy 1 0 4;adds weight+5;");
        onWith(d, 2, 1);
        due("of one that weighs 0", 5 + 4, d.x.cell(1, 0, 2));
        onWith(d, 5, 1);
        due("of two that weigh 0", 5 + 5 + 1, d.x.cell(0, 1, 2));
        onWith(d, 3, 1);
        due("of another weight between them", 9, d.x.cell(0, 0, 2));
        d.with("pane 2 by 2 tough 1;heavy 0 0 2;adds hour-5;");
        due("by the hour, in one run", 4, d.x.hours(20));
        due("the first", 0, d.x.kept(0, 0));
        due("two when adds is 1", 6, d.x.kept(1, 0));
        due("two when adds is 1", 6, d.x.kept(2, 0));
        due("the last", 7, d.x.kept(3, 0));
        d.with("pane 2 by 2 tough 1;heavy 0 0 2;adds hour-5;");
        due("ahead, too", 1, d.x.later(6, 0));
        due("ahead, too", 3, d.x.later(7, 0));
        d.with("pane 3 by 2 tough 1;heavy 0 0 2;heavy 2 1 2;adds cracks-2;heavy 1 1 0;");
        due("by the cracks, in one run", 2, d.x.hours(20));
        d.with("pane 3 by 2 tough 1;heavy 0 0 2;heavy 2 1 2;adds cracks-1;heavy 1 1 0;");
        due("by the cracks, in one run", 6, d.x.hours(20));
    }

    private static void slackBounds() {
        topic("SLACK .. is what all who HOLD LIFT of it, and tough, less its LOAD (also below 0)");
        Desk d = new Desk().with("pane 3 by 3 tough 0;heavy 1 1 99;adds 999;");
        due("ahead", -99, d.x.slack(1, 1));
        d.x.hours(1);
        due("the least", -99 - 4 * 999, d.x.slack(1, 1));
        d.with("pane 5 by 2 tough 99;fades 0;heavy 0 0 0;" + ten(5, 99));
        due("the greatest", 99 + 990, d.x.slack(0, 0));
        d.x.rest(9, 1);
        due("of all who hold", 99 + 891, d.x.slack(0, 0));
        d.with("pane 2 by 2 tough 1;heavy 0 0 0;heavy 1 0 2;");
        due("1", 1, d.x.slack(0, 0));
        due("-1", -1, d.x.slack(1, 0));
        due("0", 0, d.x.slack(0, 1));
    }

    private static void cracksBelowZero() {
        topic("FIRST all CELLS that are not CRACKED, the SLACK of which is below 0, CRACK, all by what is ahead");
        Desk d = new Desk().with("pane 2 by 2 tough 5;heavy 0 0 5;heavy 1 0 6;adds 0;");
        due("slack -1 cracks, 0 does not", 1, d.x.hours(1));
        due("0", 0, d.x.cell(0, 0, 1));
        due("-1", 1, d.x.cell(1, 0, 1));
        due("not once more", 0, d.x.hours(5));
        due("kept once", 1, d.x.has(7));
        d.with("pane 3 by 2 tough 1;heavy 0 0 2;adds 1;");
        int[] due = {1, 2, 2, 1, 0};
        for (int i = 0; i < 5; i++) {
            due("by what is ahead, hour " + i, due[i], d.x.hours(1));
        }
    }

    private static void heldByWhatIsAhead() {
        topic("THEN who HELD is tired by one more, who did not by one less");
        Desk d = new Desk().with("pane 2 by 2 tough 0;pole a at 0 0 lifts 0;pole b at 1 1 lifts 0;holds cracks=0 and hour=0;");
        d.x.rest(1, 1);
        due("all crack in this hour", 4, d.x.hours(1));
        due("he held ahead of it", 1, d.x.person(0, 3));
        due("one at rest did not", 0, d.x.person(1, 3));
        d.x.hours(1);
        due("he does not any more", 0, d.x.person(0, 3));
    }

    private static void tiredBounds() {
        topic("tired by one more (99 at most), who did not by one less (0 at least)");
        int[][] up = {{0, 1}, {1, 2}, {97, 98}, {98, 99}, {99, 99}};
        int[][] down = {{99, 98}, {2, 1}, {1, 0}, {0, 0}};
        for (int[] one : up) {
            Desk d = new Desk().with("pane 2 by 2 tough 9;pole a at 0 0 lifts 0;");
            due("on", true, onWith(d, 8, one[0]));
            due("later", one[1], d.x.later(1, 2));
            d.x.hours(1);
            due("more than " + one[0], one[1], d.x.person(0, 3));
        }
        for (int[] one : down) {
            Desk d = new Desk().with("pane 2 by 2 tough 9;pole a at 0 0 lifts 0;holds not all;");
            due("on", true, onWith(d, 8, one[0]));
            due("later", one[1], d.x.later(1, 2));
            d.x.hours(1);
            due("less than " + one[0], one[1], d.x.person(0, 3));
        }
        Desk d = new Desk().with("pane 5 by 2 tough 9;" + ten(5, 1));
        due("all as tired as can be", 990, d.x.hours(100) + d.x.later(60, 2));
        due("chance, too", 99, d.x.chance(100) + d.x.person(9, 3));
    }

    private static void hourBound() {
        topic("The HOUR is one more (999 at most)");
        Desk d = new Desk().with("pane 2 by 2 tough 0;heavy 0 0 0;heavy 0 1 0;heavy 1 1 0;adds hour-998;pole a at 1 0 lifts 1;holds hour<999;fades 0;");
        late(d, 997);
        int[] due = {998, 999, 999, 999};
        int[] cracked = {0, 0, 1, 2};
        for (int i = 0; i < 4; i++) {
            due("cracks in hour " + i, cracked[i], d.x.hours(1));
            due("HOUR", due[i], d.x.has(3));
        }
        due("kept at 999", 999, d.x.kept(0, 0));
        due("kept at 999 again", 999, d.x.kept(2, 0));
        late(d, 950);
        d.x.hours(49);
        due("49 from 950", 999, d.x.has(3));
        late(d, 950);
        d.x.chance(100);
        due("100 from 950", 999, d.x.has(3));
        d.x.undo();
        due("undone", 950, d.x.has(3));
    }

    private static void keptBound() {
        topic("KEPT is each CELL that CRACKS: HOUR, column, row; the last 40 are told; 12: the k-th from the oldest on; NONE when there is none such, or for others");
        Desk d = new Desk();
        due("without a pane", -1, d.x.kept(0, 0));
        d.with("pane 6 by 6 tough 0;");
        due("nothing", -1, d.x.kept(0, 0));
        due("36", 36, d.x.hours(1));
        for (int k = 0; k < 36; k++) {
            due("row by row", k % 6 + 10 * (k / 6), d.x.kept(k, 1) + 10 * d.x.kept(k, 2));
        }
        due("no 37th", -1, d.x.kept(36, 0));
        int[] mended = {35, 7, 20, 1};
        for (int place : mended) {
            d.x.mend(place % 6, place / 6);
        }
        due("four again", 4, d.x.hours(1));
        due("40", 40, d.x.has(7));
        due("the oldest", 0, d.x.kept(0, 0) * 100 + d.x.kept(0, 1) * 10 + d.x.kept(0, 2));
        due("the 40th", 155, d.x.kept(39, 0) * 100 + d.x.kept(39, 1) * 10 + d.x.kept(39, 2));
        due("the 37th", 110, d.x.kept(36, 0) * 100 + d.x.kept(36, 1) * 10 + d.x.kept(36, 2));
        d.x.mend(3, 3);
        d.x.hours(1);
        due("40 still", 40, d.x.has(7));
        due("the oldest has gone", 10, d.x.kept(0, 0) * 100 + d.x.kept(0, 1) * 10 + d.x.kept(0, 2));
        due("the 41st", 233, d.x.kept(39, 0) * 100 + d.x.kept(39, 1) * 10 + d.x.kept(39, 2));
        for (int k = 0; k < 35; k++) {
            due("each has moved", (k + 1) % 6 + 10 * ((k + 1) / 6), d.x.kept(k, 1) + 10 * d.x.kept(k, 2));
        }
        int[] again = {110, 111, 123, 155};
        for (int k = 35; k < 39; k++) {
            due("each has moved", again[k - 35], d.x.kept(k, 0) * 100 + d.x.kept(k, 1) * 10 + d.x.kept(k, 2));
        }
        for (int k : new int[] {-1, 40, LOW, HIGH}) {
            due("kept " + k, -1, d.x.kept(k, 0));
        }
        for (int what : new int[] {-1, 3, LOW, HIGH}) {
            due("kept 0 " + what, -1, d.x.kept(0, what));
        }
        d.x.undo();
        due("undone", 40, d.x.has(7));
        due("the oldest is back", 0, d.x.kept(0, 0) * 100 + d.x.kept(0, 1) * 10 + d.x.kept(0, 2));
        due("the 40th", 155, d.x.kept(39, 0) * 100 + d.x.kept(39, 1) * 10 + d.x.kept(39, 2));
    }

    private static void p6() {
        topic("6: How many there are .. NONE for others");
        Desk d = new Desk();
        for (int what : new int[] {-1, 10, LOW, HIGH}) {
            due("has " + what, -1, d.x.has(what));
        }
        has(d, 0, 0, 0, 0, 0, 0, 0, 0, 0, 0);
        d.with("pane 6 by 6 tough 0;" + ten(6, 0) + "holds hour<999;");
        has(d, 6, 6, 10, 0, 0, 10, 0, 0, 0, 0);
        late(d, 999);
        d.x.hours(1);
        for (int i = 0; i < 10; i++) {
            d.x.rest(i, 1);
        }
        d.x.mend(0, 0);
        d.x.mend(1, 0);
        d.x.mend(2, 0);
        d.x.mend(3, 0);
        d.x.hours(1);
        for (int i = 0; i < 3; i++) {
            d.x.go(0, 0, 5);
            d.x.go(0, 0, 0);
        }
        d.bytes(new int[48]);
        d.x.sound();
        has(d, 6, 6, 10, 999, 36, 0, 10, 40, 12, 20);
        for (int what : new int[] {-1, 10, LOW, HIGH}) {
            due("has " + what, -1, d.x.has(what));
        }
    }

    private static void p7() {
        topic("7: Letter k (0 .. 5) of the NAME of a PERSON: 1 .. 26; 0 behind it; NONE when there is none such");
        Desk d = new Desk();
        due("without a pane", -1, d.x.letter(0, 0));
        d.with("pane 2 by 2 tough 0;");
        due("nobody", -1, d.x.letter(0, 0));
        d.with("pane 3 by 2 tough 0;pole z at 0 0 lifts 0;pole azazaz at 1 0 lifts 0;pole zzzzzz at 2 0 lifts 0;pole abcde at 2 1 lifts 0;");
        int[][] due = {{26, 0, 0, 0, 0, 0}, {1, 26, 1, 26, 1, 26}, {26, 26, 26, 26, 26, 26}, {1, 2, 3, 4, 5, 0}};
        for (int p = 0; p < 4; p++) {
            for (int k = 0; k < 6; k++) {
                due("letter " + p + " " + k, due[p][k], d.x.letter(p, k));
            }
            for (int k : new int[] {-1, 6, 7, LOW, HIGH}) {
                due("letter " + p + " " + k, -1, d.x.letter(p, k));
            }
        }
        for (int p : new int[] {-1, 4, 10, LOW, HIGH}) {
            due("letter of " + p, -1, d.x.letter(p, 0));
        }
    }

    private static void p8() {
        topic("8, 9: Of a CELL .. NONE (NOTHING) when there is none such, or for others");
        Desk d = new Desk();
        due("without a pane", -1, d.x.cell(0, 0, 0));
        due("without a pane", OnePane.NOTHING, d.x.slack(0, 0));
        d.with("pane 2 by 3 tough 4;heavy 1 2 7;pole a at 1 2 lifts 0;");
        int[] due = {7, 0, 7, 0, -1};
        for (int what = 0; what < 5; what++) {
            due("the last cell", due[what], d.x.cell(1, 2, what));
        }
        due("the last cell", -3, d.x.slack(1, 2));
        due("the first cell", 3, d.x.slack(0, 0));
        due("none stands there", -1, d.x.cell(0, 0, 3));
        for (int what : new int[] {-1, 4, LOW, HIGH}) {
            due("cell what " + what, -1, d.x.cell(0, 0, what));
        }
        int[][] none = {{2, 0}, {0, 3}, {2, 1}, {-1, 0}, {0, -1}, {-1, 1}, {2, -1}, {LOW, 0}, {HIGH, 0}, {0, LOW}, {0, HIGH}, {HIGH, HIGH}};
        for (int[] at : none) {
            for (int what = 0; what < 4; what++) {
                due("cell " + at[0] + " " + at[1], -1, d.x.cell(at[0], at[1], what));
            }
            due("slack " + at[0] + " " + at[1], OnePane.NOTHING, d.x.slack(at[0], at[1]));
        }
    }

    private static void p10() {
        topic("10, 11: Of a PERSON .. NONE when there is none such, or for others");
        Desk d = new Desk();
        due("without a pane", -1, d.x.person(0, 0));
        due("without a pane", -1, d.x.lifts(0, 0, 0));
        d.with("pane 2 by 3 tough 4;");
        due("nobody", -1, d.x.person(0, 0));
        due("nobody", -1, d.x.lifts(0, 0, 0));
        d.with("pane 5 by 2 tough 4;" + ten(5, 99));
        int[] due = {4, 1, 99, 0, 1, 0};
        for (int what = 0; what < 6; what++) {
            due("the last one", due[what], d.x.person(9, what));
        }
        for (int what : new int[] {-1, 6, LOW, HIGH}) {
            due("person what " + what, -1, d.x.person(9, what));
        }
        for (int p : new int[] {-1, 10, LOW, HIGH}) {
            for (int what = 0; what < 6; what++) {
                due("person " + p, -1, d.x.person(p, what));
            }
            due("lifts " + p, -1, d.x.lifts(p, 0, 0));
        }
        int[][] none = {{5, 0}, {0, 2}, {-1, 1}, {0, -1}, {LOW, 0}, {HIGH, 0}, {0, LOW}, {0, HIGH}};
        for (int[] at : none) {
            due("lifts of " + at[0] + " " + at[1], -1, d.x.lifts(9, at[0], at[1]));
        }
        due("HOLDING", 99, d.x.lifts(9, 4, 1));
        d.x.rest(9, 1);
        due("or not", 99, d.x.lifts(9, 4, 1));
        due("holds no more", 0, d.x.person(9, 4));
        due("at rest", 1, d.x.person(9, 5));
    }

    /** One lifts 2 of a cell with tough 3 and this weight, so that 5 leaves no slack. */
    private static void exactlyBorne(Desk d, int weight) {
        d.with("pane 2 by 2 tough 3;pole a at 0 0 lifts 4;fades 2;adds 0;heavy 1 0 " + weight + ";");
    }

    private static void p13() {
        topic("13: Behind n HOURS AHEAD (0 .. 60) .. NONE when n can't be, without a pane, or for others; AHEAD (60 at most, not beyond HOUR 999)");
        Desk d = new Desk();
        for (int what = 0; what < 3; what++) {
            due("without a pane", -1, d.x.later(0, what));
            due("without a pane", -1, d.x.later(60, what));
        }
        d.with("pane 2 by 2 tough 0;heavy 0 0 0;heavy 0 1 0;heavy 1 1 0;adds 0;pole a at 0 0 lifts 1;fades 0;holds hour<59;");
        due("0", 0, d.x.later(0, 0));
        due("who holds now", 1, d.x.later(0, 1));
        due("not tired now", 0, d.x.later(0, 2));
        due("59", 0, d.x.later(59, 0));
        due("59", 59, d.x.later(59, 2));
        due("60", 1, d.x.later(60, 0));
        due("60", 0, d.x.later(60, 1));
        due("60", 58, d.x.later(60, 2));
        for (int n : new int[] {-1, 61, LOW, HIGH}) {
            for (int what = 0; what < 3; what++) {
                due("later " + n, -1, d.x.later(n, what));
            }
        }
        exactlyBorne(d, 5);
        due("slack 0 is borne ahead", 0, d.x.later(1, 0));
        exactlyBorne(d, 6);
        due("slack -1 is not", 1, d.x.later(1, 0));
        exactlyBorne(d, 5);
        for (int what : new int[] {-1, 3, LOW, HIGH}) {
            due("later 0 " + what, -1, d.x.later(0, what));
            due("later 60 " + what, -1, d.x.later(60, what));
        }
        d.with("pane 2 by 2 tough 0;heavy 0 0 0;heavy 0 1 0;heavy 1 1 0;adds 0;pole a at 0 0 lifts 1;fades 0;holds hour<59;");
        late(d, 939);
        due("to HOUR 999", 1, d.x.later(60, 0));
        late(d, 940);
        due("to HOUR 999", 1, d.x.later(59, 0));
        due("beyond", -1, d.x.later(60, 0));
        late(d, 998);
        due("to HOUR 999", 1, d.x.later(1, 0));
        due("beyond", -1, d.x.later(2, 0));
        late(d, 999);
        due("none ahead", 0, d.x.later(0, 0));
        due("beyond", -1, d.x.later(1, 0));
    }

    private static void p14() {
        topic("14: In which HOUR AHEAD (1 and on) a CELL CRACKS next; NONE when none does, or without a pane");
        Desk d = new Desk();
        due("without a pane", -1, d.x.next());
        for (int n : new int[] {1, 2, 59, 60, 61}) {
            d.with("pane 2 by 2 tough 0;pole a at 0 0 lifts 9;fades 0;holds hour<" + (n - 1) + ";");
            due("the hour " + n, n <= 60 ? n : -1, d.x.next());
        }
        exactlyBorne(d, 5);
        due("slack 0 is borne ahead", -1, d.x.next());
        exactlyBorne(d, 6);
        due("slack -1 is not", 1, d.x.next());
        d.with("pane 2 by 2 tough 1;");
        due("none", -1, d.x.next());
        d.with("pane 2 by 2 tough 0;");
        d.x.hours(1);
        due("all cracked", -1, d.x.next());
        d.with("pane 2 by 2 tough 0;pole a at 0 0 lifts 9;fades 0;holds hour<998;");
        late(d, 938);
        due("the hour that passes at 998 is the 61st", -1, d.x.next());
        late(d, 939);
        due("the 60th", 60, d.x.next());
        late(d, 998);
        due("the last", 1, d.x.next());
        late(d, 999);
        due("none is ahead", -1, d.x.next());
        d.with("pane 2 by 2 tough 0;pole a at 0 0 lifts 9;fades 0;holds hour<999;");
        late(d, 990);
        due("not beyond HOUR 999", -1, d.x.next());
    }

    private static void p15() {
        topic("15: LASTING, n HOURS AHEAD (1 .. 30): the number (0 .. 99); NONE when 99 is not enough, n can't be, or without a pane");
        Desk d = new Desk();
        due("without a pane", -1, d.x.lasts(1));
        int[][] cases = {{1, 0, 0}, {1, 1, 0}, {1, 2, 1}, {1, 99, 98}, {0, 99, 99}};
        for (int[] one : cases) {
            d.with("pane 2 by 2 tough 0;pole a at 0 0 lifts " + one[0] + ";fades 0;heavy 0 0 " + one[1] + ";heavy 0 1 0;heavy 1 1 0;heavy 1 0 0;");
            due("lifts " + one[0] + " heavy " + one[1], one[2], d.x.lasts(1));
        }
        d.with("pane 2 by 2 tough 0;pole a at 0 0 lifts 0;fades 1;heavy 1 0 98;heavy 0 0 0;heavy 0 1 0;heavy 1 1 0;");
        due("99", 99, d.x.lasts(30));
        d.with("pane 2 by 2 tough 0;pole a at 0 0 lifts 0;fades 1;heavy 1 0 99;heavy 0 0 0;heavy 0 1 0;heavy 1 1 0;");
        due("99 is not enough", -1, d.x.lasts(30));
        d.with("pane 2 by 2 tough 0;");
        due("nobody to be stronger", -1, d.x.lasts(1));
        d.with("pane 2 by 2 tough 1;");
        due("nobody is needed", 0, d.x.lasts(30));
        for (int n : new int[] {0, -1, 31, LOW, HIGH}) {
            due("lasts " + n, -1, d.x.lasts(n));
        }
        d.with("pane 2 by 2 tough 0;pole a at 0 0 lifts 9;fades 0;holds hour<29;");
        due("29 hours", 0, d.x.lasts(29));
        due("the 30th", -1, d.x.lasts(30));
        d.with("pane 2 by 2 tough 1;");
        late(d, 969);
        due("to HOUR 999", 0, d.x.lasts(30));
        late(d, 970);
        due("beyond", -1, d.x.lasts(30));
        due("to HOUR 999", 0, d.x.lasts(29));
        late(d, 999);
        due("none is ahead", -1, d.x.lasts(1));
        d.with("pane 2 by 2 tough 0;pole a at 0 0 lifts 0;fades 0;holds lifts<5;heavy 0 0 4;");
        due("also where lifts is asked", 4, d.x.lasts(1));
        d.with("pane 2 by 2 tough 0;pole a at 0 0 lifts 0;fades 0;holds lifts<4;heavy 0 0 4;");
        due("he is too strong to hold", -1, d.x.lasts(1));
        d.with("pane 2 by 2 tough 0;pole a at 0 0 lifts 1;pole b at 1 1 lifts 3;fades 2;");
        due("faded to 0 at least", 0, d.x.lasts(1));
    }

    private static void p16() {
        topic("16: FREE .. each by whose letting go alone in this HOUR no CELL more CRACKS in it");
        due("without a pane", 0, new OnePane().free());
        Desk d = new Desk().with("pane 2 by 2 tough 0;");
        due("nobody", 0, d.x.free());
        d.with("pane 2 by 2 tough 3;pole a at 0 0 lifts 5;fades 0;heavy 0 0 3;");
        due("slack 0 is left", 1, d.x.free());
        d.with("pane 2 by 2 tough 3;pole a at 0 0 lifts 5;fades 0;heavy 0 0 4;");
        due("slack -1 is left", 0, d.x.free());
        d.with("pane 2 by 2 tough 3;pole a at 0 0 lifts 5;fades 0;heavy 0 0 8;");
        due("slack 0 with him", 0, d.x.free());
        d.with("pane 2 by 2 tough 3;pole a at 0 0 lifts 5;fades 0;heavy 0 0 9;");
        due("it cracks anyway", 1, d.x.free());
        d.x.hours(1);
        d.with("pane 2 by 2 tough 3;pole a at 0 0 lifts 5;fades 0;heavy 0 0 9;adds 0;");
        d.x.hours(1);
        due("it is cracked", 1, d.x.free());
        d.with("pane 2 by 2 tough 0;pole a at 0 0 lifts 1;pole b at 1 0 lifts 1;fades 0;");
        due("each alone", 3, d.x.free());
        d.x.rest(1, 1);
        due("not the one at rest", 0, d.x.free());
        d.with("pane 2 by 2 tough 9;pole a at 0 0 lifts 1;pole b at 1 0 lifts 2;holds lifts=2;");
        due("who holds now", 2, d.x.free());
        d.with("pane 5 by 2 tough 1;" + ten(5, 9));
        due("all ten", 1023, d.x.free());
        String three = "pane 3 by 2 tough 2;pole a at 0 0 lifts 3;pole b at 1 0 lifts 4;pole c at 2 1 lifts 5;fades 2;";
        d.with(three + "heavy 0 0 5;");
        due("a 3 and b 2 lift of 0 0, c 0: 2 less than that is left", 6, d.x.free());
        d.with(three + "heavy 0 0 6;");
        due("1 is left: c alone", 4, d.x.free());
        d.with(three + "heavy 2 1 7;heavy 1 1 6;");
        due("c lifts 5 of 2 1, and 3 of 1 1, a and b 1, 0 and 2", 1, d.x.free());
    }

    private static void p17() {
        topic("17: NEEDED, as bits; NONE when all are not enough, or without a pane");
        due("without a pane", -1, new OnePane().needed());
        Desk d = new Desk().with("pane 2 by 2 tough 1;");
        due("nobody is needed", 0, d.x.needed());
        d.with("pane 2 by 2 tough 0;");
        due("nobody is there", -1, d.x.needed());
        d.with("pane 5 by 2 tough 1;" + ten(5, 9));
        due("none of ten is needed", 0, d.x.needed());
        d.with("pane 5 by 2 tough 0;fades 0;" + ten(5, 9) + "heavy 0 0 90;");
        due("all ten", 1023, d.x.needed());
        d.with("pane 5 by 2 tough 0;fades 0;" + ten(5, 9) + "heavy 0 0 91;");
        due("all are not enough", -1, d.x.needed());
        d.with("pane 5 by 2 tough 0;fades 0;" + ten(5, 9) + "heavy 0 0 81;");
        due("nine of least bits", 511, d.x.needed());
        d.x.rest(0, 1);
        due("nine without a", 1022, d.x.needed());
        d.x.rest(9, 1);
        due("eight are not enough", -1, d.x.needed());
        d.with("pane 5 by 2 tough 0;fades 0;holds not all;" + ten(5, 9) + "heavy 0 0 9;");
        due("whether the test holds or not", 1, d.x.needed());
        d.with("pane 2 by 2 tough 0;pole a at 0 0 lifts 1;pole b at 1 0 lifts 1;pole c at 0 1 lifts 2;fades 0;heavy 0 0 2;");
        due("the fewest, not the least bits", 4, d.x.needed());
        d.with("pane 2 by 2 tough 0;pole a at 0 0 lifts 1;pole b at 1 0 lifts 2;pole c at 0 1 lifts 2;fades 0;heavy 0 0 2;");
        due("of like ones the least bits", 2, d.x.needed());
        d.with("pane 2 by 2 tough 0;pole a at 0 0 lifts 1;heavy 0 0 9;fades 0;adds 0;");
        d.x.hours(1);
        due("the cracked one is not asked", 1, d.x.needed());
    }

    private static void stand(Desk d, int person, int column, int row, int count) {
        due("stand column", column, d.x.stand(person, 0));
        due("stand row", row, d.x.stand(person, 1));
        due("stand count", count, d.x.stand(person, 2));
    }

    private static void p18() {
        topic("18: To STAND .. NONE when he is at REST, there is none such, or for others");
        Desk d = new Desk();
        stand(d, 0, -1, -1, -1);
        d.with("pane 2 by 2 tough 0;");
        stand(d, 0, -1, -1, -1);
        d.with("pane 2 by 2 tough 0;pole a at 0 0 lifts 1;pole b at 1 0 lifts 2;pole c at 0 1 lifts 3;pole d at 1 1 lifts 4;");
        stand(d, 3, 1, 1, 0);
        stand(d, 0, 0, 0, 0);
        for (int p : new int[] {-1, 4, LOW, HIGH}) {
            stand(d, p, -1, -1, -1);
        }
        for (int what : new int[] {-1, 3, LOW, HIGH}) {
            due("stand what " + what, -1, d.x.stand(0, what));
        }
        d.x.rest(3, 1);
        stand(d, 3, -1, -1, -1);
        d.x.rest(3, 0);
        stand(d, 3, 1, 1, 0);
        topic("18: from which .. fewest CELLS CRACK in this HOUR");
        d.with("pane 3 by 2 tough 0;pole a at 0 0 lifts 3;fades 2;heavy 0 1 0;heavy 1 1 0;heavy 2 1 0;heavy 0 0 3;heavy 1 0 1;heavy 2 0 1;");
        stand(d, 0, 0, 0, 1);
        d.with("pane 3 by 2 tough 0;pole a at 2 1 lifts 3;fades 2;heavy 0 1 0;heavy 1 1 0;heavy 2 1 0;heavy 0 0 3;heavy 1 0 1;heavy 2 0 1;holds not all;");
        stand(d, 0, 0, 0, 1);
        d.with("pane 3 by 2 tough 0;pole a at 0 0 lifts 2;fades 2;heavy 2 0 0;heavy 0 1 0;heavy 1 1 0;heavy 2 1 2;heavy 0 0 1;heavy 1 0 4;");
        stand(d, 0, 0, 0, 2);
        d.with("pane 3 by 2 tough 0;pole a at 0 0 lifts 2;fades 1;heavy 0 0 3;heavy 2 0 2;heavy 0 1 3;heavy 1 1 1;heavy 2 1 0;");
        stand(d, 0, 1, 0, 3);
        topic("18: of like ones by the greatest SLACK of the CELL, not CRACKED ahead of it, that has least then, of like ones the first, row by row");
        d.with("pane 3 by 2 tough 9;pole a at 0 0 lifts 3;fades 2;heavy 2 1 3;");
        stand(d, 0, 2, 1, 0);
        d.with("pane 3 by 2 tough 0;pole a at 0 0 lifts 3;fades 3;heavy 0 0 9;heavy 1 0 9;heavy 2 0 9;heavy 0 1 9;heavy 1 1 9;heavy 2 1 12;");
        stand(d, 0, 2, 1, 6);
        d.with("pane 3 by 2 tough 0;pole a at 2 1 lifts 3;fades 3;heavy 1 0 9;heavy 0 1 8;");
        stand(d, 0, 0, 0, 5);
        d.with("pane 3 by 2 tough 9;pole a at 2 1 lifts 0;");
        stand(d, 0, 0, 0, 0);
        d.with("pane 3 by 2 tough 9;pole a at 2 1 lifts 0;pole b at 0 0 lifts 0;");
        stand(d, 0, 1, 0, 0);
        d.with("pane 3 by 2 tough 2;pole a at 0 0 lifts 3;fades 2;heavy 2 1 9;heavy 0 1 2;adds 0;");
        d.x.hours(1);
        due("2 1 is cracked", 1, d.x.cell(2, 1, 1));
        stand(d, 0, 0, 0, 0);
        d.with("pane 2 by 2 tough 0;pole a at 1 1 lifts 9;");
        d.x.rest(0, 1);
        d.x.hours(1);
        d.x.rest(0, 0);
        stand(d, 0, 0, 0, 0);
    }

    private static void p19() {
        topic("19: WEAK .. NONE when all are CRACKED, without a pane, or for others");
        Desk d = new Desk();
        due("without a pane", -1, d.x.weak(0));
        due("without a pane", -1, d.x.weak(1));
        d.with("pane 2 by 3 tough 0;heavy 0 2 3;heavy 1 1 3;adds 0;");
        due("of like ones the first", 1, d.x.weak(0));
        due("of like ones the first", 1, d.x.weak(1));
        for (int what : new int[] {-1, 2, 3, LOW, HIGH}) {
            due("weak " + what, -1, d.x.weak(what));
        }
        d.x.hours(1);
        due("all are cracked", -1, d.x.weak(0));
        due("all are cracked", -1, d.x.weak(1));
        d.x.mend(1, 2);
        due("the only one", 1, d.x.weak(0));
        due("the only one", 2, d.x.weak(1));
        d.with("pane 2 by 3 tough 0;");
        due("all alike: the first", 0, d.x.weak(0) + d.x.weak(1));
        d.with("pane 2 by 3 tough 9;heavy 1 2 2;");
        due("the last", 1, d.x.weak(0));
        due("the last", 2, d.x.weak(1));
        for (int i = 0; i < 36; i++) {
            d.with("pane 6 by 6 tough 9;heavy " + i % 6 + " " + i / 6 + " 2;");
            due("column", i % 6, d.x.weak(0));
            due("row", i / 6, d.x.weak(1));
        }
        for (int i = 0; i < 15; i++) {
            d.with("pane 3 by 5 tough 9;heavy " + i % 3 + " " + i / 3 + " 2;");
            due("column", i % 3, d.x.weak(0));
            due("row", i / 3, d.x.weak(1));
        }
    }

    private static void mends(Desk d, int n, int column, int row, int count) {
        due("mends column", column, d.x.mends(n, 0));
        due("mends row", row, d.x.mends(n, 1));
        due("mends count", count, d.x.mends(n, 2));
    }

    private static void p20() {
        topic("20: MENDED first, n HOURS AHEAD (1 .. 30) .. NONE when none is CRACKED, n can't be, without a pane, or for others");
        Desk d = new Desk();
        mends(d, 1, -1, -1, -1);
        d.with("pane 2 by 2 tough 0;heavy 0 0 0;adds 0;");
        mends(d, 1, -1, -1, -1);
        d.x.hours(1);
        mends(d, 1, 1, 0, 3);
        mends(d, 30, 1, 0, 3);
        for (int n : new int[] {0, -1, 31, LOW, HIGH}) {
            mends(d, n, -1, -1, -1);
        }
        for (int what : new int[] {-1, 3, LOW, HIGH}) {
            due("mends 1 " + what, -1, d.x.mends(1, what));
        }
        late(d, 969);
        mends(d, 30, 1, 0, 3);
        late(d, 970);
        mends(d, 30, -1, -1, -1);
        mends(d, 29, 1, 0, 3);
        late(d, 999);
        mends(d, 1, -1, -1, -1);
        d.with("pane 2 by 2 tough 1;heavy 1 1 2;pole a at 0 0 lifts 1;holds hour>0 and hour<30;fades 0;");
        d.x.hours(1);
        due("1 1 alone", 1, d.x.has(4));
        mends(d, 29, 1, 1, 0);
        mends(d, 30, 1, 1, 1);
        topic("20: by the mending of which, now, fewest are CRACKED behind n HOURS AHEAD; of like ones the first");
        d.with("pane 2 by 2 tough 5;heavy 0 0 6;heavy 1 0 7;heavy 1 1 8;adds 0;pole a at 0 0 lifts 1;holds hour>0;fades 0;");
        d.x.hours(1);
        due("three", 3, d.x.has(4));
        mends(d, 1, 0, 0, 2);
        d.with("pane 2 by 2 tough 5;heavy 0 0 8;heavy 1 0 7;heavy 1 1 6;adds 0;pole a at 0 0 lifts 1;holds hour>0;fades 0;");
        d.x.hours(1);
        mends(d, 1, 1, 1, 2);
        d.with("pane 2 by 2 tough 5;heavy 0 0 8;heavy 1 0 7;heavy 1 1 6;adds 0;pole a at 0 0 lifts 9;holds hour>0;fades 0;");
        d.x.hours(1);
        mends(d, 1, 0, 0, 2);
    }

    private static void who(Desk d, int count, int all, int some) {
        due("who(0)", count, d.x.who(0));
        due("who(1)", all, d.x.who(1));
        due("who(2)", some, d.x.who(2));
    }

    private static int sound(Desk d, int column, int row, int slack) {
        d.bytes(column, row, slack + 500 >> 8, slack + 500 & 255);
        return d.x.sound();
    }

    private static void p21() {
        topic("21: SOUNDS, 1 to 12 rows of four bytes: how many rows; NONE, refused (1), all staying, when it is none such (CELLS that there are)");
        int[] lengths = {0, 1, 2, 3, 5, 6, 7, 43, 45, 46, 47, 49, 50, 51, 52, 56, 1600};
        for (int length : lengths) {
            View.stays(length + " bytes", 1, true, EdgeTownTest::sounded, d -> {
                d.bytes(new int[length]);
                due("sound of " + length, -1, d.x.sound());
            });
        }
        int[][] none = {{3, 0}, {0, 2}, {255, 0}, {0, 255}};
        for (int[] at : none) {
            View.stays("no cell", 1, true, EdgeTownTest::sounded, d -> {
                d.bytes(0, 0, 1, 1, at[0], at[1], 1, 244);
                due("sound of " + at[0] + " " + at[1], -1, d.x.sound());
            });
            View.stays("no cell first", 1, true, EdgeTownTest::sounded, d -> {
                d.bytes(at[0], at[1], 1, 244, 0, 0, 1, 1);
                due("sound of " + at[0] + " " + at[1], -1, d.x.sound());
            });
            View.stays("no cell alone", 1, true, EdgeTownTest::sounded, d -> {
                d.bytes(at[0], at[1], 1, 244);
                due("sound of " + at[0] + " " + at[1], -1, d.x.sound());
            });
        }
        View.stays("without a pane", 1, true, d -> d.x.seed(5), d -> {
            d.bytes(0, 0, 1, 244);
            due("sound without a pane", -1, d.x.sound());
        });
        Desk d = new Desk();
        sounded(d);
        for (int rows = 1; rows <= 12; rows++) {
            d.bytes(new int[4 * rows]);
            due("sound", rows, d.x.sound());
            due("rows", rows, d.x.has(8));
            due("the tape goes", 20, d.x.feed(0, 0, 0, 0, 0));
            d.x.end(0);
        }
        due("the last cell", 1, sound(d, 2, 1, 0));
        due("the new ones alone", 1, d.x.has(8));
    }

    /** TOWN with something of everything: hours, one at rest, sounds, acts, an image. */
    static void sounded(Desk d) {
        d.with(TOWN);
        d.x.seed(77);
        d.x.hours(3);
        d.x.rest(1, 1);
        d.x.go(0, 1, 1);
        sound(d, 0, 0, 3);
        d.x.image();
        d.x.chance(2);
    }

    private static void soundBytes() {
        topic("SOUNDS are rows of column, row, SLACK and 500 (two bytes, the higher first): sets of PEOPLE who may HOLD (any not at REST) by which all is so");
        Desk d = new Desk().with("pane 2 by 2 tough 0;heavy 0 0 2;heavy 1 0 2;heavy 0 1 2;heavy 1 1 2;adds 249;");
        d.x.hours(1);
        due("slack", -500, d.x.slack(0, 0));
        d.bytes(0, 0, 0, 0);
        due("-500", 1, d.x.sound());
        who(d, 1, 0, 0);
        d.bytes(0, 0, 0, 1);
        d.x.sound();
        who(d, 0, 0, 0);
        d.with("pane 5 by 2 tough 99;fades 0;heavy 0 0 0;holds not all;" + ten(5, 99));
        d.bytes(0, 0, 1589 >> 8, 1589 & 255);
        d.x.sound();
        who(d, 1, 1023, 1023);
        d.bytes(0, 0, 1590 >> 8, 1590 & 255);
        d.x.sound();
        who(d, 0, 0, 0);
        d.bytes(0, 0, 255, 255);
        d.x.sound();
        who(d, 0, 0, 0);
        sound(d, 0, 0, 99);
        who(d, 1, 0, 0);
        sound(d, 0, 0, 198);
        who(d, 10, 0, 1023);
        d.x.rest(4, 1);
        who(d, 9, 0, 1023 - 16);
        sound(d, 0, 0, 99 + 9 * 99);
        who(d, 1, 1023 - 16, 1023 - 16);
        d.bytes(0, 0, 990 + 500 >> 8, 990 + 500 & 255, 1, 0, 989 + 500 >> 8, 989 + 500 & 255);
        d.x.sound();
        who(d, 1, 1023 - 16, 1023 - 16);
        d.bytes(0, 0, 990 + 500 >> 8, 990 + 500 & 255, 1, 0, 990 + 500 >> 8, 990 + 500 & 255);
        d.x.sound();
        who(d, 0, 0, 0);
        d.x.rest(0, 1);
        sound(d, 0, 0, 990);
        who(d, 0, 0, 0);
        d.x.rest(0, 0);
        who(d, 1, 1023 - 16, 1023 - 16);
    }

    private static void p22() {
        topic("22: Sets by SOUNDS (all, if nothing is told): how many, PEOPLE in all of them (0 without), in some. NONE without a pane, or for others");
        Desk d = new Desk();
        who(d, -1, -1, -1);
        d.with("pane 2 by 2 tough 0;");
        who(d, 1, 0, 0);
        d.with("pane 5 by 2 tough 0;" + ten(5, 1));
        who(d, 1024, 0, 1023);
        for (int p = 0; p < 10; p++) {
            d.x.rest(p, 1);
            who(d, 1 << 9 - p, 0, 1023 & ~((2 << p) - 1));
        }
        for (int what : new int[] {-1, 3, LOW, HIGH}) {
            due("who " + what, -1, d.x.who(what));
        }
        d.with("pane 2 by 2 tough 0;pole a at 0 0 lifts 1;fades 0;");
        sound(d, 0, 0, 0);
        who(d, 1, 1, 1);
        sound(d, 0, 0, -1);
        who(d, 1, 0, 0);
        sound(d, 0, 0, 1);
        who(d, 0, 0, 0);
        due("who 3", -1, d.x.who(3));
    }

    private static void knock(Desk d, int column, int row, int most) {
        due("knock(0)", column, d.x.knock(0));
        due("knock(1)", row, d.x.knock(1));
        due("knock(2)", most, d.x.knock(2));
    }

    private static void p23() {
        topic("23: KNOCK .. NONE without a set, when all are CRACKED, without a pane, or for others");
        Desk d = new Desk();
        knock(d, -1, -1, -1);
        d.with("pane 2 by 2 tough 0;");
        knock(d, 0, 0, 1);
        sound(d, 0, 0, 0);
        knock(d, -1, -1, -1);
        sound(d, 0, 0, -1);
        knock(d, 0, 0, 1);
        d.x.hours(1);
        knock(d, -1, -1, -1);
        d.with("pane 2 by 2 tough 0;pole a at 0 0 lifts 1;");
        for (int what : new int[] {-1, 3, LOW, HIGH}) {
            due("knock " + what, -1, d.x.knock(what));
        }
        topic("23: KNOCK at the CELL, not CRACKED, by whose SLACK, whatever it is, the most sets left are fewest; of like ones the first");
        knock(d, 0, 0, 1);
        d.with("pane 2 by 2 tough 0;pole a at 1 1 lifts 1;");
        knock(d, 1, 1, 1);
        d.with("pane 2 by 2 tough 0;pole a at 1 1 lifts 4;fades 1;");
        knock(d, 0, 0, 1);
        d.with("pane 2 by 2 tough 0;pole a at 0 0 lifts 4;heavy 0 0 9;adds 0;heavy 1 0 0;heavy 0 1 0;heavy 1 1 0;fades 1;");
        d.x.hours(1);
        due("0 0 is cracked", 1, d.x.cell(0, 0, 1) * d.x.has(4));
        knock(d, 1, 0, 1);
        d.with("pane 5 by 2 tough 0;fades 0;" + ten(5, 99));
        knock(d, 0, 0, 252);
        sound(d, 4, 1, 989);
        who(d, 1, 1023, 1023);
        knock(d, 0, 0, 1);
        d.with("pane 5 by 2 tough 0;fades 0;" + ten(5, 0));
        knock(d, 0, 0, 1024);
        d.with("pane 5 by 2 tough 0;fades 99;" + ten(5, 9));
        knock(d, 0, 0, 512);
        d.with("pane 2 by 2 tough 0;pole a at 0 0 lifts 2;pole b at 1 0 lifts 2;fades 1;");
        knock(d, 0, 0, 1);
        sound(d, 0, 1, -1);
        who(d, 2, 0, 2);
        d.with("pane 2 by 2 tough 0;pole a at 0 0 lifts 2;pole b at 1 0 lifts 2;fades 2;");
        sound(d, 1, 1, -1);
        who(d, 4, 0, 3);
        knock(d, 0, 0, 2);
        sound(d, 0, 0, 1);
        who(d, 2, 1, 3);
        knock(d, 1, 0, 1);
    }

    private static void askingChangesNothing() {
        topic("AHEAD are HOURS as they come from now on without DRAWS: what only asks changes nothing");
        View.stays("all that asks", OnePane.NONE, false, EdgeTownTest::sounded, d -> {
            for (int what = -1; what < 11; what++) {
                d.x.has(what);
                d.x.later(60, what);
                d.x.mends(30, what);
                d.x.stand(0, what);
                d.x.who(what);
                d.x.knock(what);
                d.x.weak(what);
                d.x.person(0, what);
                d.x.cell(0, 0, what);
                d.x.kept(0, what);
                d.x.fault(what);
                d.x.status(what);
                d.x.octet(what);
                d.x.letter(0, what);
            }
            d.x.next();
            d.x.lasts(30);
            d.x.free();
            d.x.needed();
            d.x.slack(0, 0);
            d.x.lifts(0, 0, 0);
        });
    }

    public static void main(String[] args) {
        nextTo();
        atFirst();
        holdsIf();
        liftsZero();
        addsBounds();
        slackBounds();
        cracksBelowZero();
        heldByWhatIsAhead();
        tiredBounds();
        hourBound();
        keptBound();
        p6();
        p7();
        p8();
        p10();
        p13();
        p14();
        p15();
        p16();
        p17();
        p18();
        p19();
        p20();
        p21();
        soundBytes();
        p22();
        p23();
        askingChangesNothing();
        Desk.close("edges of the town");
    }
}
