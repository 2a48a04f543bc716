import java.util.Arrays;
import java.util.function.Consumer;

/** Acts, the tape, questions and images: promises 1 to 5, 24 to 35 and what Terms say of them, each edge with a test of its own. */
public final class EdgeActTest extends PromiseBase {
    private static final int LOW = Integer.MIN_VALUE;
    private static final int HIGH = Integer.MAX_VALUE;

    private static int draw(long[] seed, int range) {
        seed[0] = (1103515245L * seed[0] + 12345L) % 2147483648L;
        return (int) (seed[0] / 64 % range);
    }

    /** The least seed whose first draw of 100 is this, or whose second draw, of a range, is that; -1 asks for none. */
    private static int seedFor(int first, int range, int second) {
        for (int seed = 0;; seed++) {
            long[] x = {seed};
            boolean fits = draw(x, 100) == first || first < 0;
            if (fits && (second < 0 || draw(x, range) == second)) {
                return seed;
            }
        }
    }

    private static void refusedOf(String call, int kind, Consumer<Desk> refused) {
        View.stays(call, kind, false, EdgeTownTest::sounded, refused);
        View.stays(call + " without a pane", kind, false, d -> d.x.seed(5), refused);
    }

    private static void p1() {
        topic("1: No pane, nobody");
        Desk d = new Desk();
        has(d, 0, 0, 0, 0, 0, 0, 0, 0, 0, 0);
        due("the tape is empty", false, d.x.end(1));
        due("the tape is empty", true, d.x.end(0));
        due("no pane", -1, d.x.later(0, 0));
        due("nobody", -1, d.x.person(0, 0));
        due("no image", -1, d.x.octet(0));
        due("nothing to undo", false, d.x.undo());
        for (int what = 0; what < 6; what++) {
            due("refused " + what, what == 0 || what == 4 ? 1 : 0, d.x.status(what));
        }
    }

    private static void p2() {
        topic("2: Twenty bytes come behind those on the tape, of each number the highest first: how many; NONE, refused (0), if there would be more than 1600");
        Desk d = new Desk().with("pane 2 by 2 tough 0;pole a at 0 0 lifts 7;");
        due("20", 20, d.x.feed(0x746f7461, 0x6c206c69, 0x6674732a, 0x322b3120, 0x20202020));
        due("total lifts*2+1", 15, d.x.ask());
        due("20", 20, d.x.feed(0x746f7461, 0x6c202020, 0x20202020, 0x20202020, 0x20202020));
        due("40", 40, d.x.feed(0x20202020, 0x20202020, 0x20202020, 0x20202020, 0x6c696674));
        due("60", 60, d.x.feed(0x732b3520, 0x20202020, 0x20202020, 0x20202020, 0x20202020));
        due("behind those on the tape", 12, d.x.ask());
        OnePane x = new OnePane();
        for (int i = 1; i <= 80; i++) {
            due("feed " + i, 20 * i, x.feed(0, 0, 0, 0, 0));
        }
        due("1620", -1, x.feed(0, 0, 0, 0, 0));
        due("refused", 1, x.status(0));
        due("1600 are still there", true, x.end(1600));
        due("no more are", false, x.end(1601));
        int[] lengths = {1599, 1590, 1582, 1581};
        for (int length : lengths) {
            due("end", true, x.end(length));
            due("feed at " + length, -1, x.feed(0, 0, 0, 0, 0));
        }
        due("end", true, x.end(1580));
        due("feed at 1580", 1600, x.feed(0, 0, 0, 0, 0));
        due("refused", 6, x.status(0));
        View.stays("feed", 0, false, town -> {
            EdgeTownTest.sounded(town);
            town.text(" ".repeat(1571));
        }, town -> due("feed at 1582", -1, town.x.feed(0x2b312b31, 0x2b312b31, 0x2b312b31, 0x2b312b31, 0x2b312b31)));
        Desk full = new Desk().with("pane 2 by 2 tough 0;pole a at 0 0 lifts 7;");
        full.text("total lifts" + " ".repeat(1589));
        due("refused", -1, full.x.feed(0x2b312b31, 0x2b312b31, 0x2b312b31, 0x2b312b31, 0x2b312b31));
        due("the tape is as it was", 7, full.x.ask());
    }

    private static void p3() {
        topic("3: The tape has its first n bytes alone: true; false, refused (0), if it has not so many, or n is below 0");
        for (int n : new int[] {-1, 12, 13, 1600, 1601, LOW, HIGH}) {
            refusedOf("end " + n, 0, d -> due("end " + n, false, d.x.end(n)));
        }
        Desk d = new Desk();
        due("all of nothing", true, d.x.end(0));
        due("more than nothing", false, d.x.end(1));
        d.with("pane 2 by 2 tough 0;pole a at 0 0 lifts 7;");
        d.text("total lifts+1");
        due("all", true, d.x.end(13));
        due("one less", true, d.x.end(12));
        due("not back again", false, d.x.end(13));
        due("one less", true, d.x.end(11));
        due("the first 11", 7, d.x.ask());
        d.text("total lifts");
        due("none", true, d.x.end(0));
        due("nothing is left", OnePane.NOTHING, d.x.ask());
        due("a fault at the length", 0, d.x.fault(1));
        d.text("total lifts+5");
        d.x.end(11);
        due("fed behind the cut", 31, d.x.feed(0x2a322020, 0x20202020, 0x20202020, 0x20202020, 0x20202020));
        due("not what was cut off", 14, d.x.ask());
    }

    private static void p4() {
        topic("4: NONE, refused (1), with a FAULT (all stays; one without a STATEMENT has FAULT 1 at its length)");
        String b = "pane 2 by 2 tough 1;heavy 0 0 9;pole ann at 1 1 lifts 3;adds 5;holds not all;fades 9;stone 9;hail 99;";
        String[] texts = {"", " ", "\n \n", "x", b + "!", b + "pane", b + "hail 101;", b + "pole ann", b + "adds", b + "heavy 0 0 1", "pane 7"};
        int[] places = {0, 1, 3, 0, b.length(), b.length(), b.length() + 5, b.length() + 5, b.length(), b.length() + 11, 5};
        int[] faults = {1, 1, 1, 1, 1, 1, 2, 3, 5, 1, 2};
        for (int i = 0; i < texts.length; i++) {
            String text = texts[i];
            int fault = faults[i];
            int place = places[i];
            Consumer<Desk> refused = d -> {
                due("pane(" + text + ")", -1, d.pane(text));
                due("fault", fault, d.x.fault(0));
                due("place", place, d.x.fault(1));
            };
            View.stays("pane(" + text + ")", 1, true, EdgeTownTest::sounded, refused);
            View.stays("a first pane(" + text + ")", 1, true, d -> d.x.seed(5), refused);
        }
        topic("4: Without one all is as at first, nothing is KEPT, SOUNDED or can be undone; the seed stays");
        Desk old = new Desk();
        Desk fresh = new Desk();
        EdgeTownTest.sounded(old);
        due("kept", 1, old.x.has(7) > 0 ? 1 : 0);
        old.x.seed(1234);
        fresh.x.seed(1234);
        fresh.with(TOWN);
        fresh.x.image();
        old.with(TOWN);
        old.x.image();
        old.text("total lifts");
        fresh.text("total lifts");
        View.alike("a pane behind much", View.of(fresh.x), View.of(old.x));
        Desk d = new Desk();
        due("one statement", 1, d.pane("pane 2 by 2 tough 1;"));
        d.x.chance(3);
        long[] seed = {1};
        draw(seed, 100);
        draw(seed, 100);
        draw(seed, 100);
        d.with("pane 2 by 2 tough 9;hail 100;stone 9;");
        draw(seed, 100);
        int struck = draw(seed, 4);
        due("hail", 1, d.x.chance(1));
        due("where the seed goes on", struck, d.x.kept(0, 1) + 2 * d.x.kept(0, 2));
    }

    private static void p5() {
        topic("5: Of the latest pane() or ask(): its FAULT (what 0; 0 without, and ahead of any), its place (1; NONE without). NONE for another what");
        Desk d = new Desk();
        due("ahead of any", 0, d.x.fault(0));
        due("ahead of any", -1, d.x.fault(1));
        for (int what : new int[] {-1, 2, LOW, HIGH}) {
            due("fault " + what, -1, d.x.fault(what));
        }
        d.dueFault("pane 9", 2, 5);
        for (int what : new int[] {-1, 2, LOW, HIGH}) {
            due("fault " + what, -1, d.x.fault(what));
        }
        d.bytes(0, 0, 0);
        d.x.sound();
        d.x.on();
        due("sound and on tell none", 2, d.x.fault(0));
        due("sound and on tell none", 5, d.x.fault(1));
        d.dueFault(TOWN, 0, -1);
        d.dueAskFault("often all all", 1, 10);
        d.dueAskFault("often all", 0, -1);
        d.dueFault("pane 2 by 2 tough 100", 2, 18);
        d.dueAskFault("often all", 0, -1);
        d.dueFault("", 1, 0);
    }

    private static void p24() {
        topic("24: sent to REST (on 1), or called (0): true; false, refused (2), when it is so already, there is none such, or for others");
        int[][] none = {{0, 0}, {1, 1}, {2, 0}, {2, 1}, {-1, 0}, {-1, 1}, {0, 2}, {0, -1}, {1, 2}, {1, -1}, {0, LOW}, {0, HIGH}, {LOW, 1}, {HIGH, 1}, {32, 1}};
        for (int[] one : none) {
            refusedOf("rest " + one[0] + " " + one[1], 2, d -> due("rest " + one[0] + " " + one[1], false, d.x.rest(one[0], one[1])));
        }
        Desk d = new Desk().with("pane 5 by 2 tough 9;" + people(10, 5, 1));
        for (int p = 0; p < 10; p++) {
            due("rest", true, d.x.rest(p, 1));
            due("at rest", p + 1, d.x.has(6));
            due("hold", 9 - p, d.x.has(5));
            due("so already", false, d.x.rest(p, 1));
        }
        due("none more", false, d.x.rest(10, 1));
        due("called", true, d.x.rest(9, 0));
        due("called already", false, d.x.rest(9, 0));
        due("acts", 11, d.x.has(9));
        due("refused", 12, d.x.status(2));
    }

    private static String people(int count, int columns, int lifts) {
        StringBuilder b = new StringBuilder();
        for (int i = 0; i < count; i++) {
            b.append("pole ").append((char) ('a' + i)).append(" at ").append(i % columns).append(" ").append(i / columns)
                .append(" lifts ").append(lifts).append(";");
        }
        return b.toString();
    }

    private static void p25() {
        topic("25: goes to a CELL: true; false, refused (2), when one stands there, or there are none such");
        int[][] none = {{0, 1, 1}, {0, 2, 0}, {1, 1, 1}, {1, 2, 0}, {0, 3, 0}, {0, 0, 2}, {0, -1, 0}, {0, 0, -1}, {0, -1, 1}, {0, 3, -1}, {2, 0, 0}, {-1, 0, 0},
            {0, LOW, 0}, {0, HIGH, 0}, {0, 0, LOW}, {0, 0, HIGH}, {LOW, 0, 0}, {HIGH, 0, 0}};
        for (int[] one : none) {
            refusedOf("go " + Arrays.toString(one), 2, d -> due("go", false, d.x.go(one[0], one[1], one[2])));
        }
        Desk d = new Desk().with("pane 2 by 3 tough 9;" + people(5, 2, 1));
        due("the last cell", true, d.x.go(0, 1, 2));
        due("the cell that he left", true, d.x.go(1, 0, 0));
        due("back", true, d.x.go(0, 1, 0));
        due("acts", 3, d.x.has(9));
        d.with("pane 2 by 2 tough 9;" + people(4, 2, 1));
        for (int i = 0; i < 16; i++) {
            due("all cells are taken", false, d.x.go(i / 4, i % 2, i / 2 % 2));
        }
        due("refused", 16, d.x.status(2));
        d.with("pane 2 by 2 tough 0;pole a at 0 0 lifts 0;");
        d.x.hours(1);
        d.x.rest(0, 1);
        due("one at rest, to a cracked one", true, d.x.go(0, 1, 1));
    }

    private static void p26() {
        topic("26: mended: true; false, refused (2), when it is not CRACKED, or there is none such");
        int[][] none = {{0, 0}, {2, 1}, {3, 0}, {0, 2}, {-1, 0}, {0, -1}, {-1, 1}, {3, -1}, {LOW, 0}, {HIGH, 0}, {0, LOW}, {0, HIGH}};
        for (int[] one : none) {
            View.stays("mend", 2, false, d -> {
                d.with(TOWN);
                d.x.hours(3);
            }, d -> due("mend " + one[0] + " " + one[1], false, d.x.mend(one[0], one[1])));
            View.stays("mend without a pane", 2, false, d -> d.x.seed(5), d -> due("mend", false, d.x.mend(one[0], one[1])));
        }
        Desk d = new Desk().with("pane 6 by 6 tough 0;");
        d.x.hours(1);
        for (int i = 0; i < 36; i++) {
            due("mend", true, d.x.mend(i % 6, i / 6));
            due("cracked", 35 - i, d.x.has(4));
            due("it is not cracked any more", false, d.x.mend(i % 6, i / 6));
        }
        due("refused", 36, d.x.status(2));
        due("cracks again", 36, d.x.hours(1));
    }

    private static void p27() {
        topic("27: n HOURS (1 .. 100): how many CELLS CRACKED; NONE, refused (3), when it can't be, or without a pane");
        for (int n : new int[] {0, -1, 101, LOW, HIGH}) {
            refusedOf("hours " + n, 3, d -> due("hours " + n, -1, d.x.hours(n)));
        }
        for (int n : new int[] {1, 50, 100}) {
            View.stays("without a pane", 3, false, d -> d.x.seed(5), d -> due("hours " + n, -1, d.x.hours(n)));
            Desk d = new Desk().with("pane 2 by 2 tough 0;");
            due("all crack", 4, d.x.hours(n));
            due("HOUR", n, d.x.has(3));
            due("one act", 1, d.x.has(9));
            due("nothing more", 0, d.x.hours(n));
        }
        Desk d = new Desk().with("pane 6 by 6 tough 0;");
        due("36", 36, d.x.hours(100));
        d.with("pane 2 by 2 tough 0;pole a at 0 0 lifts 9;fades 0;holds hour<99;");
        due("99", 0, d.x.hours(99));
        d.x.undo();
        due("in the 100th", 4, d.x.hours(100));
        due("kept", 99, d.x.kept(0, 0));
    }

    private static void p28() {
        topic("28: n HOURS by the seed (1 .. 100), one ACT: how often it hailed; NONE, refused (3), when it can't be, or without a pane");
        for (int n : new int[] {0, -1, 101, LOW, HIGH}) {
            refusedOf("chance " + n, 3, d -> due("chance " + n, -1, d.x.chance(n)));
        }
        for (int n : new int[] {1, 50, 100}) {
            View.stays("without a pane", 3, false, d -> d.x.seed(5), d -> due("chance " + n, -1, d.x.chance(n)));
            Desk d = new Desk().with("pane 2 by 2 tough 9;hail 100;stone 0;");
            due("always", n, d.x.chance(n));
            due("HOUR", n, d.x.has(3));
            due("one act", 1, d.x.has(9));
        }
        topic("ahead of each a DRAW of 100: below hail");
        int[] draws = {0, 1, 49, 50, 98, 99};
        int[] hails = {0, 1, 2, 49, 50, 51, 98, 99, 100};
        for (int first : draws) {
            for (int hail : hails) {
                Desk d = new Desk().with("pane 2 by 2 tough 9;hail " + hail + ";");
                d.x.seed(seedFor(first, 0, -1));
                due("draw " + first + " hail " + hail, first < hail ? 1 : 0, d.x.chance(1));
                due("one struck, or none", first < hail ? 1 : 0, d.x.has(4));
            }
        }
        topic("a DRAW of all CELLS (row by row): that one is heavier by stone in this HOUR");
        for (int place = 0; place < 6; place++) {
            Desk d = new Desk().with("pane 3 by 2 tough 20;hail 100;adds 0;");
            d.x.seed(seedFor(-1, 6, place));
            due("hail", 1, d.x.chance(1));
            for (int i = 0; i < 6; i++) {
                due("struck " + place + " cracked " + i, i == place ? 1 : 0, d.x.cell(i % 3, i / 3, 1));
                due("not heavier any more", 1, d.x.cell(i % 3, i / 3, 2));
            }
        }
        for (int place : new int[] {0, 17, 34, 35}) {
            Desk d = new Desk().with("pane 6 by 6 tough 20;hail 100;adds 0;");
            d.x.seed(seedFor(-1, 36, place));
            due("hail", 1, d.x.chance(1));
            due("struck " + place, 1, d.x.cell(place % 6, place / 6, 1) * d.x.has(4));
        }
        hailEdges();
    }

    private static void hailEdges() {
        topic("heavier by stone in this HOUR (if it is not CRACKED)");
        Desk d = new Desk().with("pane 3 by 2 tough 21;hail 100;");
        d.x.seed(seedFor(-1, 6, 4));
        due("slack 0 in this hour", 0, d.x.chance(1) - 1 + d.x.has(4));
        d.with("pane 3 by 2 tough 16;hail 100;pole a at 0 0 lifts 8;fades 3;");
        d.x.seed(seedFor(-1, 6, 1));
        due("slack 0 by one who lifts 5 there", 0, d.x.chance(1) - 1 + d.x.has(4));
        d.with("pane 3 by 2 tough 15;hail 100;pole a at 0 0 lifts 8;fades 3;");
        d.x.seed(seedFor(-1, 6, 1));
        due("slack -1 by one who lifts 5 there", 1, d.x.chance(1) - 1 + d.x.has(4));
        d.with("pane 3 by 2 tough 0;hail 0;stone 99;pole a at 0 0 lifts 1;fades 0;");
        due("without hail", 0, d.x.chance(100) + d.x.has(4));
        d.with("pane 2 by 2 tough 7;heavy 0 0 8;adds weight/2;hail 100;");
        d.x.hours(1);
        d.x.seed(seedFor(-1, 4, 0));
        due("it hails", 1, d.x.chance(1));
        due("none more cracks by a cracked one", 1, d.x.has(4));
        due("nothing more is kept", 1, d.x.has(7));
        due("nor is it heavier", 5, d.x.cell(1, 0, 2));
        topic("A DRAW of m: x (the seed) becomes (1103515245 x + 12345) mod 2 to the 31; floor(x / 64) mod m");
        for (int first : new int[] {0, 1, 2, 12345, 1 << 30, HIGH - 1, HIGH}) {
            long[] x = {first};
            int hailed = 0;
            for (int i = 0; i < 100; i++) {
                if (draw(x, 100) < 43) {
                    draw(x, 36);
                    hailed++;
                }
            }
            d.with("pane 6 by 6 tough 9;hail 43;");
            d.x.seed(first);
            due("from seed " + first, hailed, d.x.chance(100));
        }
    }

    private static void p29() {
        topic("29: The latest ACT is undone (the seed stays): true; false, refused (4), when none can be; The last 20 can be undone");
        View.stays("undo", 4, false, d -> d.with(TOWN), d -> due("undo", false, d.x.undo()));
        View.stays("undo without a pane", 4, false, d -> d.x.seed(5), d -> due("undo", false, d.x.undo()));
        View.stays("an act and undo", OnePane.NONE, false, EdgeTownTest::sounded, d -> {
            due("rest", true, d.x.rest(0, 1));
            due("undo", true, d.x.undo());
            due("go", true, d.x.go(0, 0, 1));
            due("undo", true, d.x.undo());
            due("mend", true, d.x.mend(1, 0));
            due("undo", true, d.x.undo());
            due("hours", true, d.x.hours(30) > 0);
            due("undo", true, d.x.undo());
        });
        for (int acts : new int[] {1, 19, 20, 21, 22, 39, 40, 41}) {
            Desk d = new Desk().with("pane 2 by 2 tough 9;");
            for (int i = 1; i <= acts; i++) {
                d.x.hours(1);
                due("can be undone", Math.min(i, 20), d.x.has(9));
            }
            int undone = 0;
            for (int i = 0; i < 25 && d.x.undo(); i++) {
                undone++;
                due("HOUR", acts - undone, d.x.has(3));
                due("can be undone", Math.min(acts, 20) - undone, d.x.has(9));
            }
            due("undone of " + acts, Math.min(acts, 20), undone);
            due("refused", 1, d.x.status(4));
            due("an act", 0, d.x.hours(1));
            due("and undone", true, d.x.undo());
            due("no more", false, d.x.undo());
        }
        topic("29: the seed stays");
        Desk d = new Desk().with("pane 6 by 6 tough 99;hail 50;");
        long[] x = {1};
        for (int round = 0; round < 5; round++) {
            int hailed = 0;
            for (int i = 0; i < 20; i++) {
                if (draw(x, 100) < 50) {
                    draw(x, 36);
                    hailed++;
                }
            }
            due("round " + round, hailed, d.x.chance(20));
            due("undo", true, d.x.undo());
            due("HOUR", 0, d.x.has(3));
        }
        d.x.seed(5);
        due("a seed is no act", 0, d.x.has(9));
    }

    private static void p30() {
        topic("30: The seed: true; false, refused (5), when it is below 0. (It is 1 at first.)");
        for (int seed : new int[] {-1, -2, LOW}) {
            refusedOf("seed " + seed, 5, d -> due("seed " + seed, false, d.x.seed(seed)));
        }
        Desk d = new Desk();
        due("0", true, d.x.seed(0));
        due("1", true, d.x.seed(1));
        due("the greatest", true, d.x.seed(HIGH));
        due("none refused", 0, d.x.status(5));
        Desk first = new Desk().with("pane 6 by 6 tough 99;hail 50;");
        Desk told = new Desk().with("pane 6 by 6 tough 99;hail 50;");
        told.x.seed(1);
        due("1 at first", told.x.chance(100), first.x.chance(100));
        Desk zero = new Desk().with("pane 2 by 2 tough 0;hail 93;");
        zero.x.seed(0);
        due("0 draws 12345 / 64 = 192: 92", 1, zero.x.chance(1));
        zero.with("pane 2 by 2 tough 0;hail 92;");
        zero.x.seed(0);
        due("0 draws 92", 0, zero.x.chance(1));
        Desk one = new Desk().with("pane 2 by 2 tough 0;hail 19;");
        due("1 draws 1103527590 / 64 = 17242618: 18", 1, one.x.chance(1));
        one.with("pane 2 by 2 tough 0;hail 18;");
        one.x.seed(1);
        due("1 draws 18", 0, one.x.chance(1));
    }

    private static void p31() {
        topic("31: its answer; NONE of first, last, when its TEST holds for none; most, least .. 0 without PEOPLE");
        Desk d = new Desk().with("pane 2 by 2 tough 9;");
        String[] kinds = {"first all", "last all", "often all", "total 7", "most 7", "least 7", "most 0-7", "least 0-7"};
        long[] nobody = {-1, -1, 0, 0, 0, 0, 0, 0};
        long[] ten = {0, 9, 10, 70, 7, 7, -7, -7};
        for (int i = 0; i < kinds.length; i++) {
            due("nobody: " + kinds[i], nobody[i], d.ask(kinds[i]));
            due("no fault", 0, d.x.fault(0));
        }
        d.with("pane 5 by 2 tough 9;" + people(10, 5, 3));
        for (int i = 0; i < kinds.length; i++) {
            due("ten: " + kinds[i], ten[i], d.ask(kinds[i]));
        }
        due("none", -1, d.ask("first not all"));
        due("none", -1, d.ask("last not all"));
        due("none", 0, d.ask("often not all"));
        due("the first", 0, d.ask("first number=0"));
        due("the last", 9, d.ask("first number=9"));
        due("the first", 0, d.ask("last number=0"));
        due("the last", 9, d.ask("last number=9"));
        due("no tenth", -1, d.ask("last number=10"));
        due("the first of some", 3, d.ask("first number>2 and number<7"));
        due("the last of some", 6, d.ask("last number>2 and number<7"));
        due("most below 0", -1, d.ask("most 0-number-1"));
        due("least below 0", -10, d.ask("least 0-number-1"));
        due("least above 0", 1, d.ask("least number+1"));
        due("most above 0", 10, d.ask("most number+1"));
        due("least is the first", -9, d.ask("least number-9"));
        due("most is the first", 9, d.ask("most 9-number"));
        due("most is neither", 16, d.ask("most number*(8-number)"));
        due("least is neither", -16, d.ask("least number*(number-8)"));
        due("total", 45, d.ask("total number"));
        due("all together", 10000000, d.ask("total 9999*9999"));
        due("all together", -10000000, d.ask("total 0-9999*9999"));
        topic("far PART: how far the one of that number stands from him, 0 of those that there are not");
        String[] asked = {"total far number", "most far 0", "most far 9", "most far 10", "total far (0-1)", "total far 9999", "most far (9999*9999)", "least far (0-9999*9999)"};
        long[] far = {0, 5, 5, 0, 0, 0, 0, 0};
        for (int i = 0; i < asked.length; i++) {
            due(asked[i], far[i], d.ask(asked[i]));
        }
        due("from the first to the last", 5, d.ask("total (1-min(1,number))*far 9"));
        due("far of far: 0 stands 0 from 0, the one of number 0 is meant", 0, d.ask("total (1-min(1,number))*far far 0"));
        due("far 1 is 1 for 0, far far 1 too", 1, d.ask("total (1-min(1,number))*far far 1"));
        topic("1 if he HOLDS now, else 0");
        d.x.rest(4, 1);
        due("holds", 9, d.ask("total holds"));
        due("who does not", 4, d.ask("first holds=0"));
        due("1 of each", 1, d.ask("most holds"));
    }

    private static void p31refused() {
        topic("31: NOTHING with a FAULT, or, doing nothing else, without a pane; the tape goes");
        String[] texts = {"", "x", "often", "often all all", "total (((((((1)))))))", "total 12345"};
        for (String text : texts) {
            View.stays("ask(" + text + ")", OnePane.NONE, true, EdgeTownTest::sounded, d -> due("ask", OnePane.NOTHING, d.ask(text)));
        }
        for (String text : new String[] {"", "x", "often all"}) {
            View.stays("without a pane ask(" + text + ")", OnePane.NONE, true, d -> d.pane("pane 9"), d -> {
                due("ask", OnePane.NOTHING, d.ask(text));
                due("fault stays", 2, d.x.fault(0));
                due("place stays", 5, d.x.fault(1));
                due("the tape goes", 20, d.x.feed(0, 0, 0, 0, 0));
                d.x.end(0);
            });
        }
        Desk d = new Desk().with(TOWN);
        due("an answer", 13, d.ask("total lifts"));
        due("the tape goes", 20, d.x.feed(0, 0, 0, 0, 0));
    }

    private static void p32() {
        topic("32, 33: HOUR (two bytes, the higher first) .. last a byte: all ahead from 127 on, c = (3 c + it) mod 251; NONE when there is none such");
        Desk d = new Desk();
        due("none yet", -1, d.x.octet(0));
        due("without a pane", 3, d.x.image());
        int[] empty = {0, 0, 139, -1};
        for (int k = 0; k < 4; k++) {
            due("octet " + k, empty[k], d.x.octet(k));
        }
        d.with("pane 2 by 2 tough 9;");
        due("the latest image stays", 139, d.x.octet(2));
        due("nobody", 7, d.x.image());
        for (int hour : new int[] {0, 1, 255, 256, 511, 512, 767, 768, 998, 999}) {
            late(d, hour);
            int[] due = checked(new int[] {hour / 256, hour % 256, 0, 0, 0, 0, 0});
            due("image", 7, d.x.image());
            for (int k = 0; k < 7; k++) {
                due("hour " + hour + " octet " + k, due[k], d.x.octet(k));
            }
        }
        d.with("pane 6 by 6 tough 0;holds hour<999;" + people(10, 6, 0));
        late(d, 999);
        d.x.hours(1);
        d.x.rest(9, 1);
        due("the greatest", 79, d.x.image());
        int[] due = new int[79];
        due[0] = 3;
        due[1] = 231;
        for (int i = 0; i < 36; i++) {
            due[2 + i] = 1;
        }
        for (int p = 0; p < 10; p++) {
            due[38 + 4 * p] = p % 6;
            due[39 + 4 * p] = p / 6;
        }
        due[77] = 1;
        checked(due);
        for (int k = 0; k < 79; k++) {
            due("octet " + k, due[k], d.x.octet(k));
        }
        for (int k : new int[] {-1, 79, 80, LOW, HIGH}) {
            due("octet " + k, -1, d.x.octet(k));
        }
        d.with("pane 2 by 2 tough 9;pole a at 1 0 lifts 1;");
        due("the latest image stays", 231, d.x.octet(1));
        d.x.hours(100);
        d.x.image();
        int[] tired = checked(new int[] {0, 100, 0, 0, 0, 0, 1, 0, 99, 0, 0});
        for (int k = 0; k < 11; k++) {
            due("octet " + k, tired[k], d.x.octet(k));
        }
        due("a shorter one", -1, d.x.octet(11));
    }

    private static void notOn(String why, Consumer<Desk> steps, int[] image) {
        View.stays("on: " + why, 5, true, steps, d -> {
            d.bytes(image);
            due("on: " + why, false, d.x.on());
        });
    }

    private static int[] with(int[] image, int k, int value) {
        int[] other = image.clone();
        other[k] = value;
        return checked(other);
    }

    private static void p34() {
        topic("34: false, refused (5), when it is none (HOUR 999, tired 99 at most; CELLS that there are, no two PEOPLE on one), or without a pane, all staying");
        Desk made = new Desk();
        EdgeTownTest.sounded(made);
        int[] image = imageOf(made.x);
        Consumer<Desk> town = EdgeTownTest::sounded;
        due("bytes", 17, image.length);
        notOn("HOUR 1000", town, with(with(image, 0, 3), 1, 232));
        notOn("HOUR 1023", town, with(with(image, 0, 3), 1, 255));
        notOn("HOUR 65535", town, with(with(image, 0, 255), 1, 255));
        for (int k = 2; k < 8; k++) {
            notOn("a cell 2", town, with(image, k, 2));
            notOn("a cell 255", town, with(image, k, 255));
        }
        for (int p = 8; p < 16; p += 4) {
            notOn("column 3", town, with(image, p, 3));
            notOn("column 255", town, with(image, p, 255));
            notOn("row 2", town, with(image, p + 1, 2));
            notOn("row 255", town, with(image, p + 1, 255));
            notOn("tired 100", town, with(image, p + 2, 100));
            notOn("tired 255", town, with(image, p + 2, 255));
            notOn("rest 2", town, with(image, p + 3, 2));
            notOn("rest 255", town, with(image, p + 3, 255));
        }
        notOn("two on one", town, with(with(image, 8, image[12]), 9, image[13]));
        notOn("no bytes", town, new int[0]);
        notOn("a byte less", town, Arrays.copyOf(image, 16));
        notOn("a byte less, checked", town, checked(Arrays.copyOf(image, 16)));
        notOn("a byte more", town, Arrays.copyOf(image, 18));
        notOn("a byte more, checked", town, checked(Arrays.copyOf(image, 18)));
        for (int more : new int[] {1, 2, 100, 250, 251, 255}) {
            int[] wrong = image.clone();
            wrong[16] = (wrong[16] + more) % 256;
            notOn("the last byte", town, wrong);
        }
        int tired = 0;
        int[] high = with(image, 10, tired);
        while (high[16] + 251 > 255) {
            tired++;
            high = with(image, 10, tired);
        }
        due("tired " + tired + " is not the cause", true, tired <= 99);
        high[16] += 251;
        notOn("the last byte and 251", town, high);
        notOn("of another pane", d -> d.with("pane 2 by 3 tough 1;pole a at 0 0 lifts 1;"), image);
        notOn("without a pane", d -> d.x.seed(5), new int[] {0, 0, 139});
    }

    private static void p34taken() {
        topic("34: AN IMAGE of this PANE: true, all is as it tells, nothing is KEPT or can be undone");
        Desk d = new Desk();
        EdgeTownTest.sounded(d);
        int[] image = imageOf(d.x);
        due("something is kept", true, d.x.has(7) > 0);
        int[] least = checked(new int[] {0, 0, 0, 0, 0, 0, 0, 0, 0, 0, 0, 0, 2, 1, 0, 0, 0});
        int[] most = checked(new int[] {3, 231, 1, 1, 1, 1, 1, 1, 2, 1, 99, 1, 0, 0, 99, 1, 0});
        d.bytes(most);
        due("the greatest", true, d.x.on());
        has(d, 3, 2, 2, 999, 6, 0, 2, 0, 1, 0);
        due("tired", 99, d.x.person(0, 3));
        due("column", 2, d.x.person(0, 0));
        due("row", 1, d.x.person(0, 1));
        due("nothing to undo", false, d.x.undo());
        due("nothing kept", -1, d.x.kept(0, 0));
        d.bytes(least);
        due("the least", true, d.x.on());
        has(d, 3, 2, 2, 0, 0, 2, 0, 0, 1, 0);
        due("tired", 0, d.x.person(1, 3));
        due("column", 2, d.x.person(1, 0));
        due("row", 1, d.x.person(1, 1));
        for (int place = 0; place < 6; place++) {
            d.bytes(with(least, 2 + place, 1));
            due("one cracked", true, d.x.on());
            due("that one", 1, d.x.cell(place % 3, place / 3, 1));
            due("and no other", 1, d.x.has(4));
        }
        d.bytes(image);
        due("the first again", true, d.x.on());
        due("as it told", true, Arrays.equals(image, imageOf(d.x)));
        due("the tape goes", 20, d.x.feed(0, 0, 0, 0, 0));
        d.x.end(0);
        d.bytes(with(with(with(with(least, 8, 2), 9, 1), 12, 0), 13, 0));
        due("people have changed places", true, d.x.on());
        d.x.seed(seedFor(50, 0, -1));
        d.bytes(least);
        due("on", true, d.x.on());
        due("the seed is no part of it: 50 is not below hail", 0, d.x.chance(1));
        d.x.seed(seedFor(49, 0, -1));
        d.bytes(least);
        due("on", true, d.x.on());
        due("the seed is no part of it: 49 is", 1, d.x.chance(1));
        Desk nobody = new Desk().with("pane 2 by 2 tough 9;");
        nobody.bytes(checked(new int[] {0, 5, 0, 1, 0, 1, 0}));
        due("nobody", true, nobody.x.on());
        due("hour", 5, nobody.x.has(3));
        Desk ten = new Desk().with("pane 5 by 2 tough 9;" + people(10, 5, 1));
        ten.x.hours(3);
        int[] full = imageOf(ten.x);
        ten.bytes(full);
        due("every cell taken", true, ten.x.on());
        due("tired", 30, ten.ask("total tired"));
    }

    private static void p35() {
        topic("35: How many were refused: 0 feed(), end(); 1 pane(), sound(); 2 rest(), go(), mend(); 3 hours(), chance(); 4 undo(); 5 seed(), on(). NONE for others");
        Desk d = new Desk();
        for (int what : new int[] {-1, 6, LOW, HIGH}) {
            due("status " + what, -1, d.x.status(what));
        }
        for (int round = 1; round <= 3; round++) {
            d.x.end(1);
            d.x.pane();
            d.x.sound();
            d.x.rest(0, 1);
            d.x.go(0, 0, 0);
            d.x.mend(0, 0);
            d.x.hours(1);
            d.x.chance(1);
            d.x.undo();
            d.x.seed(-1);
            d.x.on();
            d.x.ask();
            d.x.octet(-1);
            d.x.later(0, 0);
            int[] due = {1, 2, 3, 2, 1, 2};
            for (int what = 0; what < 6; what++) {
                due("status " + what, round * due[what], d.x.status(what));
            }
        }
        d.with(TOWN);
        d.x.hours(1);
        d.x.undo();
        d.bytes(imageOf(d.x));
        d.x.on();
        int[] due = {3, 6, 9, 6, 3, 6};
        for (int what = 0; what < 6; what++) {
            due("what is taken is not counted, nor does it begin anew " + what, due[what], d.x.status(what));
        }
    }

    public static void main(String[] args) {
        p1();
        p2();
        p3();
        p4();
        p5();
        p24();
        p25();
        p26();
        p27();
        p28();
        p29();
        p30();
        p31();
        p31refused();
        p32();
        p34();
        p34taken();
        p35();
        Desk.close("edges of acts");
    }
}
