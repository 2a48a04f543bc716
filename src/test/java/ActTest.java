/** The promises from free() on by answers that were reckoned by hand. */
public final class ActTest extends PromiseBase {
    private static void p16() {
        topic("16 free");
        Desk d = new Desk().with(TOWN);
        due("bo is free", 2, d.x.free());
        d.x.hours(2);
        due("nobody holds", 0, d.x.free());
        d.x.hours(1);
        due("ann at 0 0, bo at 2 0 are missed", 0, d.x.free());
        d.with("pane 2 by 2 tough 0;pole a at 0 0 lifts 5;pole b at 1 0 lifts 5;pole c at 0 1 lifts 0;fades 0;heavy 0 0 5;");
        due("each alone", 7, d.x.free());
        d.x.rest(0, 1);
        due("without a", 4, d.x.free());
        d.with("pane 2 by 2 tough 0;pole a at 0 0 lifts 4;fades 0;heavy 0 0 5;heavy 1 0 5;heavy 0 1 5;heavy 1 1 5;");
        due("what cracks anyway", 1, d.x.free());
    }

    private static void p17() {
        topic("17 needed");
        Desk d = new Desk().with(TOWN);
        due("ann", 1, d.x.needed());
        d.x.hours(2);
        due("whether the test holds or not", 1, d.x.needed());
        d.x.rest(0, 1);
        due("all are not enough", -1, d.x.needed());
        d.x.rest(0, 0);
        d.x.hours(5);
        due("none is needed", 0, d.x.needed());
        d.with("pane 2 by 2 tough 0;pole a at 0 0 lifts 2;pole b at 1 0 lifts 3;pole c at 0 1 lifts 2;pole e at 1 1 lifts 3;fades 0;heavy 0 0 5;");
        due("two, of like ones the least bits", 3, d.x.needed());
        d.x.rest(0, 1);
        due("without a", 6, d.x.needed());
        d.with("pane 2 by 2 tough 0;pole a at 0 0 lifts 2;pole b at 1 0 lifts 3;pole c at 0 1 lifts 9;fades 0;heavy 0 0 5;");
        due("one rather than two of less bits", 4, d.x.needed());
        d.with("pane 2 by 2 tough 1;");
        due("nobody", 0, d.x.needed());
        d.with("pane 2 by 2 tough 0;");
        due("nobody is not enough", -1, d.x.needed());
    }

    private static void p18() {
        topic("18 stand");
        Desk d = new Desk().with(TOWN);
        due("column", 1, d.x.stand(0, 0));
        due("row", 0, d.x.stand(0, 1));
        due("cracking", 0, d.x.stand(0, 2));
        due("other", -1, d.x.stand(0, 3));
        due("other", -1, d.x.stand(0, -1));
        due("none such", -1, d.x.stand(2, 0));
        due("none such", -1, d.x.stand(-1, 0));
        d.x.rest(0, 1);
        due("at rest", -1, d.x.stand(0, 0));
        due("bo alone", 1, d.x.stand(1, 0));
        due("bo alone lets it crack", 0, d.x.stand(1, 2));
        d.with("pane 3 by 2 tough 0;pole a at 2 1 lifts 3;fades 2;holds hour>0;heavy 1 0 2;heavy 2 0 0;heavy 2 1 0;heavy 1 1 2;");
        due("holds there, test or not: column", 1, d.x.stand(0, 0));
        due("row", 0, d.x.stand(0, 1));
        due("0 1 and 1 1 crack", 2, d.x.stand(0, 2));
        d.with("pane 2 by 2 tough 1;pole a at 1 1 lifts 1;pole b at 0 0 lifts 0;fades 9;");
        due("like ones: not where b stands", 1, d.x.stand(0, 0));
        due("the first", 0, d.x.stand(0, 1));
        d.with("pane 2 by 2 tough 0;pole a at 1 1 lifts 0;");
        d.x.hours(1);
        due("all cracked: the first", 0, d.x.stand(0, 0));
        due("all cracked: the first", 0, d.x.stand(0, 1));
        due("all cracked", 0, d.x.stand(0, 2));
    }

    private static void p19() {
        topic("19 weak");
        Desk d = new Desk().with(TOWN);
        due("column", 1, d.x.weak(0));
        due("row", 0, d.x.weak(1));
        due("other", -1, d.x.weak(2));
        due("other", -1, d.x.weak(-1));
        d.x.hours(3);
        due("column", 1, d.x.weak(0));
        due("row", 1, d.x.weak(1));
        d.x.hours(4);
        due("the last one", 2, d.x.weak(0));
        due("the last one", 1, d.x.weak(1));
        d.with("pane 2 by 2 tough 0;");
        due("of like ones the first", 0, d.x.weak(0) + d.x.weak(1));
        d.x.hours(1);
        due("all cracked", -1, d.x.weak(0));
        due("no pane", -1, new OnePane().weak(0));
    }

    private static void p20() {
        topic("20 mends");
        Desk d = new Desk().with(TOWN);
        due("none cracked", -1, d.x.mends(1, 0));
        d.x.hours(3);
        due("column", 1, d.x.mends(1, 0));
        due("row", 0, d.x.mends(1, 1));
        due("then", 0, d.x.mends(1, 2));
        due("then", 1, d.x.mends(2, 2));
        d.x.hours(1);
        due("column", 1, d.x.mends(1, 0));
        due("row", 0, d.x.mends(1, 1));
        due("then", 2, d.x.mends(1, 2));
        due("other", -1, d.x.mends(1, 3));
        due("other", -1, d.x.mends(1, -1));
        due("n 0", -1, d.x.mends(0, 0));
        due("n 31", -1, d.x.mends(31, 0));
        due("n 30", 5, d.x.mends(30, 2));
        due("nothing is mended", 2, d.x.has(4));
        late(d, 998);
        due("to HOUR 999", 2, d.x.mends(1, 2));
        due("beyond", -1, d.x.mends(2, 2));
        d.with("pane 2 by 2 tough 2;heavy 1 1 3;adds 0;");
        d.x.hours(1);
        d.with("pane 2 by 2 tough 1;heavy 0 0 2;heavy 1 1 0;adds 0;pole a at 0 0 lifts 9;holds hour>0;fades 0;heavy 1 0 2;");
        d.x.hours(1);
        due("of like ones the first", 0, d.x.mends(3, 0));
        due("one is left", 1, d.x.mends(3, 2));
    }

    private static void p21() {
        topic("21 sound");
        Desk d = new Desk().with(TOWN);
        d.bytes();
        due("nothing", -1, d.x.sound());
        d.bytes(0, 0, 0);
        due("no row", -1, d.x.sound());
        d.bytes(0, 0, 0, 0, 1);
        due("no whole row", -1, d.x.sound());
        d.bytes(2, 1, 9, 9);
        due("one", 1, d.x.sound());
        d.bytes(3, 1, 9, 9);
        due("no such column", -1, d.x.sound());
        d.bytes(0, 0, 1, 1, 2, 2, 9, 9);
        due("no such row", -1, d.x.sound());
        due("stays", 1, d.x.has(8));
        d.bytes(new int[48]);
        due("twelve", 12, d.x.sound());
        d.bytes(new int[52]);
        due("thirteen", -1, d.x.sound());
        due("stays", 12, d.x.has(8));
        due("refused", 6, d.x.status(1));
        due("the tape goes", 20, d.x.feed(0, 0, 0, 0, 0));
        d.x.end(4);
        due("the new ones alone", 1, d.x.sound());
        d.x.hours(1);
        d.x.undo();
        due("acts leave them", 1, d.x.has(8));
        d.bytes(imageOf(d.x));
        d.x.on();
        due("images leave them", 1, d.x.has(8));
        d.x.pane();
        due("a fault leaves them", 1, d.x.has(8));
        d.with(TOWN);
        due("a pane takes them", 0, d.x.has(8));
        Desk none = new Desk();
        none.bytes(0, 0, 0, 0);
        due("no pane", -1, none.x.sound());
        due("refused", 1, none.x.status(1));
    }

    private static void who(Desk d, int count, int all, int some) {
        due("who(0)", count, d.x.who(0));
        due("who(1)", all, d.x.who(1));
        due("who(2)", some, d.x.who(2));
    }

    private static void p22() {
        topic("22 who");
        Desk d = new Desk().with(TOWN);
        who(d, 4, 0, 3);
        due("other", -1, d.x.who(3));
        due("other", -1, d.x.who(-1));
        d.bytes(1, 0, 504 >> 8, 504 & 255);
        d.x.sound();
        who(d, 1, 3, 3);
        d.bytes(1, 0, 495 >> 8, 495 & 255);
        d.x.sound();
        who(d, 1, 0, 0);
        d.bytes(0, 1, 509 >> 8, 509 & 255);
        d.x.sound();
        who(d, 2, 1, 3);
        d.bytes(0, 1, 509 >> 8, 509 & 255, 1, 0, 501 >> 8, 501 & 255);
        d.x.sound();
        who(d, 1, 1, 1);
        d.x.rest(0, 1);
        who(d, 0, 0, 0);
        d.with(TOWN);
        d.x.hours(2);
        who(d, 4, 0, 3);
        d.x.rest(1, 1);
        who(d, 2, 0, 1);
        d.x.hours(1);
        d.bytes(0, 0, 501 >> 8, 501 & 255);
        d.x.sound();
        who(d, 1, 1, 1);
        d.with("pane 2 by 2 tough 0;");
        who(d, 1, 0, 0);
    }

    private static void knock(Desk d, int column, int row, int most) {
        due("knock(0)", column, d.x.knock(0));
        due("knock(1)", row, d.x.knock(1));
        due("knock(2)", most, d.x.knock(2));
    }

    private static void p23() {
        topic("23 knock");
        Desk d = new Desk().with(TOWN);
        knock(d, 0, 0, 1);
        due("other", -1, d.x.knock(3));
        due("other", -1, d.x.knock(-1));
        d.x.hours(5);
        knock(d, 2, 1, 1);
        d.with("pane 3 by 2 tough 50;pole a at 0 0 lifts 2;pole b at 2 0 lifts 2;pole c at 1 1 lifts 2;fades 2;");
        knock(d, 0, 0, 4);
        d.with("pane 3 by 2 tough 50;pole a at 0 0 lifts 2;pole b at 2 0 lifts 3;pole c at 1 1 lifts 2;fades 1;");
        knock(d, 0, 0, 2);
        d.with("pane 2 by 2 tough 50;pole a at 0 0 lifts 3;pole b at 1 1 lifts 7;fades 2;");
        knock(d, 1, 0, 1);
        d.with("pane 2 by 2 tough 50;pole a at 0 0 lifts 1;pole b at 1 1 lifts 4;fades 3;");
        knock(d, 0, 0, 2);
        d.bytes(0, 0, 549 >> 8, 549 & 255);
        d.x.sound();
        knock(d, 1, 0, 1);
        d.bytes(0, 0, 0, 0);
        d.x.sound();
        knock(d, -1, -1, -1);
        StringBuilder ten = new StringBuilder("pane 5 by 2 tough 0;fades 0;");
        for (int i = 0; i < 10; i++) {
            ten.append("pole ").append((char) ('a' + i)).append(" at ").append(i % 5).append(" ").append(i / 5).append(" lifts 99;");
        }
        d.with(ten.toString());
        due("all sets", 1024, d.x.who(0));
        knock(d, 0, 0, 252);
        d.bytes(4, 1, 1489 >> 8, 1489 & 255);
        d.x.sound();
        who(d, 1, 1023, 1023);
        knock(d, 0, 0, 1);
        due("slack of all", 989, d.x.slack(4, 1));
        d.with("pane 2 by 2 tough 0;");
        knock(d, 0, 0, 1);
        d.x.hours(1);
        knock(d, -1, -1, -1);
    }

    private static void p24() {
        topic("24 rest");
        Desk d = new Desk().with(TOWN);
        due("called already", false, d.x.rest(0, 0));
        due("to rest", true, d.x.rest(0, 1));
        due("at rest already", false, d.x.rest(0, 1));
        due("holds no more", 1, d.x.has(5));
        due("at rest", 1, d.x.person(0, 5));
        due("other", false, d.x.rest(0, 2));
        due("other", false, d.x.rest(1, -1));
        due("none such", false, d.x.rest(2, 1));
        due("none such", false, d.x.rest(-1, 1));
        due("refused", 6, d.x.status(2));
        due("one act", 1, d.x.has(9));
        due("called", true, d.x.rest(0, 0));
        due("holds", 2, d.x.has(5));
        due("two acts", 2, d.x.has(9));
    }

    private static void p25() {
        topic("25 go");
        Desk d = new Desk().with(TOWN);
        due("where bo stands", false, d.x.go(0, 2, 0));
        due("where he stands", false, d.x.go(0, 0, 0));
        due("none such", false, d.x.go(0, 3, 0));
        due("none such", false, d.x.go(0, 0, 2));
        due("none such", false, d.x.go(0, -1, 0));
        due("none such", false, d.x.go(2, 1, 1));
        due("none such", false, d.x.go(-1, 1, 1));
        due("refused", 7, d.x.status(2));
        due("no act", 0, d.x.has(9));
        due("goes", true, d.x.go(0, 1, 1));
        due("column", 1, d.x.person(0, 0));
        due("row", 1, d.x.person(0, 1));
        due("left", -1, d.x.cell(0, 0, 3));
        due("there", 0, d.x.cell(1, 1, 3));
        due("lifts from there", 6, d.x.lifts(0, 1, 0));
        d.x.rest(1, 1);
        due("at rest too", true, d.x.go(1, 0, 0));
        d.x.hours(2);
        due("on a cracked one", 1, d.x.cell(1, 0, 1) + d.x.hours(1));
        due("on a cracked one", true, d.x.go(1, 1, 0));
    }

    private static void p26() {
        topic("26 mend");
        Desk d = new Desk().with(TOWN);
        due("not cracked", false, d.x.mend(1, 0));
        d.x.hours(3);
        due("mended", true, d.x.mend(1, 0));
        due("not cracked", 0, d.x.has(4));
        due("load", 1, d.x.cell(0, 0, 2));
        due("kept stays", 1, d.x.has(7));
        due("again", false, d.x.mend(1, 0));
        due("none such", false, d.x.mend(3, 0));
        due("none such", false, d.x.mend(0, 2));
        due("none such", false, d.x.mend(-1, 0));
        due("none such", false, d.x.mend(0, -1));
        due("refused", 6, d.x.status(2));
        due("acts", 2, d.x.has(9));
    }

    private static void p27() {
        topic("27 hours");
        Desk d = new Desk().with(TOWN);
        due("none", -1, d.x.hours(0));
        due("too many", -1, d.x.hours(101));
        due("below", -1, d.x.hours(-1));
        due("refused", 3, d.x.status(3));
        due("no act", 0, d.x.has(9));
        due("no pane", -1, new OnePane().hours(1));
        due("2", 0, d.x.hours(2));
        due("tired", 2, d.x.person(0, 3));
        due("1", 1, d.x.hours(1));
        due("rested", 1, d.x.person(0, 3));
        due("4", 4, d.x.hours(4));
        due("100", 0, d.x.hours(100));
        due("hour", 107, d.x.has(3));
        due("acts", 4, d.x.has(9));
        d.with("pane 2 by 2 tough 9;pole a at 0 0 lifts 1;pole b at 1 1 lifts 1;");
        d.x.rest(1, 1);
        for (int i = 0; i < 9; i++) {
            d.x.hours(100);
        }
        due("99 at most", 99, d.x.person(0, 3));
        due("0 at least", 0, d.x.person(1, 3));
        d.x.hours(100);
        due("HOUR 999 at most", 999, d.x.has(3));
        d.x.rest(0, 1);
        d.x.hours(2);
        due("hours pass still", 97, d.x.person(0, 3));
        due("all by what is ahead", 1, new Desk().with("pane 2 by 2 tough 1;heavy 0 0 2;adds 5;").x.hours(1));
        due("and go on", 4, new Desk().with("pane 2 by 2 tough 1;heavy 0 0 2;adds 5;").x.hours(3));
    }

    private static int draw(long[] seed, int range) {
        seed[0] = (1103515245L * seed[0] + 12345L) % 2147483648L;
        return (int) (seed[0] / 64 % range);
    }

    private static void p28() {
        topic("28 chance");
        Desk d = new Desk().with("pane 3 by 2 tough 5;hail 18;");
        due("a draw of 18", 0, d.x.chance(1));
        d.x.seed(1);
        d.with("pane 3 by 2 tough 5;hail 19;");
        due("below hail", 1, d.x.chance(1));
        long[] seed = {1};
        draw(seed, 100);
        int struck = draw(seed, 6);
        due("one cracks", 1, d.x.has(4));
        due("that one", 1, d.x.cell(struck % 3, struck / 3, 1));
        due("in this hour alone", 1, d.x.cell((struck + 1) % 3, 1 - struck / 3, 0));
        due("kept", struck % 3, d.x.kept(0, 1));
        due("kept", struck / 3, d.x.kept(0, 2));
        due("none", -1, d.x.chance(0));
        due("too many", -1, d.x.chance(101));
        due("refused", 2, d.x.status(3));
        due("no pane", -1, new OnePane().chance(1));
        d.with("pane 2 by 2 tough 20;hail 100;");
        due("always", 100, d.x.chance(100));
        due("one act", 1, d.x.has(9));
        due("stone is 20: 21 is more than tough", 4, d.x.has(4));
        d.with("pane 2 by 2 tough 21;hail 100;adds 0;");
        due("always", 100, d.x.chance(100));
        due("borne", 0, d.x.has(4));
        d.with("pane 3 by 3 tough 9;");
        due("without hail", 0, d.x.chance(100) + d.x.chance(100) + d.x.chance(100));
        d.with("pane 3 by 3 tough 9;hail 0;");
        due("never", 0, d.x.chance(50));
        d.x.seed(1);
        d.with("pane 2 by 3 tough 9;hail 40;");
        seed[0] = 1;
        int hailed = 0;
        for (int i = 0; i < 60; i++) {
            if (draw(seed, 100) < 40) {
                draw(seed, 6);
                hailed++;
            }
        }
        due("a run of draws", hailed, d.x.chance(20) + d.x.chance(40));
    }

    private static void p29() {
        topic("29 undo");
        Desk d = new Desk().with(TOWN);
        due("nothing", false, d.x.undo());
        d.x.hours(3);
        d.x.rest(1, 1);
        d.x.go(0, 1, 1);
        d.x.mend(1, 0);
        d.x.seed(5);
        d.x.chance(9);
        long[] seed = {5};
        due("undo chance", true, d.x.undo());
        has(d, 3, 2, 2, 3, 0, 1, 1, 1, 0, 4);
        due("undo mend", true, d.x.undo());
        due("cracked", 1, d.x.cell(1, 0, 1));
        due("undo go", true, d.x.undo());
        due("back", 0, d.x.cell(0, 0, 3));
        due("undo rest", true, d.x.undo());
        due("called", 0, d.x.has(6));
        due("undo hours", true, d.x.undo());
        has(d, 3, 2, 2, 0, 0, 2, 0, 0, 0, 0);
        due("not tired", 0, d.x.person(0, 3));
        due("nothing more", false, d.x.undo());
        due("refused", 2, d.x.status(4));
        d.with("pane 2 by 2 tough 90;hail 50;");
        d.x.seed(5);
        int first = d.x.chance(64);
        d.x.undo();
        int second = d.x.chance(64);
        for (int i = 0; i < 64; i++) {
            if (draw(seed, 100) < 50) {
                draw(seed, 4);
                first--;
            }
        }
        for (int i = 0; i < 64; i++) {
            if (draw(seed, 100) < 50) {
                draw(seed, 4);
                second--;
            }
        }
        due("first run", 0, first);
        due("the seed stays behind undo", 0, second);
        for (int i = 0; i < 25; i++) {
            d.x.hours(1);
        }
        due("20 at most", 20, d.x.has(9));
        for (int i = 0; i < 20; i++) {
            due("undo", true, d.x.undo());
        }
        due("no more", false, d.x.undo());
        due("hour", 64 + 5, d.x.has(3));
    }

    private static void p30() {
        topic("30 seed");
        Desk d = new Desk();
        due("-1", false, d.x.seed(-1));
        due("least", false, d.x.seed(Integer.MIN_VALUE));
        due("refused", 2, d.x.status(5));
        due("0", true, d.x.seed(0));
        due("most", true, d.x.seed(Integer.MAX_VALUE));
        d.with("pane 2 by 2 tough 99;hail 37;");
        long[] seed = {Integer.MAX_VALUE};
        int hailed = 0;
        for (int i = 0; i < 100; i++) {
            if (draw(seed, 100) < 37) {
                draw(seed, 4);
                hailed++;
            }
        }
        due("by that seed", hailed, d.x.chance(100));
        due("no act", 1, d.x.has(9));
    }

    private static void p31() {
        topic("31 ask");
        Desk d = new Desk().with("pane 2 by 2 tough 9;pole a at 1 0 lifts 7;");
        String[] sums = {"7/2", "(0-7)/2", "7/(0-2)", "(0-7)/(0-2)", "5/0", "7-2-1", "2+3*4", "(2+3)*4", "100/10/3", "12/5*5",
            "9999*9999", "0-9999*9999", "9999*9999+5-5", "0-9999*9999-5+5", "min(3,2)+max(3,2)*10", "number", "column", "row",
            "lifts", "tired", "near", "holds", "hour", "cracks", "far 0", "far 1", "far(0-1)", "0003"};
        long[] due = {3, -4, -4, 3, 0, 4, 14, 20, 3, 10, 1000000, -1000000, 999995, -999995, 32, 0, 1, 0, 7, 0, 0, 1, 0, 0, 0, 0, 0, 3};
        for (int i = 0; i < sums.length; i++) {
            due("total " + sums[i], due[i], d.ask("total " + sums[i]));
        }
        String[] tests = {"all", "not all", "1<2", "2<2", "2>1", "2>2", "2=2", "2=1", "1=1 or 1=1 and 1=2", "[1=1 or 1=1] and 1=2",
            "not 1=1 or 1=1", "not [1=1 or 1=1]", "not not all"};
        int[] often = {1, 0, 1, 0, 1, 0, 1, 0, 1, 0, 1, 0, 1};
        for (int i = 0; i < tests.length; i++) {
            due("often " + tests[i], often[i], d.ask("often " + tests[i]));
        }
        d.with(TOWN);
        d.x.hours(3);
        d.x.rest(0, 1);
        due("first", 0, d.ask("first lifts>4"));
        due("first", 1, d.ask("first holds=1"));
        due("last", 1, d.ask("last lifts>4"));
        due("last", 0, d.ask("last holds=0"));
        due("first of none", -1, d.ask("first lifts>8"));
        due("last of none", -1, d.ask("last lifts>8"));
        due("often", 2, d.ask("often tired=1 and hour=3 and cracks=1"));
        due("total", 13, d.ask("total lifts"));
        due("most", 8, d.ask("most lifts"));
        due("least", 5, d.ask("least lifts"));
        due("least below 0", -8, d.ask("least 0-lifts"));
        due("most below 0", -5, d.ask("most 0-lifts"));
        due("far", 2, d.ask("most far(1-number)"));
        due("far of far", 2, d.ask("total far far 7"));
        due("total is not limited", 2000000, d.ask("total 9999*9999"));
        due("blanks", 2, d.ask("\n often\nall \n"));
        d.with("pane 2 by 2 tough 9;");
        due("nobody", -1, d.ask("first all"));
        due("nobody", -1, d.ask("last all"));
        due("nobody", 0, d.ask("often all") + d.ask("total 1") + d.ask("most 1") + d.ask("least 1"));
    }

    private static void p31faults() {
        topic("31 ask, faults");
        Desk d = new Desk().with(TOWN);
        d.dueAskFault("", 1, 0);
        d.dueAskFault("  ", 1, 2);
        d.dueAskFault("often", 1, 5);
        d.dueAskFault("seldom all", 1, 0);
        d.dueAskFault("often all", 0, -1);
        d.dueAskFault("often all;", 1, 9);
        d.dueAskFault("often all all", 1, 10);
        d.dueAskFault("often 1", 1, 7);
        d.dueAskFault("total all", 1, 6);
        d.dueAskFault("total weight", 1, 6);
        d.dueAskFault("total ann", 1, 6);
        d.dueAskFault("total 12345", 1, 10);
        d.dueAskFault("total far", 1, 9);
        d.dueAskFault("total far3", 1, 9);
        d.dueAskFault("total 1=1", 1, 7);
        d.dueAskFault("total far far far far far far 1", 0, -1);
        d.dueAskFault("total far far far far far far far 1", 4, 30);
        d.dueAskFault("total far far far far far far (1)", 4, 30);
        d.dueAskFault("total far far far far far far 1+far far 1", 0, -1);
        d.dueAskFault("first not not [far (far 1)=1]", 0, -1);
        d.dueAskFault("first not not [far (far (1))=1]", 4, 24);
        due("refused are none", 0, d.x.status(1) + d.x.status(5));
        d.pane("pane 3 by");
        due("a fault of a pane", 9, d.x.fault(1));
        d.ask("often all");
        due("the latest counts", 0, d.x.fault(0));
        due("the latest counts", -1, d.x.fault(1));
        d.text("often");
        d.x.ask();
        due("the tape goes", 20, d.x.feed(0, 0, 0, 0, 0));
        Desk none = new Desk();
        none.pane("x");
        due("no pane", OnePane.NOTHING, none.ask("often all"));
        due("nothing else is done", 1, none.x.fault(0));
        due("but the tape goes", 20, none.x.feed(0, 0, 0, 0, 0));
    }

    private static void p32() {
        topic("32, 33 image, octet");
        Desk d = new Desk().with(TOWN);
        late(d, 700);
        d.x.hours(3);
        d.x.rest(1, 1);
        d.x.go(0, 1, 1);
        due("image", 17, d.x.image());
        int[] due = {2, 191, 0, 1, 0, 0, 0, 0, 1, 1, 1, 0, 2, 0, 1, 1, 0};
        checked(due);
        for (int k = 0; k < 17; k++) {
            due("octet " + k, due[k], d.x.octet(k));
        }
        due("octet -1", -1, d.x.octet(-1));
        due("octet 17", -1, d.x.octet(17));
        d.x.hours(1);
        d.with("pane 2 by 2 tough 1;");
        due("the latest stays", 191, d.x.octet(1));
        due("image", 7, d.x.image());
        due("the new one", -1, d.x.octet(7));
        due("no pane", 3, new OnePane().image());
    }

    private static void p34() {
        topic("34 on");
        Desk d = new Desk().with(TOWN);
        d.x.hours(4);
        d.x.rest(1, 1);
        d.x.go(0, 0, 1);
        int[] image = imageOf(d.x);
        d.with(TOWN);
        d.x.hours(1);
        d.bytes(image);
        due("on", true, d.x.on());
        has(d, 3, 2, 2, 4, 2, 0, 1, 0, 0, 0);
        due("place", 1, d.x.person(0, 1));
        due("tired", 2, d.x.person(0, 3));
        due("cracked", 1, d.x.cell(1, 1, 1));
        due("the tape goes", 20, d.x.feed(0, 0, 0, 0, 0));
        d.x.end(0);
        d.x.hours(3);
        due("HOUR 999", true, onHour(d, 999));
        due("HOUR 1000", false, onHour(d, 1000));
        due("a cell 2", false, onWith(d, 2, 2));
        due("a cell 1", true, onWith(d, 2, 1));
        due("column", false, onWith(d, 8, 3));
        due("row", false, onWith(d, 9, 2));
        due("tired 99", true, onWith(d, 10, 99));
        due("tired 100", false, onWith(d, 10, 100));
        due("rest 2", false, onWith(d, 11, 2));
        due("rest 1", true, onWith(d, 11, 1));
        due("two on one: ann to 0 0", true, onWith(d, 9, 0));
        due("two on one: bo to 0 0", false, onWith(d, 12, 0));
        image = imageOf(d.x);
        image[16] = (image[16] + 1) % 251;
        d.bytes(image);
        due("the last byte", false, d.x.on());
        d.bytes(java.util.Arrays.copyOf(checked(imageOf(d.x)), 16));
        due("too short", false, d.x.on());
        d.bytes(java.util.Arrays.copyOf(checked(imageOf(d.x)), 18));
        due("too long", false, d.x.on());
        due("refused", 10, d.x.status(5));
        due("the tape goes", 20, d.x.feed(0, 0, 0, 0, 0));
        d.x.end(0);
        due("all stays", 999, d.x.has(3));
        due("all stays", 99, d.x.person(0, 3));
        Desk none = new Desk();
        none.bytes(0, 0, 139);
        due("no pane", false, none.x.on());
        due("refused", 1, none.x.status(5));
        due("the tape goes", 20, none.x.feed(0, 0, 0, 0, 0));
        d.with(TOWN);
        d.x.seed(9);
        long[] seed = {9};
        d.bytes(imageOf(d.x));
        d.x.on();
        due("the seed stays", draw(seed, 100) < 50 ? 1 : 0, d.x.chance(1));
    }

    private static boolean onHour(Desk d, int hour) {
        int[] image = imageOf(d.x);
        image[0] = hour >> 8;
        image[1] = hour & 255;
        d.bytes(checked(image));
        return d.x.on();
    }

    private static void p35() {
        topic("35 status");
        Desk d = new Desk();
        d.x.end(-1);
        d.x.pane();
        d.x.sound();
        d.x.rest(0, 0);
        d.x.go(0, 0, 0);
        d.x.mend(0, 0);
        d.x.hours(1);
        d.x.chance(1);
        d.x.hours(2);
        d.x.chance(2);
        for (int i = 0; i < 5; i++) {
            d.x.undo();
        }
        for (int i = 0; i < 3; i++) {
            d.x.seed(-1);
            d.x.on();
        }
        int[] due = {1, 2, 3, 4, 5, 6, -1};
        for (int what = 0; what < 7; what++) {
            due("status " + what, due[what], d.x.status(what));
        }
        due("status -1", -1, d.x.status(-1));
    }

    public static void main(String[] args) {
        p16();
        p17();
        p18();
        p19();
        p20();
        p21();
        p22();
        p23();
        p24();
        p25();
        p26();
        p27();
        p28();
        p29();
        p30();
        p31();
        p31faults();
        p32();
        p34();
        p35();
        Desk.close("promises 16 to 35");
    }
}
