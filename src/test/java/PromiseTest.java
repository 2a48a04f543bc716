/** Each promise by answers that were reckoned by hand: ordinary inputs, edges, wrong inputs. */
public final class PromiseTest extends PromiseBase {
    private static void p1() {
        topic("1 new");
        OnePane x = new OnePane();
        for (int what = 0; what <= 9; what++) {
            due("has(" + what + ")", 0, x.has(what));
        }
        for (int what = 0; what <= 5; what++) {
            due("status(" + what + ")", 0, x.status(what));
        }
        due("NONE", -1, OnePane.NONE);
        due("NOTHING", -1000000000000000L, OnePane.NOTHING);
        due("fault(0)", 0, x.fault(0));
        due("fault(1)", -1, x.fault(1));
        due("octet(0)", -1, x.octet(0));
        due("free()", 0, x.free());
        due("next()", -1, x.next());
        due("undo()", false, x.undo());
    }

    private static void p2() {
        topic("2 feed");
        OnePane x = new OnePane();
        for (int i = 1; i <= 80; i++) {
            due("feed", 20 * i, x.feed(i, -1, 0, 7, Integer.MIN_VALUE));
        }
        due("feed beyond", -1, x.feed(1, 2, 3, 4, 5));
        due("status", 1, x.status(0));
        due("end", true, x.end(1581));
        due("feed beyond by one", -1, x.feed(1, 2, 3, 4, 5));
        due("end", true, x.end(1580));
        due("feed to the brim", 1600, x.feed(1, 2, 3, 4, 5));
        due("status", 2, x.status(0));
        Desk d = new Desk().with("pane 3 by 2 tough 0;pole a at 0 0 lifts 9;fades 0;");
        d.x.feed(0x020101FC, 0x01000200, 0xFFFFFFFF, 0, 0);
        d.x.end(4);
        due("highest byte first", 1, d.x.sound());
        due("the slack 8 of cell 2 1", 1, d.x.who(0));
        d.x.feed(0x0000FFFF, 0, 0, 0, 0);
        d.x.end(4);
        due("bytes have no sign", 1, d.x.sound());
        due("none fits", 0, d.x.who(0));
        due("bytes of the negative", -1, d.pane("\u00ff"));
        due("fault", 1, d.x.fault(0));
    }

    private static void p3() {
        topic("3 end");
        OnePane x = new OnePane();
        due("end(0) of nothing", true, x.end(0));
        due("end(1) of nothing", false, x.end(1));
        x.feed(0, 0, 0, 0, 0);
        due("end(21)", false, x.end(21));
        due("end(-1)", false, x.end(-1));
        due("end(20)", true, x.end(20));
        due("end(7)", true, x.end(7));
        due("feed behind", 27, x.feed(0, 0, 0, 0, 0));
        due("end(8)", true, x.end(8));
        due("end(9)", false, x.end(9));
        due("status", 4, x.status(0));
    }

    private static void p4() {
        topic("4 pane");
        Desk d = new Desk();
        due("statements", 10, d.pane(TOWN));
        due("the tape goes", 20, d.x.feed(0, 0, 0, 0, 0));
        d.x.end(0);
        d.x.seed(77);
        d.x.hours(7);
        d.x.rest(0, 1);
        d.bytes(1, 0, 1, 248);
        d.x.sound();
        due("a fault", -1, d.pane("pane 2 by 2 tough 1;pole x at 0 0 lifts 1"));
        due("refused", 1, d.x.status(1));
        due("the tape goes with a fault", 20, d.x.feed(0, 0, 0, 0, 0));
        d.x.end(0);
        has(d, 3, 2, 2, 7, 5, 1, 1, 5, 1, 2);
        due("name stays", 1, d.x.letter(0, 0));
        due("one statement", 1, d.pane("pane 2 by 2 tough 1;"));
        has(d, 2, 2, 0, 0, 0, 0, 0, 0, 0, 0);
        due("refused stays", 1, d.x.status(1));
        d.with("pane 2 by 2 tough 99;hail 100;");
        Desk fresh = new Desk().with("pane 2 by 2 tough 99;hail 100;stone 0;");
        fresh.x.seed(77);
        d.with("pane 2 by 2 tough 99;hail 50;");
        fresh.with("pane 2 by 2 tough 99;hail 50;");
        due("the seed stays", fresh.x.chance(100), d.x.chance(100));
        d.with(TOWN);
        due("weight without heavy", 1, d.x.cell(0, 0, 0));
        d.with("pane 2 by 2 tough 0;heavy 0 0 5;heavy 0 0 7;");
        due("the last heavy", 7, d.x.cell(0, 0, 0));
        d.with("pane 2 by 2 tough 0;fades 50;pole a at 0 0 lifts 60;fades 20;");
        due("the last fades, also behind", 40, d.x.lifts(0, 1, 0));
        d.with("pane 2 by 2 tough 0;pole a at 0 0 lifts 60;");
        due("fades is 3", 54, d.x.lifts(0, 1, 1));
        due("blanks", 2, d.pane("\n pane\n2 by 3\ntough 4\n;hail  5;\n \n"));
        due("rows", 3, d.x.has(1));
        due("no blank at signs", 3, d.pane("pane 2 by 2 tough 4;adds(weight)*2;holds[hour<3]and all;"));
    }

    private static void p5() {
        topic("5 fault");
        Desk d = new Desk().with(TOWN);
        String b = "pane 3 by 3 tough 4;";
        due("fault(2)", -1, d.x.fault(2));
        due("fault(-1)", -1, d.x.fault(-1));
        d.dueFault("", 1, 0);
        d.dueFault("   ", 1, 3);
        d.dueFault("pane", 1, 4);
        d.dueFault("pan 3", 1, 0);
        d.dueFault(" pan", 1, 1);
        d.dueFault("panes 3", 1, 0);
        d.dueFault("heavy 0 0 1;", 1, 0);
        d.dueFault("pane3 by 3", 1, 4);
        d.dueFault("pane 3by 3 tough 4;", 1, 6);
        d.dueFault("pane 1 by 3", 2, 5);
        d.dueFault("pane 7 by 3", 2, 5);
        d.dueFault("pane 2 by 1", 2, 10);
        d.dueFault("pane 2 by 7", 2, 10);
        d.dueFault("pane 0002 by 06 tough 0099;", 0, -1);
        d.dueFault("pane 6 by 6 tough 0;", 0, -1);
        d.dueFault("pane 00002 by", 1, 9);
        d.dueFault("pane 3 by 3 tough 100;", 2, 18);
        d.dueFault("pane 3 by 3 tough 4", 1, 19);
        d.dueFault("pane 3 by 3 tough 4 ", 1, 20);
        d.dueFault("pane 3 by 3 tough 4 12345;", 1, 20);
        d.dueFault("pane\t3", 1, 4);
        d.dueFault("PANE 3", 1, 0);
        d.dueFault(b + ";", 1, 20);
        d.dueFault(b + "pane 3 by 3 tough 4;", 1, 20);
        d.dueFault(b + "weight 1;", 1, 20);
        d.dueFault(b + "heavy 0 0 100;", 2, 30);
        d.dueFault(b + "heavy 2 2 99;", 0, -1);
        d.dueFault(b + "heavy 3 0 0;", 2, 26);
        d.dueFault(b + "heavy 0 3 0;", 2, 28);
        d.dueFault(b + "heavy 0 0;", 1, 29);
        d.dueFault(b + "fades 100;", 2, 26);
        d.dueFault(b + "stone 100;", 2, 26);
        d.dueFault(b + "hail 101;", 2, 25);
        d.dueFault(b + "fades 99;stone 99;hail 100;", 0, -1);
    }

    private static void p5poles() {
        topic("5 fault of poles");
        Desk d = new Desk();
        String b = "pane 3 by 3 tough 4;";
        String a = b + "pole a at 1 2 lifts 5;";
        d.dueFault(b + "pole abcdef at 0 0 lifts 99;", 0, -1);
        d.dueFault(b + "pole abcdefg at 0 0 lifts 1;", 1, 31);
        d.dueFault(b + "pole weight at 0 0 lifts 1;", 1, 25);
        d.dueFault(b + "pole weights at 0 0 lifts 1;", 1, 31);
        d.dueFault(b + "pole first at 0 0 lifts 1;", 0, -1);
        for (String own : Oracle.OWN) {
            d.dueFault(b + "pole " + own + " at 0 0 lifts 1;", 1, 25);
        }
        d.dueFault(b + "pole a1 at 0 0 lifts 1;", 1, 26);
        d.dueFault(b + "pole 1 at", 1, 25);
        d.dueFault(b + "pole A at", 1, 25);
        d.dueFault(b + "pole", 1, 24);
        d.dueFault(b + "pole x at 3 0 lifts 1;", 2, 30);
        d.dueFault(b + "pole x at 0 3 lifts 1;", 2, 32);
        d.dueFault(b + "pole x at 0 0 lifts 100;", 2, 40);
        d.dueFault(b + "pole x at 0 0 lift 1;", 1, 34);
        d.dueFault(a + "pole a at 0 0 lifts 5;", 3, 47);
        d.dueFault(a + "pole aa at 0 0 lifts 5;", 0, -1);
        d.dueFault(a + "pole b at 1 2 lifts 5;", 2, 54);
        d.dueFault(a + "pole b at 2 1 lifts 5;", 0, -1);
        StringBuilder ten = new StringBuilder(b);
        for (int i = 0; i < 9; i++) {
            ten.append("pole ").append((char) ('a' + i)).append(" at ").append(i % 3).append(" ").append(i / 3).append(" lifts 1;");
        }
        d.dueFault(ten + "pole j at 0 0 lifts 1;", 2, ten.length() + 12);
        String wide = ten.toString().replace("pane 3 by 3", "pane 4 by 3") + "pole j at 3 0 lifts 1;";
        d.dueFault(wide, 0, -1);
        d.dueFault(wide + " pole a at 0 0 lifts 1;", 5, wide.length() + 1);
        d.dueFault(wide + "pole", 5, wide.length());
        d.dueFault(b + "adds weight;adds 1;", 5, 32);
        d.dueFault(b + "holds all;adds 1;holds all;", 5, 37);
        String eighty = b + "fades 1;".repeat(79);
        due("eighty", 80, d.pane(eighty));
        due("eighty and blanks", 80, d.pane(eighty + "  \n"));
        d.dueFault(eighty + "fades 1;", 5, 652);
        d.dueFault(eighty + "  !", 5, 654);
    }

    private static void p5rules() {
        topic("5 fault of rules");
        Desk d = new Desk();
        String b = "pane 3 by 3 tough 4;";
        d.dueFault(b + "adds 12345;", 1, 29);
        d.dueFault(b + "adds 9999;", 0, -1);
        d.dueFault(b + "adds 1 2;", 1, 27);
        d.dueFault(b + "adds lifts;", 1, 25);
        d.dueFault(b + "adds tired;", 1, 25);
        d.dueFault(b + "adds near;", 1, 25);
        d.dueFault(b + "adds 1<2;", 1, 26);
        d.dueFault(b + "adds hour+cracks*weight;", 0, -1);
        d.dueFault(b + "adds ;", 1, 25);
        d.dueFault(b + "adds 1+;", 1, 27);
        d.dueFault(b + "adds -1;", 1, 25);
        d.dueFault(b + "adds (1;", 1, 27);
        d.dueFault(b + "adds min 1;", 1, 29);
        d.dueFault(b + "adds min(1);", 1, 30);
        d.dueFault(b + "adds min;", 1, 28);
        d.dueFault(b + "adds 1 43 1;", 1, 27);
        d.dueFault(b + "adds min(((((1))))),2);", 1, 38);
        d.dueFault(b + "adds min((((((1))))),2);", 0, -1);
        d.dueFault(b + "adds min(((((((1)))))),2);", 4, 34);
        d.dueFault(b + "adds min(2,(((((1))))));", 0, -1);
        d.dueFault(b + "adds min(2,((((((1)))))));", 4, 36);
        d.dueFault(b + "adds max(1,2;", 1, 32);
        d.dueFault(b + "adds hour3;", 1, 29);
        d.dueFault(b + "adds far 1;", 1, 25);
        d.dueFault(b + "holds weight=1;", 1, 26);
        d.dueFault(b + "holds number=1;", 1, 26);
        d.dueFault(b + "holds holds=1;", 1, 26);
        d.dueFault(b + "holds 1;", 1, 27);
        d.dueFault(b + "holds 1=1=1;", 1, 29);
        d.dueFault(b + "holds 1<1 and;", 1, 33);
        d.dueFault(b + "holds 1<1or all;", 1, 29);
        d.dueFault(b + "holds notall;", 1, 26);
        d.dueFault(b + "holds [1=1;", 1, 30);
        d.dueFault(b + "holds (1=1);", 1, 28);
        d.dueFault(b + "holds all all;", 1, 30);
        d.dueFault(b + "holds near=1 or lifts>2 and tired<3 or not[hour=cracks];", 0, -1);
        d.dueFault(b + "adds ((((((1))))));", 0, -1);
        d.dueFault(b + "adds (((((((1)))))));", 4, 31);
        d.dueFault(b + "adds (((((max(1,2))))));", 0, -1);
        d.dueFault(b + "adds ((((((max(1,2)))))));", 4, 34);
        d.dueFault(b + "adds (1)+(1)+(1)+(1)+(1)+(1)+(1)+(1);", 0, -1);
        d.dueFault(b + "holds not not not not not not 1=1;", 0, -1);
        d.dueFault(b + "holds not not not not not not not 1=1;", 4, 50);
        d.dueFault(b + "holds not not not not not not (1)=1;", 4, 50);
        d.dueFault(b + "holds not not not not not not 1=1 and not 1=1;", 0, -1);
        d.dueFault(b + "holds [[[[[[all]]]]]];", 0, -1);
        d.dueFault(b + "holds [[[[[[[all]]]]]]];", 4, 32);
        d.dueFault(b + "holds [not [(1)=1 or not [not all]]];", 0, -1);
        d.dueFault(b + "holds [not [(1)=1 or not [not [all]]]];", 4, 50);
        d.dueFault(b + "holds [[[[[[+", 1, 32);
    }

    private static void p5long() {
        topic("5 fault of long texts");
        Desk d = new Desk();
        String sum = "pane 2 by 2 tough 9;adds 1" + "+1".repeat(786) + ";";
        due("1599 bytes", 2, d.pane(sum));
        due("1600 bytes", 2, d.pane(sum + " "));
        d.x.hours(1);
        d.dueFault(sum + "+", 1, 1599);
        d.dueFault("(".repeat(1600), 1, 0);
        d.dueFault(sum.replace(";adds 1", ";adds +"), 1, 25);
        d.dueFault("pane 2 by 2 tough 9;" + "a".repeat(1580), 1, 20);
        d.dueFault("pane 2 by 2 tough 9;pole " + "a".repeat(1575), 1, 31);
        d.dueFault("pane 2 by 2 tough " + "9".repeat(1582), 1, 22);
        d.dueFault(" ".repeat(1600), 1, 1600);
        d.with("pane 2 by 2 tough 0;adds 1" + "+1".repeat(700) + ";");
        d.x.hours(1);
        due("a long sum", 1 + 2 * 701, d.x.cell(0, 0, 2));
    }

    private static void p6() {
        topic("6 has");
        Desk d = new Desk().with(TOWN);
        has(d, 3, 2, 2, 0, 0, 2, 0, 0, 0, 0);
        d.x.hours(5);
        d.x.rest(1, 1);
        d.bytes(0, 0, 0, 0, 1, 1, 1, 1);
        d.x.sound();
        has(d, 3, 2, 2, 5, 4, 1, 1, 4, 2, 2);
        due("has(10)", -1, d.x.has(10));
        due("has(-1)", -1, d.x.has(-1));
    }

    private static void p7() {
        topic("7 letter");
        Desk d = new Desk().with("pane 2 by 2 tough 1;pole az at 0 0 lifts 1;pole mnopqr at 1 0 lifts 1;");
        due("a", 1, d.x.letter(0, 0));
        due("z", 26, d.x.letter(0, 1));
        for (int k = 2; k < 6; k++) {
            due("behind", 0, d.x.letter(0, k));
        }
        for (int k = 0; k < 6; k++) {
            due("mnopqr", 13 + k, d.x.letter(1, k));
        }
        due("letter 6", -1, d.x.letter(1, 6));
        due("letter -1", -1, d.x.letter(1, -1));
        due("person 2", -1, d.x.letter(2, 0));
        due("person -1", -1, d.x.letter(-1, 0));
    }

    private static void p8() {
        topic("8 cell");
        Desk d = new Desk().with(TOWN);
        due("weight", 9, d.x.cell(1, 0, 0));
        due("weight 0", 0, d.x.cell(2, 1, 0));
        due("who", 1, d.x.cell(2, 0, 3));
        due("nobody", -1, d.x.cell(1, 0, 3));
        due("load", 9, d.x.cell(1, 0, 2));
        d.x.hours(3);
        due("cracked", 1, d.x.cell(1, 0, 1));
        due("not cracked", 0, d.x.cell(0, 0, 1));
        due("load beside", 11, d.x.cell(0, 0, 2));
        due("load below", 11, d.x.cell(1, 1, 2));
        due("load across", 1, d.x.cell(0, 1, 2));
        due("load of the cracked", 9, d.x.cell(1, 0, 2));
        due("other", -1, d.x.cell(1, 0, 4));
        due("other", -1, d.x.cell(1, 0, -1));
        due("none such", -1, d.x.cell(3, 0, 0));
        due("none such", -1, d.x.cell(0, 2, 0));
        due("none such", -1, d.x.cell(-1, 0, 0));
        due("none such", -1, d.x.cell(0, -1, 0));
        d.with("pane 2 by 2 tough 0;adds 9999*weight;heavy 1 1 0;heavy 1 0 0;heavy 0 1 0;");
        d.x.hours(1);
        due("adds at most 999", 999, d.x.cell(1, 0, 2));
        d.with("pane 2 by 2 tough 0;adds 0-5;");
        d.x.hours(1);
        due("adds at least 0", 1, d.x.cell(1, 0, 2));
        d.with("pane 2 by 2 tough 0;adds hour*10+cracks;");
        d.x.hours(3);
        due("adds by hour and cracks", 1 + 2 * 34, d.x.cell(1, 0, 2));
    }

    private static void p9() {
        topic("9 slack");
        Desk d = new Desk().with(TOWN);
        long[] due = {12, 4, 12, 9, 8, 9};
        for (int i = 0; i < 6; i++) {
            due("slack " + i, due[i], d.x.slack(i % 3, i / 3));
        }
        d.x.hours(2);
        due("nobody holds", -5, d.x.slack(1, 0));
        due("none such", OnePane.NOTHING, d.x.slack(3, 0));
        due("none such", OnePane.NOTHING, d.x.slack(0, 2));
        due("none such", OnePane.NOTHING, d.x.slack(-1, 0));
        due("none such", OnePane.NOTHING, d.x.slack(0, -1));
        d.x.hours(1);
        due("of a cracked one", 4, d.x.slack(1, 0));
        due("beside", 2, d.x.slack(0, 0));
    }

    private static void p10() {
        topic("10 person");
        Desk d = new Desk().with(TOWN);
        d.x.hours(1);
        d.x.rest(1, 1);
        int[] ann = {0, 0, 8, 1, 1, 0, -1};
        int[] bo = {2, 0, 5, 1, 0, 1, -1};
        for (int what = 0; what < 7; what++) {
            due("ann " + what, ann[what], d.x.person(0, what));
            due("bo " + what, bo[what], d.x.person(1, what));
        }
        due("other", -1, d.x.person(0, -1));
        due("none such", -1, d.x.person(2, 0));
        due("none such", -1, d.x.person(-1, 0));
        d.with("pane 3 by 3 tough 1;pole a at 0 0 lifts 1;pole b at 1 0 lifts 2;pole c at 1 1 lifts 3;pole d at 2 2 lifts 4;holds near=1;");
        for (int p = 0; p < 4; p++) {
            due("near of " + p, p == 0 || p == 2 ? 1 : 0, d.x.person(p, 4));
        }
        d.x.rest(1, 1);
        due("near counts who rests", 1, d.x.person(0, 4));
    }

    private static void p11() {
        topic("11 lifts");
        Desk d = new Desk().with(TOWN);
        int[] bo = {1, 3, 5, 0, 1, 3};
        for (int i = 0; i < 6; i++) {
            due("bo", bo[i], d.x.lifts(1, i % 3, i / 3));
        }
        d.x.rest(1, 1);
        due("at rest too", 3, d.x.lifts(1, 1, 0));
        due("none such", -1, d.x.lifts(2, 0, 0));
        due("none such", -1, d.x.lifts(-1, 0, 0));
        due("none such", -1, d.x.lifts(0, 3, 0));
        due("none such", -1, d.x.lifts(0, 0, 2));
        due("none such", -1, d.x.lifts(0, -1, 0));
    }

    private static void p12() {
        topic("12 kept");
        Desk d = new Desk().with(TOWN);
        d.x.hours(20);
        int[][] due = {{2, 1, 0}, {3, 1, 1}, {4, 0, 0}, {4, 2, 0}, {6, 0, 1}};
        due("told", 5, d.x.has(7));
        for (int k = 0; k < 5; k++) {
            for (int what = 0; what < 3; what++) {
                due("kept " + k + " " + what, due[k][what], d.x.kept(k, what));
            }
        }
        due("other", -1, d.x.kept(0, 3));
        due("other", -1, d.x.kept(0, -1));
        due("none such", -1, d.x.kept(5, 0));
        due("none such", -1, d.x.kept(-1, 0));
        d.with("pane 2 by 2 tough 0;");
        for (int round = 0; round < 11; round++) {
            due("all crack", 4, d.x.hours(1));
            for (int i = 0; i < 4; i++) {
                due("mend", true, d.x.mend(i % 2, i / 2));
            }
        }
        due("40 are told", 40, d.x.has(7));
        due("the oldest told", 1, d.x.kept(0, 0));
        due("the latest", 10, d.x.kept(39, 0));
        for (int i = 0; i < 5; i++) {
            d.x.undo();
        }
        due("40 behind undo", 40, d.x.has(7));
        due("the older is back", 0, d.x.kept(0, 0));
        due("the latest", 9, d.x.kept(39, 0));
    }

    private static void p13() {
        topic("13 later");
        Desk d = new Desk().with(TOWN);
        int[][] due = {{0, 3, 0}, {0, 3, 2}, {0, 0, 4}, {1, 3, 2}, {2, 0, 4}, {4, 3, 2}, {4, 0, 4}, {5, 3, 2}};
        for (int n = 0; n < 8; n++) {
            for (int what = 0; what < 3; what++) {
                due("later " + n + " " + what, due[n][what], d.x.later(n, what));
            }
        }
        due("later 60", 5, d.x.later(60, 0));
        due("later 61", -1, d.x.later(61, 0));
        due("later -1", -1, d.x.later(-1, 0));
        due("other", -1, d.x.later(1, 3));
        due("other", -1, d.x.later(1, -1));
        has(d, 3, 2, 2, 0, 0, 2, 0, 0, 0, 0);
        late(d, 997);
        due("to HOUR 999", 0, d.x.later(2, 0));
        due("beyond HOUR 999", -1, d.x.later(3, 0));
        d.with("pane 2 by 2 tough 0;hail 100;stone 99;heavy 0 0 0;heavy 1 0 0;heavy 0 1 0;heavy 1 1 0;");
        due("without draws", 0, d.x.later(60, 0));
    }

    private static void p14() {
        topic("14 next");
        Desk d = new Desk().with(TOWN);
        due("next", 3, d.x.next());
        d.x.hours(1);
        due("next", 2, d.x.next());
        d.x.hours(6);
        due("none", -1, d.x.next());
        d.with("pane 2 by 2 tough 0;holds hour<59;pole a at 0 0 lifts 99;fades 0;");
        due("the 60th", 60, d.x.next());
        d.with("pane 2 by 2 tough 0;holds hour<60;pole a at 0 0 lifts 99;fades 0;");
        due("the 61st", -1, d.x.next());
        due("not kept", 0, d.x.has(7));
        d.with(TOWN);
        late(d, 996);
        due("in the last", 3, d.x.next());
        late(d, 997);
        due("too late", -1, d.x.next());
        late(d, 999);
        due("no hour ahead", -1, d.x.next());
    }

    private static void p15() {
        topic("15 lasts");
        Desk d = new Desk().with(TOWN);
        due("as it is", 0, d.x.lasts(2));
        due("never", -1, d.x.lasts(3));
        due("lasts 0", -1, d.x.lasts(0));
        due("lasts 31", -1, d.x.lasts(31));
        d.with("pane 2 by 2 tough 0;pole a at 0 0 lifts 0;fades 0;holds lifts<4;heavy 0 0 2;");
        due("lifts is asked", 2, d.x.lasts(30));
        d.with("pane 2 by 2 tough 0;pole a at 0 0 lifts 0;fades 0;holds lifts<4;heavy 0 0 4;");
        due("too strong to hold", -1, d.x.lasts(1));
        d.with("pane 2 by 2 tough 0;pole a at 0 0 lifts 0;fades 0;heavy 0 0 99;");
        due("99", 99, d.x.lasts(1));
        d.with("pane 2 by 2 tough 0;pole a at 0 0 lifts 0;fades 1;heavy 1 0 99;");
        due("100", -1, d.x.lasts(1));
        d.with("pane 2 by 2 tough 0;pole a at 0 0 lifts 2;pole b at 1 1 lifts 1;fades 0;heavy 0 0 9;");
        due("all are stronger", 3, d.x.lasts(9));
        late(d, 990);
        due("to HOUR 999", 3, d.x.lasts(9));
        due("beyond", -1, d.x.lasts(10));
        d.with("pane 2 by 2 tough 0;");
        d.x.hours(1);
        due("no cell more", 0, d.x.lasts(30));
    }

    public static void main(String[] args) {
        p1();
        p2();
        p3();
        p4();
        p5();
        p5poles();
        p5rules();
        p5long();
        p6();
        p7();
        p8();
        p9();
        p10();
        p11();
        p12();
        p13();
        p14();
        p15();
        Desk.close("promises 1 to 15");
    }
}
