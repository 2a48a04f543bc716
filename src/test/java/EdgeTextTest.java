import java.util.ArrayList;
import java.util.Arrays;
import java.util.List;

/** Terms I and IV, promises 2 to 5 and 31: each sentence that names an edge of a text, with a test of its own. */
public final class EdgeTextTest extends PromiseBase {
    private static final int BASE = 20;
    private static final String B = "pane 3 by 2 tough 4;";

    /** A pane as words, numbers and signs; ahead of each, what may stand there besides: n a number, w a name, - neither. */
    private static final String[] MARKED = ("-pane n3 -by n2 -tough n4 -; -heavy n0 n1 n5 -; -pole wa -at n0 n0 -lifts n9 -; -adds nmin -( n( nweight "
        + "-+ ncracks -) -* n3 -, nmax -( n1 -, nhour -) -- n7 -/ n1 -) -; -holds nnot n[ nlifts -< n3 -or nhour -> ntired -and nnear -= n0 "
        + "-] -or nall -; -fades n2 -; -stone n1 -; -hail n5 -;").split(" ");

    private static void eightyAtMost() {
        topic("{ STATEMENT ; } (80 at most); 5 .. an 81st STATEMENT (whatever stands there), at its first byte");
        Desk d = new Desk();
        String most = B + "hail 1;".repeat(79);
        int end = BASE + 79 * 7;
        due("80", 80, d.pane(most));
        due("80, the last one of another kind", 80, d.pane(B + "hail 1;".repeat(78) + "holds all;"));
        due("80 and blanks", 80, d.pane(most + " \n "));
        for (String junk : new String[] {"hail 1;", "hail 1", "hail", "pane", "pole", "adds", "zzzzzzzzz", "12345", "1", "!", ";", "\u0000", "\u00ff"}) {
            d.dueFault(most + junk, 5, end);
            d.dueFault(most + " \n" + junk, 5, end + 2);
        }
        d.dueFault(most.substring(0, end - 1), 1, end - 1);
        d.dueFault(B + "hail 1;".repeat(78) + "hail 101;", 2, end - 7 + 5);
        d.dueFault(B + "hail 1;".repeat(78) + "pane", 1, end - 7);
        d.dueFault(B + "hail 1;".repeat(78) + "hail 1 hail 1;", 1, end);
    }

    private static void sides() {
        topic("pane N by N tough N (2 .. 6 columns, rows; 0 .. 99)");
        Desk d = new Desk();
        for (int n = 0; n <= 12; n++) {
            boolean fits = n >= 2 && n <= 6;
            int columns = d.x.has(0);
            int rows = d.x.has(1);
            d.dueFault("pane " + n + " by 3 tough 4;", fits ? 0 : 2, fits ? -1 : 5);
            due("columns", fits ? n : columns, d.x.has(0));
            due("rows", fits ? 3 : rows, d.x.has(1));
            d.dueFault("pane 3 by " + n + " tough 4;", fits ? 0 : 2, fits ? -1 : 10);
            due("columns", fits ? 3 : columns, d.x.has(0));
            due("rows", fits ? n : rows, d.x.has(1));
        }
        d.dueFault("pane 9999 by 3 tough 4;", 2, 5);
        d.dueFault("pane 3 by 9999 tough 4;", 2, 10);
        for (int tough : new int[] {0, 1, 98, 99}) {
            d.dueFault("pane 6 by 6 tough " + tough + ";", 0, -1);
            due("tough " + tough, tough - 1, d.x.slack(5, 5));
        }
        for (int tough : new int[] {100, 101, 999, 9999}) {
            d.dueFault("pane 6 by 6 tough " + tough + ";", 2, 18);
        }
    }

    private static void firstAndAlone() {
        topic("pane: the first STATEMENT, and it alone");
        Desk d = new Desk();
        for (String other : new String[] {"heavy 0 0 1;", "pole a at 0 0 lifts 1;", "adds 1;", "holds all;", "fades 1;", "stone 1;", "hail 1;"}) {
            d.dueFault(other, 1, 0);
            d.dueFault(" " + other + B, 1, 1);
            d.dueFault(B + other + B, 1, BASE + other.length());
            d.dueFault(B + other, 0, -1);
        }
        d.dueFault(B + B, 1, BASE);
    }

    private static void heavy() {
        topic("heavy N N N (a column, a row from 0 on, 0 .. 99; the last one of a CELL counts, 1 without)");
        Desk d = new Desk();
        d.dueFault(B + "heavy 0 0 0;heavy 2 1 99;", 0, -1);
        int[] due = {0, 1, 1, 1, 1, 99};
        for (int i = 0; i < 6; i++) {
            due("weight " + i, due[i], d.x.cell(i % 3, i / 3, 0));
        }
        d.dueFault(B + "heavy 3 1 1;", 2, BASE + 6);
        d.dueFault(B + "heavy 2 2 1;", 2, BASE + 8);
        d.dueFault(B + "heavy 2 1 100;", 2, BASE + 10);
        d.dueFault("pane 2 by 3 tough 4;heavy 1 2 1;", 0, -1);
        d.dueFault("pane 2 by 3 tough 4;heavy 2 1 1;", 2, BASE + 6);
        d.dueFault("pane 2 by 3 tough 4;heavy 1 3 1;", 2, BASE + 8);
        d.dueFault("pane 6 by 6 tough 4;heavy 5 5 1;", 0, -1);
        d.dueFault("pane 6 by 6 tough 4;heavy 6 5 1;", 2, BASE + 6);
        d.with(B + "heavy 1 1 50;heavy 0 1 7;heavy 1 1 0;");
        due("the last one, if it is less", 0, d.x.cell(1, 1, 0));
        due("of another cell", 7, d.x.cell(0, 1, 0));
        d.with(B + "heavy 1 1 0;heavy 1 1 50;");
        due("the last one, if it is more", 50, d.x.cell(1, 1, 0));
        d.with(B);
        due("of a pane ahead nothing is left", 1, d.x.cell(1, 1, 0));
    }

    private static void pole() {
        topic("pole NAME at N N lifts N (a CELL on which none stands; 0 .. 99; 10 PEOPLE); 2 .. (of a CELL on which one stands the row)");
        Desk d = new Desk();
        d.dueFault(B + "pole a at 0 0 lifts 0;pole b at 2 1 lifts 99;", 0, -1);
        due("0", 0, d.x.person(0, 2));
        due("99", 99, d.x.person(1, 2));
        d.dueFault(B + "pole a at 3 1 lifts 1;", 2, BASE + 10);
        d.dueFault(B + "pole a at 2 2 lifts 1;", 2, BASE + 12);
        d.dueFault(B + "pole a at 2 1 lifts 100;", 2, BASE + 20);
        d.dueFault("pane 2 by 3 tough 4;pole a at 1 2 lifts 1;", 0, -1);
        d.dueFault("pane 2 by 3 tough 4;pole a at 2 1 lifts 1;", 2, BASE + 10);
        String one = B + "pole a at 2 1 lifts 5;";
        int more = one.length();
        d.dueFault(one + "pole b at 2 1 lifts 5;", 2, more + 12);
        d.dueFault(one + "pole b at 2  1", 2, more + 13);
        d.dueFault(one + "pole b at 2 0 lifts 5;pole c at 1 1 lifts 5;", 0, -1);
        d.dueFault(one + "pole b at 1 1 lifts 5;pole c at 1 1 lifts 5;", 2, more + 22 + 12);
        StringBuilder ten = new StringBuilder("pane 4 by 3 tough 4;");
        for (int i = 0; i < 10; i++) {
            d.dueFault(ten.toString(), 0, -1);
            due("people", i, d.x.has(2));
            ten.append("pole ").append((char) ('z' - i)).append(" at ").append(i % 4).append(" ").append(i / 4).append(" lifts ").append(i).append(";");
        }
        d.dueFault(ten.toString(), 0, -1);
        due("ten", 10, d.x.has(2));
        due("the tenth", 9, d.x.person(9, 2));
        due("no eleventh", -1, d.x.person(10, 2));
        d.dueFault(ten + "hail 1;pole a at 2 2 lifts 1;", 5, ten.length() + 7);
        d.dueFault(ten + "\npole", 5, ten.length() + 1);
        d.dueFault(ten + "poles", 1, ten.length());
    }

    private static void oneEach() {
        topic("adds SUM, holds TEST (one each); 5 one too many of a kind (a second adds, holds, too), at its first byte");
        Desk d = new Desk();
        d.dueFault(B + "holds all;adds 1;", 0, -1);
        d.dueFault(B + "holds all;adds 1;holds all;", 5, BASE + 17);
        d.dueFault(B + "holds all;adds 1; adds 1;", 5, BASE + 18);
        d.dueFault(B + "adds 1;adds", 5, BASE + 7);
        d.dueFault(B + "holds all;holds ?", 5, BASE + 10);
        d.dueFault(B, 0, -1);
        d.dueFault(B + "adds 1;holds all;", 0, -1);
    }

    private static void lastOfEach() {
        topic("fades N (0 .. 99), stone N (0 .. 99), hail N (0 .. 100): the last one of each counts (3, 20, 0 without)");
        Desk d = new Desk();
        d.dueFault(B + "fades 0;fades 99;stone 0;stone 99;hail 0;hail 100;", 0, -1);
        d.dueFault(B + "fades 100;", 2, BASE + 6);
        d.dueFault(B + "stone 100;", 2, BASE + 6);
        d.dueFault(B + "hail 101;", 2, BASE + 5);
        String a = B + "pole a at 0 0 lifts 99;";
        int[] fades = {0, 3, 50, 98, 99};
        for (int n : fades) {
            d.with(a + "fades 1;fades " + n + ";");
            due("fades " + n, 99 - n, d.x.lifts(0, 1, 0));
        }
        d.with(a);
        due("3 without", 96, d.x.lifts(0, 1, 0));
        for (int n : new int[] {0, 1, 20, 99}) {
            d.with("pane 2 by 2 tough " + n + ";hail 100;stone 50;stone " + n + ";adds 0;heavy 0 0 0;heavy 1 0 0;heavy 0 1 0;heavy 1 1 0;");
            d.x.chance(50);
            due("stone " + n + " is borne", 0, d.x.has(4));
            d.with("pane 2 by 2 tough " + n + ";hail 100;stone 0;stone " + n + ";adds 0;");
            d.x.chance(1);
            due("stone " + n + " and 1 is too much", n == 0 ? 4 : 1, d.x.has(4));
        }
        d.with("pane 2 by 2 tough 21;hail 100;adds 0;");
        due("20 without: borne", 0, d.x.chance(50) - 50 + d.x.has(4));
        d.with("pane 2 by 2 tough 20;hail 100;adds 0;");
        due("20 without: too much", 1, d.x.chance(1) - 1 + d.x.has(4));
        d.with(B + "hail 100;hail 0;");
        due("the last hail", 0, d.x.chance(100));
        d.with(B + "hail 0;hail 100;");
        due("the last hail", 100, d.x.chance(100));
        d.with(B);
        due("0 without", 0, d.x.chance(100));
    }

    private static void digits() {
        topic("PART: N (1 to 4 digits); where a number is asked, a 5th digit at itself");
        Desk d = new Desk().with(B + "pole a at 0 0 lifts 1;");
        for (String n : new String[] {"0", "7", "10", "999", "1000", "9999", "0000", "0001"}) {
            due("total " + n, Integer.parseInt(n), d.ask("total " + n));
        }
        d.dueAskFault("total 00000", 1, 10);
        d.dueAskFault("total 10000", 1, 10);
        d.dueAskFault("total 1+99999", 1, 12);
        d.dueAskFault("first 0<123456789", 1, 12);
        d.dueFault("pane 0003 by 0002 tough 0000;", 0, -1);
        d.dueFault("pane 00003 by 2", 1, 9);
        d.dueFault("pane 99999 by 2", 1, 9);
        d.dueFault(B + "heavy 00000", 1, BASE + 10);
        d.dueFault(B + "adds 00000", 1, BASE + 9);
        d.dueFault(B + "holds 1=00000", 1, BASE + 12);
        d.dueFault(B + "hail 00000", 1, BASE + 9);
        d.dueFault(B + "heavy 0 0 1 00000", 1, BASE + 12);
    }

    /** Which parts may stand where: each word alone as a sum in adds, on the left in holds, in a question. */
    private static void realms() {
        topic("PART: hour; cracks; in adds: weight; in holds: lifts; tired; near; of a QUESTION: number .. far PART");
        Desk d = new Desk();
        List<String> words = new ArrayList<>(Oracle.OWN);
        words.removeAll(Arrays.asList("min", "max", "not", "all", "far"));
        words.addAll(Arrays.asList("first", "last", "often", "total", "most", "least", "a", "zzzzzzz"));
        List<String> everywhere = Arrays.asList("hour", "cracks");
        List<String> holds = Arrays.asList("lifts", "tired", "near");
        List<String> asked = Arrays.asList("lifts", "tired", "near", "number", "column", "row", "holds");
        String a = B + "pole a at 0 0 lifts 1;";
        for (String word : words) {
            boolean fits = everywhere.contains(word);
            d.with(a);
            d.dueAskFault("most " + word, fits || asked.contains(word) ? 0 : 1, fits || asked.contains(word) ? -1 : 5);
            d.dueAskFault("first 1<" + word, fits || asked.contains(word) ? 0 : 1, fits || asked.contains(word) ? -1 : 8);
            d.dueFault(a + "adds " + word + ";", fits || word.equals("weight") ? 0 : 1, fits || word.equals("weight") ? -1 : a.length() + 5);
            d.dueFault(a + "holds " + word + "=1;", fits || holds.contains(word) ? 0 : 1, fits || holds.contains(word) ? -1 : a.length() + 6);
        }
        d.dueFault(a + "adds far 0;", 1, a.length() + 5);
        d.dueFault(a + "holds far 0=0;", 1, a.length() + 6);
        d.dueFault(a + "adds all;", 1, a.length() + 5);
        d.dueFault(a + "adds not 1;", 1, a.length() + 5);
        d.with(a);
        d.dueAskFault("most far 0", 0, -1);
        d.dueAskFault("most all", 1, 5);
        d.dueAskFault("most not 1", 1, 5);
    }

    private static void sums() {
        topic("All from the left on; / gives the greatest whole number not above, by 0 it gives 0");
        Desk d = new Desk().with(B + "pole a at 0 0 lifts 1;");
        String[] sums = {"10-3-2", "10-3+2", "2*7/4", "7/4*2", "100/7/2", "2+3*4", "20-12/4", "1/2", "(0-1)/2", "(0-4)/2", "(0-5)/2", "7/(0-3)", "6/(0-3)",
            "(0-7)/(0-3)", "(0-6)/(0-3)", "1/(0-9999)", "(0-1)/9999", "0/5", "0/(0-5)", "5/0", "(0-5)/0", "0/0", "5/(1-1)+3"};
        long[] due = {5, 9, 3, 2, 7, 14, 17, 0, -1, -2, -3, -3, -2, 2, 2, -1, -1, 0, 0, 0, 0, 0, 3};
        for (int i = 0; i < sums.length; i++) {
            due(sums[i], due[i], d.ask("total " + sums[i]));
        }
        d.with("pane 2 by 2 tough 0;adds (0-7)/(0-3)*5/0+7;");
        d.x.hours(1);
        due("in adds too", 1 + 2 * 7, d.x.cell(0, 0, 2));
        d.with("pane 2 by 2 tough 9;pole a at 0 0 lifts 7;holds (0-lifts)/2=0-4 and lifts/tired=0;");
        due("in holds too", 1, d.x.has(5));
    }

    private static void millions() {
        topic("each sum, difference, product above 10 to the 6 is that, below -10 to the 6 likewise");
        Desk d = new Desk().with(B + "pole a at 0 0 lifts 1;");
        String[] sums = {"1000*1000", "1000*1000-1", "999*1001+1", "999*1001+1-1", "1000*1000+1", "1000*1000+1-1", "1001*1000", "1001*1000-1", "9999*9999*9999",
            "0-1000*1000", "0-999*1001-1", "0-1000*1000-1", "0-1000*1000-1+1", "(0-1000)*1000", "(0-1001)*1000", "(0-1001)*1000+1",
            "(0-9999*9999)*(9999*9999)", "(0-9999*9999)*(0-9999*9999)", "9999*9999-(0-9999*9999)", "(9999*9999+9999*9999)/2", "1000*1000/(0-1)",
            "(0-1000*1000)/(0-1)", "max(9999*9999,1)-min(0-9999*9999,1)"};
        long m = 1000000;
        long[] due = {m, m - 1, m, m - 1, m, m - 1, m, m - 1, m, -m, -m, -m, 1 - m, -m, -m, 1 - m, -m, m, m, m / 2, -m, m, m};
        for (int i = 0; i < sums.length; i++) {
            due(sums[i], due[i], d.ask("total " + sums[i]));
        }
        d.with("pane 2 by 2 tough 0;adds 9999*9999-9999*100;");
        d.x.hours(1);
        due("in adds too", 1 + 2 * 100, d.x.cell(0, 0, 2));
        d.with(B + "pole a at 0 0 lifts 1;holds 9999*9999=1001*1000 and 0-9999*9999=(0-1001)*1000;");
        due("in holds too", 1, d.x.has(5));
    }

    private static void without() {
        topic("Without: adds is weight, holds is all");
        Desk d = new Desk().with("pane 2 by 2 tough 0;heavy 0 0 0;heavy 1 0 7;heavy 0 1 40;heavy 1 1 0;pole a at 0 0 lifts 0;");
        due("all hold", 1, d.x.has(5));
        due("two crack", 2, d.x.hours(1));
        due("weights are added", 47, d.x.cell(0, 0, 2));
        due("all hold on", 1, d.x.hours(90) - 2 + d.x.has(5));
        for (int ahead = 1; ahead <= 3; ahead++) {
            for (int i = 0; i < ahead; i++) {
                d.with(B + "adds 0;holds not all;pole a at 0 0 lifts 0;");
            }
            d.with("pane 2 by 2 tough 0;pole a at 0 0 lifts 0;");
            due("panes ahead leave no holds", 1, d.x.has(5));
            d.x.hours(1);
            due("panes ahead leave no adds", 3, d.x.cell(0, 0, 2));
        }
    }

    private static void tests() {
        topic("TEST: BOTH { or BOTH }. BOTH: FACT { and FACT }. FACT: not FACT; [ TEST ] ; all; SUM SIGN SUM");
        Desk d = new Desk().with(B + "pole a at 0 0 lifts 1;");
        String[] values = {"1=2", "1=1"};
        for (int i = 0; i < 8; i++) {
            boolean a = (i & 1) != 0;
            boolean b = (i & 2) != 0;
            boolean c = (i & 4) != 0;
            String x = values[i & 1];
            String y = values[i >> 1 & 1];
            String z = values[i >> 2];
            String[] tests = {x + " or " + y + " and " + z, x + " and " + y + " or " + z, "[" + x + " or " + y + "] and " + z, x + " and [" + y + " or " + z + "]",
                "not " + x + " or " + y + " and not " + z, "not [" + x + " or " + y + "] or " + z, x + " or " + y + " or " + z, x + " and " + y + " and " + z,
                "not not " + x + " and all or not all and " + y, "not not not " + z};
            boolean[] due = {a || b && c, a && b || c, (a || b) && c, a && (b || c), !a || b && !c, !(a || b) || c, a || b || c, a && b && c, a, !c};
            for (int k = 0; k < tests.length; k++) {
                due(tests[k], due[k] ? 1 : 0, d.ask("often " + tests[k]));
                due("holds " + tests[k], due[k] ? 1 : 0, new Desk().with(B + "pole a at 0 0 lifts 1;holds " + tests[k] + ";").x.has(5));
            }
        }
        String[] signs = {"1<2", "2<2", "3<2", "1>2", "2>2", "3>2", "1=2", "2=2", "3=2", "0-1<0", "0-1>0", "1-1=0"};
        int[] due = {1, 0, 0, 0, 0, 1, 0, 1, 0, 1, 0, 1};
        for (int i = 0; i < signs.length; i++) {
            due(signs[i], due[i], d.ask("often " + signs[i]));
        }
    }

    private static void parts() {
        topic("(The HOUR; how many CELLS are CRACKED; how heavy the CRACKED CELL is; of a PERSON how strong he is, how tired, how many others stand next to him; his number, place)");
        Desk d = new Desk();
        String town = "pane 3 by 2 tough 7;heavy 0 0 9;heavy 1 0 8;adds 0;pole a at 2 1 lifts 5;pole b at 1 1 lifts 3;fades 9;";
        String[] parts = {"number", "column", "row", "lifts", "tired", "near", "holds", "hour", "cracks", "far 0", "far 1"};
        long[][] due = {{0, 2, 1, 5, 4, 1, 0, 4, 2, 0, 1}, {1, 1, 1, 3, 4, 1, 1, 4, 2, 1, 0}};
        d.with(town);
        d.x.hours(4);
        d.x.rest(0, 1);
        for (int i = 0; i < parts.length; i++) {
            due(parts[i] + " of the first", due[0][i], d.ask("total (1-number)*" + parts[i]));
            due(parts[i] + " of the last", due[1][i], d.ask("total number*" + parts[i]));
            due(parts[i] + " of all", due[0][i] + due[1][i], d.ask("total " + parts[i]));
            due(parts[i] + " at most", Math.max(due[0][i], due[1][i]), d.ask("most " + parts[i]));
            due(parts[i] + " at least", Math.min(due[0][i], due[1][i]), d.ask("least " + parts[i]));
            due(parts[i] + " first", due[0][i] == due[1][i] ? 0 : due[0][i] > due[1][i] ? 0 : 1, d.ask("first " + parts[i] + ">" + (Math.max(due[0][i], due[1][i]) - 1)));
        }
        String[] held = {"hour=4", "cracks=2", "lifts=5", "lifts=3", "tired=3", "near=1", "near=0", "hour=3"};
        int[] bits = {3, 3, 1, 2, 0, 3, 0, 0};
        for (int i = 0; i < held.length; i++) {
            d.with(town + "holds hour<3 or hour>3 and " + held[i] + ";");
            due("holds " + held[i], bits[i], d.x.later(4, 1));
        }
        String[] added = {"hour", "cracks", "weight", "min(hour,cracks)", "max(hour,weight)"};
        int[] load = {1 + 4, 1 + 2, 1 + 9, 1 + 2, 1 + 9};
        for (int i = 0; i < added.length; i++) {
            d.with(town.replace("adds 0", "adds (" + added[i] + ")*min(1,max(0,hour-3))"));
            d.x.hours(4);
            due("adds " + added[i], load[i], d.x.cell(0, 1, 2));
        }
    }

    private static void fullTape() {
        topic("2: .. more than 1600: texts that fill the tape");
        Desk d = new Desk();
        String pane = "pane 2 by 2 tough 0;adds 1" + "+1".repeat(786) + ";";
        due("1599 bytes", 2, d.pane(pane));
        due("1600 bytes", 2, d.pane(pane + " "));
        d.x.hours(1);
        due("the whole sum", 1 + 2 * 787, d.x.cell(0, 0, 2));
        d.dueFault(pane + "!", 1, 1599);
        d.dueFault(" ".repeat(1600), 1, 1600);
        d.dueFault(" ".repeat(1599) + "!", 1, 1599);
        d.dueFault("!".repeat(1600), 1, 0);
        d.dueFault(B + "pole " + "a".repeat(1575), 1, BASE + 11);
        d.dueFault(B + "hail " + "0".repeat(1575), 1, BASE + 9);
        d.dueFault(B + " ".repeat(1573) + "hail 1;", 0, -1);
        d.with(B + "pole a at 0 0 lifts 1;");
        due("1599 bytes", 797, d.ask("total 1" + "+1".repeat(796)));
        due("1600 bytes", 797, d.ask("total 1" + "+1".repeat(796) + "\n"));
        d.dueAskFault("total 1" + "+1".repeat(796) + "+", 1, 1600);
        d.dueAskFault("total " + "(".repeat(1594), 4, 12);
        due("a chain of or", 1, d.ask("often 1=2" + " or 1=1".repeat(227)));
        due("a chain of and", 0, d.ask("often 1=1" + " and 1=1".repeat(197) + " and 1=2"));
        due("a chain of products", 1, d.ask("total 1" + "*1".repeat(796)));
    }

    private static void numbersAreNoSigns() {
        topic("SIGN < or > or = ; + or - ; * or /: a number is none, though its value be that of the byte");
        Desk d = new Desk().with(B + "pole a at 0 0 lifts 1;");
        for (int sign : new int[] {'<', '>', '='}) {
            d.dueAskFault("often 1 " + sign + " 1", 1, 8);
        }
        for (int sign : new int[] {'+', '-', '*', '/', ')', ';', ','}) {
            d.dueAskFault("total 1 " + sign + " 1", 1, 8);
            d.dueFault(B + "adds (1 " + sign + " 1);", 1, BASE + 8);
        }
        d.dueFault(B + "hail 1 59", 1, BASE + 7);
        d.dueFault(B + "holds 91 all 93;", 1, BASE + 9);
        due("40 is a number", 40, d.ask("total 40"));
    }

    private static void pairs() {
        topic("min ( SUM , SUM ) ; max ( SUM , SUM )");
        Desk d = new Desk().with(B + "pole a at 0 0 lifts 1;");
        String[] sums = {"min(2,3)", "min(3,2)", "max(2,3)", "max(3,2)", "min(0-1,0)", "max(0-1,0)", "min(2,2)", "max(9999*9999,1)", "min(1+1,max(1,9))"};
        long[] due = {2, 2, 3, 3, -1, 0, 2, 1000000, 2};
        for (int i = 0; i < sums.length; i++) {
            due(sums[i], due[i], d.ask("total " + sums[i]));
        }
        for (String word : new String[] {"min", "max"}) {
            d.dueFault(B + "adds " + word + ";", 1, BASE + 8);
            d.dueFault(B + "adds " + word, 1, BASE + 8);
            d.dueFault(B + "adds " + word + " 1;", 1, BASE + 9);
            d.dueFault(B + "adds " + word + "[1,2];", 1, BASE + 8);
            d.dueFault(B + "adds " + word + "(1);", 1, BASE + 10);
            d.dueFault(B + "adds " + word + "(1,);", 1, BASE + 11);
            d.dueFault(B + "adds " + word + "(,1);", 1, BASE + 9);
            d.dueFault(B + "adds " + word + "();", 1, BASE + 9);
            d.dueFault(B + "adds " + word + "(1,2,3);", 1, BASE + 12);
            d.dueAskFault("total " + word, 1, 9);
        }
    }

    private static void names() {
        topic("NAMES: 1 to 6 letters, no OWN WORD, unlike ones; where a NAME is asked, an OWN WORD so, a 7th letter at itself; 3 a NAME that is there already");
        Desk d = new Desk();
        String rest = " at 0 0 lifts 1;";
        for (String name : new String[] {"a", "z", "az", "abc", "abcd", "abcde", "abcdef", "zzzzzz", "pan", "panes", "b", "byy", "al", "alls", "mi",
            "first", "last", "often", "total", "most", "least", "x"}) {
            d.dueFault(B + "pole " + name + rest, 0, -1);
        }
        for (String own : Oracle.OWN) {
            d.dueFault(B + "pole " + own + rest, 1, BASE + 5);
            d.dueFault(B + "pole " + own + "q" + rest, own.length() == 6 ? 1 : 0, own.length() == 6 ? BASE + 11 : -1);
        }
        due("all own words", 27, Oracle.OWN.size());
        d.dueFault(B + "pole abcdefg" + rest, 1, BASE + 11);
        d.dueFault(B + "pole zzzzzzzzzzzz", 1, BASE + 11);
        d.dueFault(B + "pole a.", 1, BASE + 6);
        d.dueFault(B + "pole A" + rest, 1, BASE + 5);
        d.dueFault(B + "pole aB" + rest, 1, BASE + 6);
        d.dueFault(B + "pole `" + rest, 1, BASE + 5);
        d.dueFault(B + "pole {" + rest, 1, BASE + 5);
        d.dueFault(B + "pole 7" + rest, 1, BASE + 5);
        d.dueFault(B + "pole " + rest, 1, BASE + 6);
        String one = B + "pole abcde at 2 1 lifts 1;";
        for (String name : new String[] {"a", "abcd", "abcdef", "abcdf", "bbcde", "bcde"}) {
            d.dueFault(one + "pole " + name + rest, 0, -1);
        }
        d.dueFault(one + "pole abcde" + rest, 3, one.length() + 5);
        d.dueFault(one + "pole b at 1 1 lifts 1;pole  abcde" + rest, 3, one.length() + 22 + 6);
        d.dueFault(one + "pole abcde", 3, one.length() + 5);
    }

    private static void blanks() {
        topic("Blanks (10, 32) are where one likes (words and numbers side by side need one)");
        Desk d = new Desk();
        StringBuilder wide = new StringBuilder("\n ");
        StringBuilder thin = new StringBuilder();
        for (String marked : MARKED) {
            String token = marked.substring(1);
            boolean side = thin.length() > 0 && isWordy(thin.charAt(thin.length() - 1)) && isWordy(token.charAt(0));
            thin.append(side ? "\n" : "").append(token);
            wide.append(token).append(" \n \n");
        }
        due("many blanks", 8, d.pane(wide.toString()));
        due("no blank but where it is needed", 8, d.pane(thin.toString()));
        d.with(B + "pole a at 0 0 lifts 1;");
        for (int sign = 0; sign < 256; sign++) {
            boolean letter = sign >= 'a' && sign <= 'z';
            boolean blank = sign == 10 || sign == 32;
            boolean bracket = sign == '(' || sign == '[';
            d.dueFault("pane" + (char) sign + "3 by 2 tough 4;", blank ? 0 : 1, blank ? -1 : letter ? 0 : 4);
            d.dueFault(B + (char) sign, blank ? 0 : 1, blank ? -1 : BASE);
            if (!bracket) {
                d.dueAskFault("often" + (char) sign + "all", blank ? 0 : 1, blank ? -1 : letter ? 0 : 5);
            }
            d.dueAskFault("often all" + (char) sign, blank ? 0 : 1, blank ? -1 : letter ? 6 : 9);
        }
        d.dueFault("pane3 by 2 tough 4;", 1, 4);
        d.dueFault("pane 3by 2 tough 4;", 1, 6);
        d.dueFault("pane 3 by2 tough 4;", 1, 9);
        d.dueFault("paneby", 1, 0);
        d.dueFault(B + "heavy 00 1;", 1, BASE + 10);
        d.dueFault(B + "pole a at 0 0 lifts1;", 1, BASE + 19);
        d.dueFault(B + "adds hour+1max(1,2);", 1, BASE + 11);
        d.dueFault(B + "holds not1=1;", 1, BASE + 9);
        d.dueFault(B + "holds 1=1and 2=2;", 1, BASE + 9);
    }

    private static boolean isWordy(char sign) {
        return sign >= 'a' && sign <= 'z' || sign >= '0' && sign <= '9';
    }

    private static void endsTooSoon() {
        topic("1 .. (.. at the text's length, if it ends too soon)");
        Desk d = new Desk();
        StringBuilder text = new StringBuilder();
        int statements = 0;
        for (String marked : MARKED) {
            boolean whole = text.length() > 0 && text.charAt(text.length() - 2) == ';';
            d.dueFault(text.toString(), whole ? 0 : 1, whole ? -1 : text.length());
            d.dueFault(text.toString().trim(), whole ? 0 : 1, whole ? -1 : text.toString().trim().length());
            text.append(marked.substring(1)).append(" ");
            statements += marked.equals("-;") ? 1 : 0;
        }
        due("the whole", statements, d.pane(text.toString()));
        String[] asked = "often not [ lifts + far ( 0 - 1 ) < min ( 3 , hour ) or all ] and 1 = 2".split(" ");
        List<Integer> whole = Arrays.asList(21, 25);
        text.setLength(0);
        for (int i = 0; i <= asked.length; i++) {
            d.dueAskFault(text.toString(), whole.contains(i) ? 0 : 1, whole.contains(i) ? -1 : text.length());
            text.append(i < asked.length ? asked[i] : "").append("\n");
        }
    }

    private static void firstByte() {
        topic("1 the first byte with which no such text goes on (words and numbers whole, at their first byte; .. a 7th letter .. a 5th digit at itself)");
        Desk d = new Desk();
        StringBuilder text = new StringBuilder();
        for (String marked : MARKED) {
            int at = text.length();
            char mark = marked.charAt(0);
            for (String junk : new String[] {"!", "?1", "}", "\u0007", "zzzzzz1", "zzzzz;"}) {
                boolean name = mark == 'w' && junk.startsWith("z");
                d.dueFault(text + junk, 1, name ? at + junk.length() - 1 : at);
            }
            d.dueFault(text + "zzzzzzzz", 1, mark == 'w' ? at + 6 : at);
            d.dueFault(text + "00000", 1, mark == 'n' ? at + 4 : at);
            text.append(marked.substring(1)).append(" ");
        }
        d.dueFault("pan", 1, 0);
        d.dueFault("pane 3 b", 1, 7);
        d.dueFault("pane 3 by 2 toughs 4;", 1, 12);
        d.dueFault("pane 3 by 2 tough tough;", 1, 18);
        d.dueFault("3 pane", 1, 0);
        d.dueFault(B + "lifts", 1, BASE);
        d.dueFault(B + "hail 5 5;", 1, BASE + 7);
        d.dueFault(B + "hail 5,", 1, BASE + 6);
        d.dueFault(B + "adds 1=1;", 1, BASE + 6);
        d.dueFault(B + "holds 1=1=1;", 1, BASE + 9);
        d.dueFault(B + "holds [1=1);", 1, BASE + 10);
        d.dueFault(B + "adds (1];", 1, BASE + 7);
        d.dueFault(B + "adds min(1;2);", 1, BASE + 10);
        d.dueFault(B + "adds min(1,2,3);", 1, BASE + 12);
    }

    private static void numbers() {
        topic("2 a number that can't be, at it");
        Desk d = new Desk();
        d.dueFault("\n pane  1", 2, 8);
        d.dueFault("pane 01 by", 2, 5);
        d.dueFault("pane 7!", 2, 5);
        d.dueFault("pane 7by", 2, 5);
        d.dueFault("pane 2 by 0", 2, 10);
        d.dueFault("pane 2 by 2 tough 0100", 2, 18);
        d.dueFault(B + "pole a at 0 2", 2, BASE + 12);
    }

    private static void firstAlong() {
        topic("FAULTS, the first along the text");
        Desk d = new Desk();
        String one = B + "pole a at 0 0 lifts 1;";
        int at = one.length();
        d.dueFault("pane 7 by 7 toughs 100", 2, 5);
        d.dueFault("pane 3 b 7", 1, 7);
        d.dueFault(one + "pole a at 3 3 lifts 100", 3, at + 5);
        d.dueFault(one + "pole b at 3 0 lifts 100", 2, at + 10);
        d.dueFault(one + "pole b at 0 0 lifts 100", 2, at + 12);
        d.dueFault(one + "pole b at 0 1 lifts 100!", 2, at + 20);
        d.dueFault(one + "adds 1;adds (((((((;", 5, at + 7);
        d.dueFault(one + "adds (((((((!", 4, at + 11);
        d.dueFault(one + "adds ((((((!(", 1, at + 11);
        d.dueFault(one + "adds ((((((00000", 1, at + 15);
        d.dueFault(one + "hail 101;hail 102;", 2, at + 5);
        d.dueFault(one + "hail 1; ! hail 101;", 1, at + 8);
    }

    private static void opened() {
        topic("4 the 7th of ( [ not that is open at once (not until its FACT ends), at it");
        Desk d = new Desk();
        String[] fit = {"adds ((((((1))))));", "adds ((((((1))))))+((((((1))))))*((((((1))))));", "adds (((((min(1,2))))));", "adds min(1,max(1,((((1))))-1));",
            "holds not not not not not not all;", "holds not not not not not not all and not not not not not not all or not not not not not not all;",
            "holds [[[[[[all]]]]]] or [[[[[[all]]]]]];", "holds not [not [not [all]]] and not [not [not [1=1]]];", "holds not [not [not (1)=(1)]];",
            "holds not not not not not (1)=(1) and (((((1)))))=1;", "holds [not not not not not all and not not not not not all];",
            "holds not not not not not min(1,2)=max(1,2);"};
        for (String text : fit) {
            d.dueFault(B + text, 0, -1);
        }
        String[] deep = {"adds (((((((1)))))));", "adds 1+((((((1))))))+(((((((1)))))));", "adds ((((((min(1,2)))))));", "adds min(1,max(1,((((  (1))))));",
            "holds not not not not not not not all;", "holds all or not not not not not not not all;", "holds [[[[[[[all]]]]]]];",
            "holds not not not not not not [all];", "holds [[[[[[not all]]]]]];", "holds not not not not not not (1)=1;",
            "holds not not not not not not 1=(1);", "holds not [not [not [not all]]];", "holds [[[[[[1=1 and 1=max(1,2)]]]]]];",
            "holds [not not not not not all and not not not not not not all];"};
        int[] places = {11, 27, 14, 23, 30, 37, 12, 30, 12, 30, 32, 21, 25, 55};
        for (int i = 0; i < deep.length; i++) {
            d.dueFault(B + deep[i], 4, BASE + places[i]);
        }
    }

    private static void openedInQuestions() {
        topic("Its FAULTS: .. 4 the 7th of ( [ not far that is open at once (not until its FACT, far until its PART ends), at it");
        Desk d = new Desk().with(B + "pole a at 0 0 lifts 1;");
        String[] fit = {"total far far far far far far 1", "total far far far far far far 1+far far far far far far 1*far far far far far far 1",
            "total far(far(far(1)))", "total far(far(far 0)+far(far 0))", "first not far far far far far 1=far far far far far 1",
            "first not not not far(far 1)=1", "total far min(far(far 1),far far 1)", "first [far far far far far 1=1] and far far far far far far 1=1",
            "total ((((((1))))))", "often not not not not not not all", "often [[[[[[all]]]]]]", "total far max(((((1)))),2)"};
        for (String text : fit) {
            d.dueAskFault(text, 0, -1);
        }
        String[] deep = {"total far far far far far far far 1", "total far far far far far far (1)", "total far far far far far far min(1,2)", "total far(far(far(far 1)))",
            "first not far far far far far far 1=1", "first not not not far(far(1))=1 or 1=1", "first [far far far far far far 1=1]", "total (((((((1)))))))",
            "often not not not not not not not all", "often [[[[[[[all]]]]]]]", "total far max((((((1))))),2)"};
        int[] places = {30, 30, 33, 18, 30, 25, 27, 12, 30, 12, 18};
        for (int i = 0; i < deep.length; i++) {
            d.dueAskFault(deep[i], 4, places[i]);
        }
    }

    private static void askFaults() {
        topic("Its FAULTS: 1 as in I (an unknown word at its first byte; what stands behind it, too)");
        Desk d = new Desk().with(TOWN);
        d.dueAskFault("", 1, 0);
        d.dueAskFault(" \n", 1, 2);
        d.dueAskFault("most", 1, 4);
        d.dueAskFault("firs all", 1, 0);
        d.dueAskFault(" firsts all", 1, 1);
        d.dueAskFault("all", 1, 0);
        d.dueAskFault("1", 1, 0);
        d.dueAskFault("first first all", 1, 6);
        d.dueAskFault("total tir", 1, 6);
        d.dueAskFault("total 2*tiredd", 1, 8);
        d.dueAskFault("often tired=1;", 1, 13);
        d.dueAskFault("often tired=1 5", 1, 14);
        d.dueAskFault("often tired=1 !", 1, 14);
        d.dueAskFault("often all or", 1, 12);
        d.dueAskFault("often all often all", 1, 10);
        d.dueAskFault("total 1]", 1, 7);
        d.dueAskFault("total far", 1, 9);
        d.dueAskFault("total far+1", 1, 9);
        d.dueAskFault("first 1", 1, 7);
        d.dueAskFault("most 1<2", 1, 6);
        d.dueAskFault("often all  \n", 0, -1);
    }

    public static void main(String[] args) {
        eightyAtMost();
        sides();
        firstAndAlone();
        heavy();
        pole();
        oneEach();
        lastOfEach();
        digits();
        realms();
        sums();
        millions();
        without();
        tests();
        parts();
        pairs();
        numbersAreNoSigns();
        fullTape();
        names();
        blanks();
        endsTooSoon();
        firstByte();
        numbers();
        firstAlong();
        opened();
        openedInQuestions();
        askFaults();
        Desk.close("edges of texts");
    }
}
