import java.nio.charset.StandardCharsets;
import java.util.ArrayList;
import java.util.List;
import java.util.Random;

/** Runs of calls drawn by a fixed seed, each answer held against the oracle's. */
public final class OracleTest {
    /** What an object answers behind so many calls is free. */
    private static final int PROMISED = 512;
    private static final int LAST_LOOK = 180;
    private final Random luck;
    private final OnePane x = new OnePane();
    private final Oracle o = new Oracle();
    private final List<String> log = new ArrayList<>();
    private int calls = 0;
    private boolean failed = false;
    private String question = "often all";

    private OracleTest(long seed) {
        luck = new Random(seed);
    }

    private boolean due(String call, long want, long got) {
        calls++;
        log.add(call + " -> " + got);
        if (want != got && !failed && calls <= PROMISED) {
            failed = true;
            Desk.wrong++;
            for (String row : log) {
                System.out.println("  " + row);
            }
            System.out.println("  due was " + want);
        }
        return want == got;
    }

    private void due(String call, boolean want, boolean got) {
        due(call, want ? 1 : 0, got ? 1 : 0);
    }

    private int pick(int n) {
        return luck.nextInt(n);
    }

    private String one(String... of) {
        return of[pick(of.length)];
    }

    // ---- texts

    private String gap() {
        int n = pick(40);
        return n == 0 ? "\n" : n == 1 ? "  " : n == 2 ? " \n " : " ";
    }

    private String thin() {
        return pick(4) == 0 ? gap() : "";
    }

    private String sum(String realm, int depth) {
        StringBuilder b = new StringBuilder(part(realm, depth));
        while (pick(3) == 0) {
            b.append(thin()).append(one("+", "-", "*", "/")).append(thin()).append(part(realm, depth));
        }
        return b.toString();
    }

    private String part(String realm, int depth) {
        if (depth > 0 && pick(3) == 0) {
            switch (pick(3)) {
                case 0: return "(" + thin() + sum(realm, depth - 1) + thin() + ")";
                case 1: return one("min", "max") + thin() + "(" + sum(realm, depth - 1) + thin() + "," + sum(realm, depth - 1) + ")";
                default:
                    if (realm.equals("ask")) {
                        return "far" + gap() + part(realm, depth - 1);
                    }
            }
        }
        if (pick(3) == 0) {
            return "" + (pick(5) == 0 ? pick(10000) : pick(6));
        }
        switch (realm) {
            case "adds": return one("hour", "cracks", "weight", "weight");
            case "holds": return one("hour", "cracks", "lifts", "tired", "near", "tired");
            default: return one("number", "column", "row", "lifts", "tired", "near", "holds", "hour", "cracks");
        }
    }

    private String test(String realm, int depth) {
        StringBuilder b = new StringBuilder(fact(realm, depth));
        while (pick(3) == 0) {
            b.append(gap()).append(one("and", "or")).append(gap()).append(fact(realm, depth));
        }
        return b.toString();
    }

    private String fact(String realm, int depth) {
        if (depth > 0) {
            switch (pick(6)) {
                case 0: return "not" + gap() + fact(realm, depth - 1);
                case 1: return "[" + thin() + test(realm, depth - 1) + thin() + "]";
                default:
            }
        }
        return pick(8) == 0 ? "all" : sum(realm, depth) + thin() + one("<", ">", "=") + thin() + sum(realm, depth);
    }

    private String simpleTest() {
        switch (pick(7)) {
            case 0: return "tired<" + (1 + pick(5));
            case 1: return "hour/" + (1 + pick(4)) + "*2<hour or near>0";
            case 2: return "not tired>" + pick(6) + " or cracks>" + pick(4);
            case 3: return "lifts>" + pick(30);
            case 4: return "hour-hour/3*3<2";
            case 5: return "lifts<" + (10 + pick(40)) + " and tired<9";
            default: return "all";
        }
    }

    private String name(int n) {
        return "" + (char) ('a' + n) + one("", "x", "yy", "nnn", "first", "zzzzz").substring(0, pick(1) + 0) + (pick(2) == 0 ? "q" : "");
    }

    private String paneText() {
        int columns = 2 + pick(5);
        int rows = 2 + pick(5);
        List<String> rest = new ArrayList<>();
        boolean[] taken = new boolean[36];
        int people = pick(12) == 0 ? 11 : pick(5) == 0 ? 10 : pick(6);
        for (int i = 0; i < people; i++) {
            int c = pick(columns);
            int r = pick(rows);
            if (!taken[r * 6 + c] || pick(30) == 0) {
                rest.add("pole" + gap() + name(pick(60) == 0 ? 0 : i) + gap() + "at" + gap() + c + gap() + r + gap() + "lifts" + gap() + pick(pick(4) == 0 ? 100 : 20));
            }
            taken[r * 6 + c] = true;
        }
        int heavy = pick(8);
        for (int i = 0; i < heavy; i++) {
            rest.add("heavy " + pick(columns) + gap() + pick(rows) + " " + pick(pick(3) == 0 ? 100 : 15));
        }
        if (pick(2) == 0) {
            rest.add("adds " + (pick(2) == 0 ? one("weight/2", "1", "weight+cracks", "hour/4", "2*weight-3", "weight*hour*99") : sum("adds", pick(4))));
        }
        if (pick(3) > 0) {
            rest.add("holds " + (pick(3) > 0 ? simpleTest() : test("holds", pick(5))));
        }
        for (String word : new String[] {"fades", "stone", "hail"}) {
            for (int i = pick(3); i > 0; i--) {
                rest.add(word + " " + (word.equals("hail") ? pick(101) : word.equals("stone") ? pick(60) : pick(8)));
            }
        }
        if (pick(40) == 0) {
            rest.add(one("adds 1", "holds all", "adds weight", "pane 2 by 2 tough 1"));
            rest.add(one("adds 1", "holds all", "adds weight"));
        }
        StringBuilder b = new StringBuilder("pane " + columns + " by " + rows + gap() + "tough " + pick(pick(3) == 0 ? 60 : 12) + thin() + ";");
        while (!rest.isEmpty()) {
            b.append(thin()).append(rest.remove(pick(rest.size()))).append(thin()).append(";");
        }
        if (pick(25) == 0) {
            int more = 70 + pick(14);
            for (int i = 0; i < more; i++) {
                b.append("fades ").append(pick(4)).append(";");
            }
        }
        return b.append(thin()).toString();
    }

    private String deepText(String realm) {
        StringBuilder b = new StringBuilder();
        int n = 3 + pick(6);
        StringBuilder back = new StringBuilder();
        boolean inSum = false;
        for (int i = 0; i < n; i++) {
            int kind = inSum ? 2 + pick(3) : pick(5);
            inSum = kind > 1;
            switch (kind) {
                case 0: b.append("not "); break;
                case 1: b.append("["); back.insert(0, "]"); break;
                case 2: b.append("("); back.insert(0, ")"); break;
                case 3: b.append("min(1,"); back.insert(0, ")"); break;
                default:
                    b.append(realm.equals("ask") ? "far " : "2*(");
                    back.insert(0, realm.equals("ask") ? "" : ")");
            }
        }
        String inner = inSum ? "hour" : "1=hour";
        String all = b + inner + back;
        if (inSum) {
            int cut = all.lastIndexOf(']') >= 0 ? all.indexOf(']') : all.length();
            all = all.substring(0, cut) + "=1" + all.substring(cut);
        }
        return pick(2) == 0 ? all : all + " and " + all;
    }

    private String mutated(String text) {
        StringBuilder b = new StringBuilder(text);
        String[] bits = {";", " ", "pane", "by", "0", "7", "99", "100", "12345", "pole", "adds", "(", ")", "[", "]", "not ", " and ",
            " or ", "far ", "a", "abcdefg", "weight", "tired", "first", "holds", "+", "=", ",", "A", "\t", "" + (char) 200, "min", "all"};
        for (int i = 1 + pick(2); i > 0; i--) {
            int at = b.length() == 0 ? 0 : pick(b.length());
            switch (pick(4)) {
                case 0: b.delete(at, Math.min(b.length(), at + 1 + pick(3))); break;
                case 1: b.insert(at, one(bits)); break;
                case 2: b.setLength(at); break;
                default: b.replace(at, Math.min(b.length(), at + 1), one(bits));
            }
        }
        return b.toString();
    }

    // ---- calls

    private void put(String text) {
        byte[] bytes = text.getBytes(StandardCharsets.ISO_8859_1);
        o.tape = text.length() > 1600 ? text.substring(0, 1600) : text;
        x.end(0);
        Desk.put(x, o.tape.getBytes(StandardCharsets.ISO_8859_1));
        calls += 2 + (o.tape.length() + 19) / 20;
        log.add("tape " + text + (bytes.length > 1600 ? " (cut)" : ""));
    }

    private void tellPane() {
        String text = paneText();
        int kind = pick(5);
        if (kind == 0) {
            text = mutated(text);
        } else if (kind == 1 && pick(3) == 0) {
            text += "holds " + deepText("holds") + ";";
        }
        put(text);
        due("pane()", o.pane(), x.pane());
        askFault();
    }

    private void askFault() {
        due("fault(0)", o.fault(0), x.fault(0));
        due("fault(1)", o.fault(1), x.fault(1));
    }

    private void askQuestion() {
        String text;
        if (pick(4) > 0) {
            text = pick(2) == 0 ? one("first ", "last ", "often ") + test("ask", pick(4)) : one("total ", "most ", "least ") + sum("ask", pick(4));
            question = text;
        } else {
            text = pick(3) == 0 ? one("first ", "last ", "often ") + deepText("ask") : mutated(question);
        }
        put(text);
        due("ask()", o.ask(), x.ask());
        askFault();
    }

    private void tellSounds() {
        StringBuilder b = new StringBuilder();
        int rows = pick(20) == 0 ? 13 : pick(20) == 0 ? 12 : 1 + pick(3);
        int set = pick(1024);
        for (int i = 0; i < rows; i++) {
            int c = pick(o.spec == null || pick(40) == 0 ? 7 : o.spec.columns);
            int r = pick(o.spec == null || pick(40) == 0 ? 7 : o.spec.rows);
            int value = o.noCell(c, r) || pick(20) == 0 ? pick(2000) : o.slack(o.world, c, r, set, 0) + 500;
            b.append((char) c).append((char) r).append((char) (value >> 8 & 255)).append((char) (value & 255));
        }
        if (pick(30) == 0) {
            b.setLength(pick(b.length()));
        }
        put(b.toString());
        due("sound()", o.sound(), x.sound());
    }

    private void takeImage() {
        due("image()", o.image(), x.image());
        for (int k = -1; k <= o.latestImage.length; k++) {
            due("octet(" + k + ")", o.octet(k), x.octet(k));
        }
    }

    private void giveImage() {
        due("image()", o.image(), x.image());
        int[] b = o.latestImage.clone();
        int changes = pick(4);
        for (int i = 0; i < changes; i++) {
            b[pick(b.length)] = pick(4) == 0 ? pick(256) : pick(3);
        }
        if (pick(4) == 0) {
            int hour = pick(3) == 0 ? 990 + pick(12) : pick(1100);
            b[0] = hour / 256;
            b[1] = hour % 256;
        }
        if (pick(10) > 0) {
            int c = 127;
            for (int i = 0; i + 1 < b.length; i++) {
                c = (3 * c + b[i]) % 251;
            }
            b[b.length - 1] = c;
        }
        StringBuilder t = new StringBuilder();
        for (int v : b) {
            t.append((char) v);
        }
        put(pick(20) == 0 ? t.substring(1) : t.toString());
        due("on()", o.on(), x.on());
    }

    private int column() {
        return pick(30) == 0 ? pick(9) - 1 : pick(o.spec == null ? 3 : o.spec.columns);
    }

    private int row() {
        return pick(30) == 0 ? pick(9) - 1 : pick(o.spec == null ? 3 : o.spec.rows);
    }

    private int who() {
        return pick(20) == 0 ? pick(13) - 1 : pick(Math.max(1, o.world.people.size()));
    }

    private void act() {
        int c = column();
        int r = row();
        int p = who();
        int n = pick(8) == 0 ? pick(104) - 2 : 1 + pick(4);
        switch (pick(8)) {
            case 0:
                int on = pick(20) == 0 ? pick(5) - 1 : pick(2);
                due("rest(" + p + ", " + on + ")", o.rest(p, on), x.rest(p, on));
                break;
            case 1: due("go(" + p + ", " + c + ", " + r + ")", o.go(p, c, r), x.go(p, c, r)); break;
            case 2: due("mend(" + c + ", " + r + ")", o.mend(c, r), x.mend(c, r)); break;
            case 3: due("hours(" + n + ")", o.hours(n), x.hours(n)); break;
            case 4: due("chance(" + n + ")", o.chance(n), x.chance(n)); break;
            case 5: due("undo()", o.undo(), x.undo()); break;
            case 6:
                int s = pick(10) == 0 ? -1 - pick(5) : luck.nextInt() & 0x7fffffff;
                due("seed(" + s + ")", o.seed(s), x.seed(s));
                break;
            default:
                for (int[] k : o.cells()) {
                    if (o.world.cracked[k[0]][k[1]] && pick(2) == 0) {
                        due("mend(" + k[0] + ", " + k[1] + ")", o.mend(k[0], k[1]), x.mend(k[0], k[1]));
                    }
                }
        }
    }

    private void lookOn() {
        int c = column();
        int r = row();
        int p = who();
        int what = pick(5) - (pick(10) == 0 ? 1 : 0);
        int n = pick(6) == 0 ? pick(64) - 1 : pick(8);
        switch (pick(17)) {
            case 0: due("later(" + n + ", " + what + ")", o.later(n, what), x.later(n, what)); break;
            case 1: due("next()", o.next(), x.next()); break;
            case 2: due("lasts(" + n + ")", o.lasts(n), x.lasts(n)); break;
            case 3: due("free()", o.free(), x.free()); break;
            case 4: due("needed()", o.needed(), x.needed()); break;
            case 5: due("stand(" + p + ", " + what + ")", o.stand(p, what), x.stand(p, what)); break;
            case 6: due("weak(" + what + ")", o.weak(what), x.weak(what)); break;
            case 7: due("mends(" + n + ", " + what + ")", o.mends(n, what), x.mends(n, what)); break;
            case 8: due("who(" + what + ")", o.who(what), x.who(what)); break;
            case 9: due("knock(" + what + ")", o.knock(what), x.knock(what)); break;
            case 10: due("cell(" + c + ", " + r + ", " + what + ")", o.cell(c, r, what), x.cell(c, r, what)); break;
            case 11: due("slack(" + c + ", " + r + ")", o.slack(c, r), x.slack(c, r)); break;
            case 12: due("person(" + p + ", " + what + ")", o.person(p, what), x.person(p, what)); break;
            case 13: due("lifts(" + p + ", " + c + ", " + r + ")", o.lifts(p, c, r), x.lifts(p, c, r)); break;
            case 14: due("letter(" + p + ", " + n + ")", o.letter(p, n), x.letter(p, n)); break;
            case 15:
                int k = pick(44) - 1;
                due("kept(" + k + ", " + what + ")", o.kept(k, what), x.kept(k, what));
                break;
            default: takeImage();
        }
    }

    private void lookAtAll() {
        for (int what = -1; what <= 10; what++) {
            due("has(" + what + ")", o.has(what), x.has(what));
        }
        for (int what = -1; what <= 6; what++) {
            due("status(" + what + ")", o.status(what), x.status(what));
        }
        for (int k = 0; k < 40; k++) {
            for (int what = 0; what < 3; what++) {
                due("kept(" + k + ", " + what + ")", o.kept(k, what), x.kept(k, what));
            }
        }
        for (int[] k : o.cells()) {
            due("slack(" + k[0] + ", " + k[1] + ")", o.slack(k[0], k[1]), x.slack(k[0], k[1]));
        }
    }

    private void feedRaw() {
        for (int i = pick(90); i > 0; i--) {
            int a = luck.nextInt();
            due("feed(" + a + ", 1, 2, 3, -4)", o.feed(a, 1, 2, 3, -4), x.feed(a, 1, 2, 3, -4));
        }
        int n = pick(1700) - 20;
        due("end(" + n + ")", o.end(n), x.end(n));
        due("feed(5, 1, 2, 3, -4)", o.feed(5, 1, 2, 3, -4), x.feed(5, 1, 2, 3, -4));
    }

    private void run(int length) {
        for (int i = 0; i < length && calls < PROMISED - LAST_LOOK && !failed; i++) {
            int kind = pick(100);
            if (o.spec == null ? kind < 60 : kind < 5) {
                tellPane();
            } else if (kind < 40) {
                act();
            } else if (kind < 85) {
                lookOn();
            } else if (kind < 91) {
                askQuestion();
            } else if (kind < 94) {
                tellSounds();
            } else if (kind < 97) {
                giveImage();
            } else if (kind < 98) {
                feedRaw();
            } else {
                lookAtAll();
            }
        }
        lookAtAll();
    }

    public static void main(String[] args) {
        int runs = args.length > 0 ? Integer.parseInt(args[0]) : 1000;
        long from = args.length > 1 ? Long.parseLong(args[1]) : 0;
        long calls = 0;
        for (long seed = from; seed < from + runs && Desk.wrong == 0; seed++) {
            OracleTest test = new OracleTest(seed);
            test.run(400);
            calls += test.calls;
            if (test.failed) {
                System.out.println("run of seed " + seed);
            }
        }
        Desk.close("oracle, " + calls + " calls");
    }
}
