import java.nio.charset.StandardCharsets;

/** An object under test, with its tape fed from texts, and a count of answers that were not due. */
final class Desk {
    static int wrong = 0;
    static String topic = "";
    /** An object is used for 512 calls at the most; faults are asked of a new one in time. */
    private static final int USED_UP = 250;
    OnePane x = new OnePane();
    private int used = 0;
    private String told = "";

    static void due(String call, long want, long got) {
        if (want != got) {
            wrong++;
            System.out.println(topic + ": " + call + " answered " + got + ", due is " + want);
        }
    }

    static void due(String call, boolean want, boolean got) {
        due(call, want ? 1 : 0, got ? 1 : 0);
    }

    static void close(String what) {
        System.out.println(wrong == 0 ? what + ": all as due" : what + ": " + wrong + " wrong");
        if (wrong != 0) {
            System.exit(1);
        }
    }

    /** Puts bytes behind those on the tape; the tape must have room for them in twenties. */
    static void put(OnePane pane, byte[] bytes) {
        int length = 0;
        for (int i = 0; i < bytes.length; i += 20) {
            length = pane.feed(four(bytes, i), four(bytes, i + 4), four(bytes, i + 8), four(bytes, i + 12), four(bytes, i + 16));
        }
        pane.end(bytes.length == 0 ? 0 : length - (20 - bytes.length % 20) % 20);
    }

    private static int four(byte[] bytes, int from) {
        int number = 0;
        for (int i = from; i < from + 4; i++) {
            number = number << 8 | (i < bytes.length ? bytes[i] & 255 : 32);
        }
        return number;
    }

    void text(String text) {
        used += 5 + text.length() / 20;
        put(x, text.getBytes(StandardCharsets.ISO_8859_1));
    }

    /** The town of the latest pane goes on in a new object, with nothing done in it yet. */
    private void renew() {
        if (used > USED_UP) {
            x = new OnePane();
            used = 0;
            if (!told.isEmpty()) {
                pane(told);
            }
        }
    }

    void bytes(int... values) {
        byte[] row = new byte[values.length];
        for (int i = 0; i < values.length; i++) {
            row[i] = (byte) values[i];
        }
        put(x, row);
    }

    int pane(String text) {
        text(text);
        int count = x.pane();
        told = count == OnePane.NONE ? told : text;
        return count;
    }

    /** A pane that must be one. */
    Desk with(String text) {
        int count = pane(text);
        if (count == OnePane.NONE) {
            due("pane " + text + " fault " + x.fault(0) + " at " + x.fault(1), 0, count);
        }
        return this;
    }

    long ask(String text) {
        text(text);
        return x.ask();
    }

    void dueFault(String text, int fault, int place) {
        renew();
        due("pane(" + text + ")", fault == 0 ? 0 : OnePane.NONE, Math.min(0, pane(text)));
        due("fault of " + text, fault, x.fault(0));
        due("place in " + text, place, x.fault(1));
    }

    void dueAskFault(String text, int fault, int place) {
        renew();
        long answer = ask(text);
        due("ask(" + text + ") is a fault", fault != 0, answer == OnePane.NOTHING);
        due("fault of " + text, fault, x.fault(0));
        due("place in " + text, place, x.fault(1));
    }
}
