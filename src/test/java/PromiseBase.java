/** What the tests of single promises share. */
class PromiseBase {
    /**
     * Ann and Bo hold two hours of three. By hand: cell 1 0 cracks in hour 2, 1 1 in hour 3, 0 0 and 2 0 in hour 4,
     * 0 1 in hour 6, and 2 1 never.
     */
    static final String TOWN = "pane 3 by 2 tough 4;heavy 1 0 9;heavy 2 1 0;pole ann at 0 0 lifts 8;pole bo at 2 0 lifts 5;"
        + "holds tired<2;fades 2;adds weight+1;stone 30;hail 50;";

    static void topic(String topic) {
        Desk.topic = topic;
    }

    static void due(String call, long want, long got) {
        Desk.due(call, want, got);
    }

    static void due(String call, boolean want, boolean got) {
        Desk.due(call, want, got);
    }

    static void has(Desk d, int... due) {
        for (int what = 0; what < due.length; what++) {
            due("has(" + what + ")", due[what], d.x.has(what));
        }
    }

    static int[] imageOf(OnePane x) {
        int[] image = new int[x.image()];
        for (int k = 0; k < image.length; k++) {
            image[k] = x.octet(k);
        }
        return image;
    }

    static int[] checked(int[] image) {
        int check = 127;
        for (int k = 0; k + 1 < image.length; k++) {
            check = (3 * check + image[k]) % 251;
        }
        image[image.length - 1] = check;
        return image;
    }

    /** Gives the image back with one byte changed. */
    static boolean onWith(Desk d, int k, int value) {
        int[] image = imageOf(d.x);
        image[k] = value;
        d.bytes(checked(image));
        return d.x.on();
    }

    /** The town as it is, at another hour. */
    static void late(Desk d, int hour) {
        int[] image = imageOf(d.x);
        image[0] = hour >> 8;
        image[1] = hour & 255;
        d.bytes(checked(image));
        due("on at " + hour, true, d.x.on());
    }
}
