/** Counts the calls of a test whose answer is not the one that is due, and tells them. */
final class Check {
    private int calls;
    private int wrong;

    void due(String call, long want, long got) {
        calls++;
        if (got != want) {
            wrong++;
            System.out.println(call + " answered " + got + ", due is " + want);
        }
    }

    void holds(String what, boolean so) {
        due(what, 1, so ? 1 : 0);
    }

    /** Feeds a text whole; each char is a byte. */
    void feed(LastDays x, String text) {
        for (int at = 0; at < text.length(); at += 8) {
            int n = Math.min(8, text.length() - at);
            long eight = 0;
            for (int i = 0; i < n; i++) {
                eight |= (long) text.charAt(at + i) << (8 * i);
            }
            x.feed(eight, n);
        }
    }

    LastDays told(String text) {
        LastDays x = new LastDays();
        feed(x, text);
        holds("task() of \"" + text + "\" has no FAULT", x.task() >= 0);
        return x;
    }

    void end() {
        System.out.println(calls + " answers, " + wrong + " not as due");
        if (wrong != 0 || calls == 0) {
            System.exit(1);
        }
    }
}
