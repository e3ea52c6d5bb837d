/** Promises 1 to 3: a new object, THE TAPE, and the TEXT on it. */
public final class TaskTest {
    private static final Check CHECK = new Check();

    public static void main(String[] args) {
        newObject();
        feeding();
        aTextIsAll();
        whatStaysBehindATask();
        faults();
        theEndOfTheTape();
        CHECK.end();
    }

    private static void newObject() {
        LastDays x = new LastDays();
        for (int what = 0; what <= 5; what++) {
            CHECK.due("new: many(" + what + ")", 0, x.many(what));
        }
        int[] laws = {29, 8, 5, 0, 5};
        for (int law = 0; law < 5; law++) {
            CHECK.due("new: lawOf(" + law + ")", laws[law], x.lawOf(law));
        }
        CHECK.due("new: today()", 0, x.today());
        CHECK.due("new: again()", LastDays.NONE, x.again());
        CHECK.due("new: seed(1)", 1, x.seed(1));
        for (int i = 0; i < 4; i++) {
            CHECK.due("new: put(" + i + ", 0, 0)", -11, x.put(i, 0, 0));
            CHECK.due("new: taken(" + i + ", 0)", -11, x.taken(i, 0));
        }
        CHECK.due("new: row(0, 0)", -9, x.row(0, 0));
        CHECK.due("new: trace(0)", LastDays.NONE, x.trace(0));
    }

    private static void feeding() {
        LastDays x = new LastDays();
        CHECK.due("feed(0, 0)", LastDays.BAD, x.feed(0, 0));
        CHECK.due("feed(0, 9)", LastDays.BAD, x.feed(0, 9));
        CHECK.due("feed(0, -1)", LastDays.BAD, x.feed(0, -1));
        for (int i = 1; i <= 24; i++) {
            CHECK.due("feed of eight", 8 * i, x.feed(-1L, 8));
        }
        CHECK.due("the 199th", 199, x.feed(0, 7));
        CHECK.due("two at 199", LastDays.FULL, x.feed(0, 2));
        CHECK.due("nine at 199", LastDays.BAD, x.feed(0, 9));
        CHECK.due("the 200th", 200, x.feed(0, 1));
        CHECK.due("one at 200", LastDays.FULL, x.feed(0, 1));
        CHECK.due("many(4)", 200, x.many(4));
        CHECK.due("task() of byte -1", -100, x.task());
        CHECK.due("many(4)", 0, x.many(4));
        // The lowest byte comes first, and those above the n-th don't come: "due 7;" and rubbish.
        CHECK.due("feed", 6, x.feed(0x5a5a_3b37_2065_7564L, 6));
        CHECK.due("task()", 0, x.task());
        CHECK.due("lawOf(0)", 7, x.lawOf(0));
    }

    private static void aTextIsAll() {
        LastDays x = CHECK.told("  busy 09 work 99 ill 0 , 29,0 ; late 0work 1;due 50;most12;penalty 30;"
                + "date 0 part 1;date 49 part 99;  ");
        int[][] people = {{5, 9, 99, 0, 1 | 1 << 29, -9, 0, -9}, {1, 0, 1, 0, 0, -9, 0, -9}};
        for (int i = 0; i < people.length; i++) {
            for (int what = 0; what < 8; what++) {
                CHECK.due("personOf(" + i + ", " + what + ")", people[i][what], x.personOf(i, what));
            }
        }
        int[] laws = {50, 12, 30, 0, 5};
        for (int law = 0; law < 5; law++) {
            CHECK.due("lawOf(" + law + ")", laws[law], x.lawOf(law));
        }
        CHECK.due("many(1)", 2, x.many(1));
        CHECK.due("dateOf(1, 0)", 49, x.dateOf(1, 0));
        CHECK.due("dateOf(1, 1)", 99, x.dateOf(1, 1));
        String six = "worker 1 work 1;late 1 work 1;halver 1 work 1;waiter 1 work 1;steady 1 work 1;busy 1 work 1;";
        x = CHECK.told(six);
        for (int kind = 0; kind < 6; kind++) {
            CHECK.due("personOf(" + kind + ", 0)", kind, x.personOf(kind, 0));
        }
        // DATES at or behind DUE are gone, wherever DUE is told; the latest DUE counts.
        x = CHECK.told("due 40;date 5 part 9;date 20 part 8;date 21 part 7;due 21;");
        CHECK.due("many(1)", 2, x.many(1));
        CHECK.due("dateOf(1, 0)", 20, x.dateOf(1, 0));
        x = CHECK.told("date 5 part 9;date 40 part 8;");
        CHECK.due("many(1) by DUE 29", 1, x.many(1));
    }

    private static void whatStaysBehindATask() {
        LastDays x = new LastDays();
        x.person(0, 3, 50);
        x.date(4, 50);
        x.set(3, 7);
        x.set(4, 9);
        x.seed(77);
        x.days(2);
        x.prove(0, 3);
        x.sheet(0, 0, 5);
        CHECK.feed(x, "worker 1 work 100;");
        CHECK.due("task()", -114, x.task());
        CHECK.due("a FAULT uses THE TAPE up", 0, x.many(4));
        CHECK.due("a FAULT leaves ROWS", 3, x.many(3));
        CHECK.due("a FAULT leaves PEOPLE", 1, x.many(0));
        CHECK.due("a FAULT leaves DATES", 1, x.many(1));
        CHECK.due("a FAULT leaves TODAY", 2, x.today());
        CHECK.due("a FAULT leaves DONE", 8, x.personOf(0, 3));
        CHECK.due("a FAULT leaves BONUS", 7, x.lawOf(3));
        CHECK.due("task() of nothing", 0, x.task());
        CHECK.due("no PEOPLE", 0, x.many(0));
        CHECK.due("no DATES", 0, x.many(1));
        CHECK.due("no ROWS", 0, x.many(3));
        CHECK.due("TODAY", 0, x.today());
        CHECK.due("BONUS", 0, x.lawOf(3));
        CHECK.due("MISSED", 5, x.lawOf(4));
        CHECK.due("z stays", 77, x.seed(1));
        CHECK.due("SHEETS stay", 1, x.put(0, 4, 1));
        // One who comes to a number that was another's begins anew, whether by a text or by person().
        x = CHECK.told("worker 0 work 50 ill 1;date 0 part 99;");
        x.days(4);
        x.seed(9);
        CHECK.feed(x, "late 1 work 20;");
        CHECK.due("task()", 1, x.task());
        CHECK.due("z stays", 9, x.seed(9));
        int[] anew = {1, 1, 20, 0, 0, -9, 0, -9};
        for (int go = 0; go < 2; go++) {
            for (int what = 0; what < 8; what++) {
                CHECK.due("personOf(0, " + what + ")", anew[what], x.personOf(0, what));
            }
            x.ill(0, 7);
            x.date(0, 99);
            x.days(9);
            x.task();
            x.person(1, 1, 20);
        }
    }

    /** What stood on THE TAPE ahead is no part of the TEXT, and all 200 bytes are. */
    private static void theEndOfTheTape() {
        LastDays x = new LastDays();
        for (String earlier : new String[] {"due 5 7;", "due 57;", "due 5;", "due 5    ", "due work"}) {
            for (String text : new String[] {"due", "due ", "due 5"}) {
                CHECK.feed(x, earlier);
                x.task();
                CHECK.feed(x, text);
                CHECK.due("\"" + text + "\" behind \"" + earlier + "\"", -100 - text.length(), x.task());
            }
        }
        String most = "due 10;".repeat(28);
        String[] ends = {"    ", "due ", "dues", "5   ", ";   "};
        int[] faults = {0, -300, -296, -296, -296};
        for (int i = 0; i < ends.length; i++) {
            CHECK.feed(x, most + ends[i]);
            CHECK.due("many(4)", 200, x.many(4));
            CHECK.due("200 bytes that end with \"" + ends[i] + "\"", faults[i], x.task());
        }
        CHECK.feed(x, " ".repeat(195) + "due 5");
        CHECK.due("a NUMBER at the very end", -300, x.task());
        CHECK.feed(x, " ".repeat(194) + "due 5;");
        CHECK.due("a sign at the very end", 0, x.task());
        CHECK.due("lawOf(0)", 5, x.lawOf(0));
    }

    private static void fault(String text, int place) {
        LastDays x = new LastDays();
        CHECK.feed(x, text);
        CHECK.due("task() of \"" + text + "\"", -100 - place, x.task());
    }

    private static void faults() {
        fault("Worker 1 work 1;", 0);
        fault("  work 1;", 2);
        fault("workers 1 work 1;", 0);
        fault("worke 1 work 1;", 0);
        fault("worker work 1;", 7);
        fault("worker 10 work 1;", 7);
        fault("worker 1 part 1;", 9);
        fault("worker 1 work 1 ill 2 3;", 22);
        fault("worker 1 work 1 ill 2,;", 22);
        fault("worker 1 work 1, 2;", 15);
        fault("worker 1 work 1 ill 2;;", 22);
        fault("worker 1 work 1 ", 16);
        fault("worker -1 work 1;", 7);
        fault("worker 1 work 000;", 14);
        fault("12;", 0);
        fault("duez 5;", 0);
        fault("adue 5;", 0);
        fault("due 9:;", 5);
        fault("worker 1 work 0;", 14);
        fault("worker 1 work 1 ill 30;", 20);
        fault("worker 1 work 1;late 1 work 1;busy 1 work 1;worker 1 work 1;late 1 work 1;busy 1 work 1;due 5;worker", 94);
        fault("date 5 part 0;", 12);
        fault("date 5 part 5;date 5 part 5;", 19);
        fault("due", 3);
        fault("due 5", 5);
        fault("due 5  ", 7);
        fault("due ;", 4);
        fault("due 5\t;", 5);
        fault("due 5;most 0;", 11);
        fault("bonus 5;", 0);
        fault("missed 5;", 0);
        fault("date 7 part 5;date 6 part 5;", 19);
        fault("date 49 part 5;date 50 part 5;", 20);
        fault("due 5;date 7 part 5;date 8 part 5;date 9 part 5;date 10 part 5;", 48);
        fault("date 1 work 5;", 7);
        fault("due 5\u0000;", 5);
        fault("due 5\u00ff;", 5);
        fault("due 5;\u0000", 6);
    }
}
