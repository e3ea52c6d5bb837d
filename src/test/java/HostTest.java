/** Promises 33 to 42: SHEETS, SHELVES, ACTS with THE TRACE, how many, and what is kept. */
public final class HostTest {
    private static final Check CHECK = new Check();

    public static void main(String[] args) {
        sheets();
        items();
        shelves();
        rowsOnShelves();
        acts();
        actsOfNothing();
        partedByZero();
        counts();
        kept();
        CHECK.end();
    }

    private static void sheets() {
        LastDays x = new LastDays();
        CHECK.due("sheet(-1, 0, 1)", LastDays.BAD, x.sheet(-1, 0, 1));
        CHECK.due("sheet(4, 0, 1)", LastDays.BAD, x.sheet(4, 0, 1));
        CHECK.due("sheet(0, 4, 1)", LastDays.BAD, x.sheet(0, 4, 1));
        CHECK.due("sheet(0, -2, 1)", LastDays.BAD, x.sheet(0, -2, 1));
        CHECK.due("sheet(0, 0, 41)", LastDays.BAD, x.sheet(0, 0, 41));
        CHECK.due("sheet(0, 0, -1)", -14, x.sheet(0, 0, -1));
        CHECK.due("sheet(4, 0, -1)", LastDays.BAD, x.sheet(4, 0, -1));
        CHECK.due("sheet(0, 0, 40)", 1, x.sheet(0, 0, 40));
        CHECK.due("put(0, 39, 5)", 1, x.put(0, 39, 5));
        CHECK.due("sheet(0, 0, MIN)", -14, x.sheet(0, 0, Integer.MIN_VALUE));
        CHECK.due("a refusal leaves the SHEET", 5, x.item(0, 0, 39));
        CHECK.due("sheet(0, 0, 40)", 1, x.sheet(0, 0, 40));
        CHECK.due("all 0 again", 0, x.item(0, 0, 39));
        CHECK.due("sheet(0, -1, 99)", 1, x.sheet(0, -1, 99));
        CHECK.due("missing", -11, x.item(0, 0, 0));
        CHECK.due("sheet(0, -1, -99)", 1, x.sheet(0, -1, -99));
        CHECK.due("sheet(3, 2, 0)", 1, x.sheet(3, 2, 0));
        CHECK.due("no item", -12, x.item(3, 2, 0));
    }

    private static void items() {
        LastDays x = new LastDays();
        CHECK.due("put(0, 0, 1)", -11, x.put(0, 0, 1));
        CHECK.due("put(4, 0, 1)", LastDays.BAD, x.put(4, 0, 1));
        CHECK.due("put(-1, 0, 1)", LastDays.BAD, x.put(-1, 0, 1));
        CHECK.due("item(0, 0, 0)", -11, x.item(0, 0, 0));
        int v = 0x7fff_ff85;
        int[] narrowed = {(byte) 0x85, (short) 0xff85, v, v};
        for (int sort = 0; sort < 4; sort++) {
            x.sheet(sort, sort, 3);
            CHECK.due("put at 3", -12, x.put(sort, 3, 1));
            CHECK.due("put at -1", -12, x.put(sort, -1, 1));
            CHECK.due("put", 1, x.put(sort, 2, v));
            CHECK.due("item of sort " + sort, narrowed[sort], x.item(sort, sort, 2));
            CHECK.due("item beside it", 0, x.item(sort, sort, 1));
            CHECK.due("item at 3", -12, x.item(sort, sort, 3));
            CHECK.due("item at -1", -12, x.item(sort, sort, -1));
            for (int other = 0; other < 4; other++) {
                if (other != sort) {
                    CHECK.due("taken for sort " + other, -13, x.item(sort, other, 2));
                    CHECK.due("-13 is named ahead of -12", -13, x.item(sort, other, 3));
                }
            }
            CHECK.due("item(.., 4, 0)", LastDays.BAD, x.item(sort, 4, 0));
            CHECK.due("item(.., -1, 0)", LastDays.BAD, x.item(sort, -1, 0));
            x.put(sort, 0, -1);
            CHECK.due("an item may be as low", -1, x.item(sort, sort, 0));
        }
        CHECK.due("item(4, 0, 0)", LastDays.BAD, x.item(4, 0, 0));
        CHECK.due("item(-1, 0, 0)", LastDays.BAD, x.item(-1, 0, 0));
    }

    private static void shelves() {
        LastDays x = CHECK.told("worker 1 work 9;late 1 work 9;halver 1 work 9;waiter 1 work 9;steady 1 work 9;busy 1 work 9;");
        CHECK.due("shelf(4, 2, 0)", LastDays.BAD, x.shelf(4, 2, 0));
        CHECK.due("shelf(-1, 2, 0)", LastDays.BAD, x.shelf(-1, 2, 0));
        CHECK.due("shelf(0, 3, 0)", LastDays.BAD, x.shelf(0, 3, 0));
        CHECK.due("shelf(0, -1, 0)", LastDays.BAD, x.shelf(0, -1, 0));
        CHECK.due("shelf(0, 0, 6)", LastDays.BAD, x.shelf(0, 0, 6));
        CHECK.due("shelf(0, 0, -1)", LastDays.BAD, x.shelf(0, 0, -1));
        CHECK.due("shelf(0, 1, 4)", LastDays.BAD, x.shelf(0, 1, 4));
        CHECK.due("shelf(0, 1, -1)", LastDays.BAD, x.shelf(0, 1, -1));
        CHECK.due("taken(0, 0)", -11, x.taken(0, 0));
        CHECK.due("taken(0, 10)", -11, x.taken(0, 10));
        // KINDS that each is one of, as a set
        int[] of = {1, 1 | 2, 1 | 4, 1 | 2 | 8, 1 | 4 | 16, 1 | 32};
        for (int person = 0; person < 6; person++) {
            CHECK.due("shelf(3, 0, " + person + ")", 1, x.shelf(3, 0, person));
            for (int as = 0; as < 6; as++) {
                int due = (of[person] >> as & 1) == 1 ? person : -13;
                CHECK.due("KIND " + person + " taken(3, " + as + ")", due, x.taken(3, as));
            }
            CHECK.due("taken(3, 10)", -13, x.taken(3, 10));
        }
        for (int as : new int[] {-1, 6, 9, 14, Integer.MIN_VALUE, Integer.MAX_VALUE}) {
            CHECK.due("taken(3, " + as + ")", LastDays.BAD, x.taken(3, as));
        }
        CHECK.due("taken(4, 0)", LastDays.BAD, x.taken(4, 0));
        CHECK.due("taken(-1, 0)", LastDays.BAD, x.taken(-1, 0));
        x.shelf(3, 0, 5);
        x.mind(5, 3, 0);
        CHECK.due("a PERSON is held as what it is now", 5, x.taken(3, 1));
        x.task();
        CHECK.due("there is no such one any more", -11, x.taken(3, 0));
        CHECK.due("act(3, 0, 1)", 0, x.act(3, 0, 1));
        CHECK.due("shelf(3, 2, 99)", 1, x.shelf(3, 2, 99));
    }

    private static void rowsOnShelves() {
        LastDays x = new LastDays();
        CHECK.due("a missing SHEET", 1, x.shelf(0, 1, 0));
        CHECK.due("is nothing", -11, x.taken(0, 10));
        for (int sort = 0; sort < 4; sort++) {
            x.sheet(1, sort, 5 + sort);
            CHECK.due("shelf(0, 1, 1)", 1, x.shelf(0, 1, 1));
            for (int as = 10; as < 14; as++) {
                CHECK.due("taken(0, " + as + ")", as - 10 == sort ? 5 + sort : -13, x.taken(0, as));
            }
            CHECK.due("taken(0, 0)", -13, x.taken(0, 0));
        }
        x.sheet(1, 0, 1);
        CHECK.due("the SHELF holds the row that it was", 8, x.taken(0, 13));
        x.sheet(1, -1, 0);
        CHECK.due("also if the SHEET is missing now", 8, x.taken(0, 13));
        CHECK.due("shelf(0, 2, 0)", 1, x.shelf(0, 2, 0));
        CHECK.due("nothing", -11, x.taken(0, 13));
        x.person(0, 0, 1);
        x.sheet(1, 0, 1);
        x.shelf(0, 1, 1);
        x.shelf(0, 0, 0);
        CHECK.due("the PERSON took its place", 0, x.taken(0, 0));
        x.shelf(0, 1, 1);
        CHECK.due("the row took its place", 1, x.taken(0, 10));
    }

    private static void ran(LastDays x, int... bodies) {
        CHECK.due("many(5)", bodies.length, x.many(5));
        for (int i = 0; i < bodies.length; i++) {
            CHECK.due("trace(" + i + ")", bodies[i], x.trace(i));
        }
        CHECK.due("trace behind them", LastDays.NONE, x.trace(bodies.length));
        CHECK.due("trace(-1)", LastDays.NONE, x.trace(-1));
    }

    private static void acted(LastDays x, int act, int v, int due, int... bodies) {
        CHECK.due("act(0, " + act + ", " + v + ")", due, x.act(0, act, v));
        ran(x, bodies);
    }

    /** All as PERSON 1 with A 4: n = 1, a = 4, a - n = 3. */
    private static LastDays thing(int kind) {
        LastDays x = new LastDays();
        x.person(0, 0, 1);
        x.person(kind, 4, 1);
        x.shelf(0, 0, 1);
        return x;
    }

    private static void acts() {
        LastDays x = thing(0);
        acted(x, 0, 10, 11, 10);
        acted(x, 1, 10, 22, 11, 10);
        acted(x, 2, 11, 3, 12);
        acted(x, 2, -11, -3, 12);
        acted(x, 3, 10, 22 ^ 4, 13, 11, 10);
        acted(x, 0, Integer.MAX_VALUE, Integer.MIN_VALUE, 10);
        x = thing(1);
        acted(x, 0, 10, 11, 10);
        acted(x, 1, 10, 18, 20, 11, 10);
        acted(x, 2, 11, 3, 12);
        acted(x, 3, 10, 18 ^ 4, 13, 20, 11, 10);
        x = thing(2);
        acted(x, 0, 10, 33, 30, 10);
        acted(x, 1, 10, 66, 11, 30, 10);
        acted(x, 2, 11, 3, 12);
        acted(x, 3, 10, 66 ^ 4, 31, 13, 11, 30, 10, 12);
        x = thing(3);
        acted(x, 0, 10, 10, 51, 10);
        acted(x, 1, 10, 16, 20, 11, 51, 10);
        acted(x, 2, 11, 4 ^ 1, 50, 12);
        acted(x, 3, 10, 16 ^ 4, 13, 20, 11, 51, 10);
        x = thing(4);
        acted(x, 0, 10, -33, 40, 30, 10);
        // works(1) is -6
        acted(x, 1, 10, -66 - 6, 41, 11, 40, 30, 10, 40, 30, 10);
        acted(x, 2, 11, 3, 12);
        acted(x, 3, 10, -72 ^ 4, 31, 13, 41, 11, 40, 30, 10, 40, 30, 10, 12);
        x = thing(5);
        acted(x, 0, 10, 11, 10);
        acted(x, 1, 10, 22, 11, 10);
        acted(x, 2, 11, 3 + 5, 61, 12, 10);
        acted(x, 3, 10, (22 ^ 4) * 2, 60, 13, 11, 10);
        // n = 2 and a = 3: by 1
        x.person(2, 3, 1);
        x.shelf(0, 0, 2);
        acted(x, 3, 10, (72 ^ 3) + 2, 31, 13, 11, 30, 10, 12);
        x.mind(2, 3, 3);
        acted(x, 2, 11, 12, 50, 12);
        acted(x, 2, 12, 15, 50, 12);
        x.mind(2, 5, 3);
        acted(x, 2, 11, 11 + 5, 61, 12, 10);
        x.shelf(0, 0, 1);
        // n = 1 and a = 0: by -1, and the least number wraps
        x.mind(1, 0, 0);
        acted(x, 2, Integer.MIN_VALUE, Integer.MIN_VALUE, 12);
    }

    private static void actsOfNothing() {
        LastDays x = thing(0);
        int[][] wrong = {{4, 0}, {-1, 0}, {0, 4}, {0, -1}, {1, 0}};
        for (int[] w : wrong) {
            acted(x, 1, 10, 22, 11, 10);
            CHECK.due("act(" + w[0] + ", " + w[1] + ", 7)", 0, x.act(w[0], w[1], 7));
            ran(x);
        }
        x.sheet(0, 0, 3);
        x.shelf(1, 1, 0);
        acted(x, 1, 10, 22, 11, 10);
        CHECK.due("act of a row", 0, x.act(1, 0, 7));
        ran(x);
    }

    private static void partedByZero() {
        LastDays x = thing(0);
        x.mind(1, 0, 1);
        acted(x, 2, 5, -15, 12);
        acted(x, 0, 5, 6, 10);
        x.mind(1, 3, 1);
        acted(x, 2, 5, -15, 50, 12);
        // Behind it nothing runs: no works(a).
        x.mind(1, 5, 1);
        acted(x, 2, 5, -15, 61, 12);
        x.mind(1, 2, 1);
        acted(x, 3, 5, -15, 31, 13, 11, 30, 10, 12);
        acted(x, 1, 5, 36, 11, 30, 10);
    }

    private static void counts() {
        LastDays x = CHECK.told("worker 7 work 9;worker 0 work 9;date 5 part 5;");
        x.days(2);
        x.prove(0, 4);
        x.feed(1, 3);
        x.shelf(0, 0, 1);
        x.act(0, 1, 1);
        int[] due = {2, 1, 1, 4, 3, 2};
        for (int what = 0; what < 6; what++) {
            CHECK.due("many(" + what + ")", due[what], x.many(what));
        }
        CHECK.due("many(6)", LastDays.BAD, x.many(6));
        CHECK.due("many(-1)", LastDays.BAD, x.many(-1));
    }

    private static void kept() {
        LastDays x = CHECK.told("worker 4 work 9;late 0 work 9 ill 0,1;date 0 part 70;due 20;most 9;penalty 9;");
        CHECK.due("again()", LastDays.NONE, x.again());
        x.set(3, 2);
        x.set(4, 3);
        x.seed(42);
        x.days(2);
        CHECK.due("keep()", 1, x.keep());
        x.days(9);
        x.seed(8);
        x.set(0, 1);
        x.mind(0, 5, 5);
        x.ill(1, 0);
        x.feed(32, 1);
        x.prove(1, 3);
        x.sheet(0, 0, 2);
        x.shelf(0, 0, 1);
        x.act(0, 0, 1);
        for (int go = 0; go < 2; go++) {
            CHECK.due("again()", 2, x.again());
            int[][] people = {{0, 4, 9, 9, 0, 1, 1, 120}, {1, 0, 9, 0, 3, -9, 1, -9}};
            for (int i = 0; i < 2; i++) {
                for (int what = 0; what < 8; what++) {
                    CHECK.due("personOf(" + i + ", " + what + ")", people[i][what], x.personOf(i, what));
                }
            }
            int[] laws = {20, 9, 9, 2, 3};
            for (int law = 0; law < 5; law++) {
                CHECK.due("lawOf(" + law + ")", laws[law], x.lawOf(law));
            }
            CHECK.due("many(1)", 1, x.many(1));
            CHECK.due("dateOf(0, 1)", 70, x.dateOf(0, 1));
            CHECK.due("seed(1)", 42, x.seed(1));
            CHECK.due("THE TAPE stays", 1, x.many(4));
            CHECK.due("ROWS stay", 3, x.many(3));
            CHECK.due("SHEETS stay", 0, x.item(0, 0, 1));
            CHECK.due("SHELVES stay", 1, x.taken(0, 1));
            CHECK.due("THE TRACE stays", 10, x.trace(0));
            x.strike(0);
            x.days(5);
            x.person(0, 0, 1);
        }
        x.keep();
        CHECK.due("what was kept latest", 7, x.again());
        CHECK.due("many(0)", 3, x.many(0));
        x.task();
        CHECK.due("it stays behind a task()", 7, x.again());
        CHECK.due("many(0)", 3, x.many(0));
    }
}
