/** Promises 28 to 32: ROWS, THE READER, and A of PEOPLE from a SHEET. */
public final class RowsTest {
    private static final Check CHECK = new Check();

    public static void main(String[] args) {
        proving();
        judging();
        nearTheEnd();
        minds();
        CHECK.end();
    }

    private static void proving() {
        LastDays x = CHECK.told("worker 2 work 8 ill 2;steady 0 work 50;");
        x.days(1);
        CHECK.due("prove(0, 0)", LastDays.BAD, x.prove(0, 0));
        CHECK.due("prove(0, 21)", LastDays.BAD, x.prove(0, 21));
        CHECK.due("prove(2, 5)", LastDays.BAD, x.prove(2, 5));
        CHECK.due("prove(-1, 5)", LastDays.BAD, x.prove(-1, 5));
        CHECK.due("many(3)", 0, x.many(3));
        CHECK.due("prove(0, 5)", 5, x.prove(0, 5));
        int[][] due = {{1, 3, 6}, {2, 0, 6}, {3, 2, 8}, {4, 0, 8}, {5, 0, 8}};
        for (int i = 0; i < 5; i++) {
            for (int what = 0; what < 3; what++) {
                CHECK.due("row(" + i + ", " + what + ")", due[i][what], x.row(i, what));
            }
        }
        CHECK.due("row(5, 0)", -9, x.row(5, 0));
        CHECK.due("row(-1, 0)", -9, x.row(-1, 0));
        CHECK.due("row(0, 3)", -9, x.row(0, 3));
        CHECK.due("row(0, -1)", -9, x.row(0, -1));
        CHECK.due("prove(1, 20)", 20, x.prove(1, 20));
        CHECK.due("row(19, 0)", 20, x.row(19, 0));
        CHECK.due("prove(1, 1)", 1, x.prove(1, 1));
        CHECK.due("row(1, 0)", -9, x.row(1, 0));
        CHECK.due("many(3)", 1, x.many(3));
    }

    private static void judging() {
        LastDays x = CHECK.told("worker 2 work 50;worker 3 work 50;");
        CHECK.due("no ROWS", 0, x.judge(0));
        CHECK.due("judge(2)", LastDays.BAD, x.judge(2));
        CHECK.due("judge(-1)", LastDays.BAD, x.judge(-1));
        x.prove(0, 4);
        CHECK.due("all is right", 0, x.judge(0));
        CHECK.due("those of another", 1, x.judge(1));
        for (int i = 0; i < 4; i++) {
            for (int what = 0; what < 3; what++) {
                int was = x.row(i, what);
                CHECK.due("alterRow", was, x.alterRow(i, what, -7));
                CHECK.due("row", -7, x.row(i, what));
                CHECK.due("judge(0)", i + 1, x.judge(0));
                CHECK.due("alterRow", -7, x.alterRow(i, what, was));
                CHECK.due("judge(0)", 0, x.judge(0));
            }
        }
        x.alterRow(3, 1, 0);
        x.alterRow(1, 2, 0);
        CHECK.due("the first that is wrong", 2, x.judge(0));
        CHECK.due("alterRow(4, 0, 1)", -9, x.alterRow(4, 0, 1));
        CHECK.due("alterRow(-1, 0, 1)", -9, x.alterRow(-1, 0, 1));
        CHECK.due("alterRow(0, 3, 1)", -9, x.alterRow(0, 3, 1));
        CHECK.due("alterRow(0, -1, 1)", -9, x.alterRow(0, -1, 1));
        x.prove(0, 4);
        x.ill(0, 1 << 2);
        CHECK.due("as it must be now", 3, x.judge(0));
        x.ill(0, 0);
        x.days(1);
        CHECK.due("from now on", 1, x.judge(0));
    }

    private static void nearTheEnd() {
        LastDays x = CHECK.told("worker 0 work 99;");
        x.days(57);
        CHECK.due("prove(0, 3)", 3, x.prove(0, 3));
        CHECK.due("prove(0, 20)", 3, x.prove(0, 20));
        CHECK.due("row(2, 0)", 59, x.row(2, 0));
        CHECK.due("row(2, 2)", 60, x.row(2, 2));
        x.days(1);
        x.alterRow(0, 0, 58);
        x.alterRow(0, 2, 59);
        x.alterRow(1, 0, 59);
        x.alterRow(1, 2, 60);
        x.alterRow(2, 0, 60);
        x.alterRow(2, 2, 61);
        CHECK.due("rows behind DAY 59 are wrong", 3, x.judge(0));
        x.days(2);
        CHECK.due("all are behind it", 1, x.judge(0));
        CHECK.due("prove(0, 20) on DAY 60", 0, x.prove(0, 20));
        CHECK.due("many(3)", 0, x.many(3));
        CHECK.due("judge(0)", 0, x.judge(0));
    }

    private static void minds() {
        LastDays x = CHECK.told("worker 1 work 9;late 2 work 9;halver 3 work 9;");
        CHECK.due("no SHEET there", -11, x.minds(0, 99, 0, 3));
        x.sheet(1, 1, 2);
        CHECK.due("shorts; -13 is named ahead of -12", -13, x.minds(1, 99, 0, 3));
        x.sheet(0, 0, 4);
        x.put(0, 1, 10);
        x.put(0, 2, -128);
        x.put(0, 3, 7);
        CHECK.due("minds(0, 2, 0, 3)", -12, x.minds(0, 2, 0, 3));
        CHECK.due("minds(0, -1, 0, 0)", -12, x.minds(0, -1, 0, 0));
        CHECK.due("minds(0, MAX, 0, 1)", -12, x.minds(0, Integer.MAX_VALUE, 0, 1));
        CHECK.due("minds(0, 5, 0, 0)", -12, x.minds(0, 5, 0, 0));
        CHECK.due("minds(4, 0, 0, 1)", LastDays.BAD, x.minds(4, 0, 0, 1));
        CHECK.due("minds(-1, 0, 0, 1)", LastDays.BAD, x.minds(-1, 0, 0, 1));
        CHECK.due("minds(0, 0, 3, 0)", LastDays.BAD, x.minds(0, 0, 3, 0));
        CHECK.due("minds(0, 0, -1, 1)", LastDays.BAD, x.minds(0, 0, -1, 1));
        CHECK.due("minds(0, 0, 0, 4)", LastDays.BAD, x.minds(0, 0, 0, 4));
        CHECK.due("minds(0, 0, 1, 3)", LastDays.BAD, x.minds(0, 0, 1, 3));
        CHECK.due("minds(0, 0, 0, -1)", LastDays.BAD, x.minds(0, 0, 0, -1));
        CHECK.due("minds(0, 0, 0, 7)", LastDays.BAD, x.minds(0, 0, 0, 7));
        CHECK.due("minds(0, 0, 1, MAX)", LastDays.BAD, x.minds(0, 0, 1, Integer.MAX_VALUE));
        for (int i = 0; i < 3; i++) {
            CHECK.due("A as it was", i + 1, x.personOf(i, 1));
        }
        CHECK.due("minds(0, 4, 2, 0)", 0, x.minds(0, 4, 2, 0));
        CHECK.due("minds(0, 1, 0, 3)", 3, x.minds(0, 1, 0, 3));
        CHECK.due("held to 9", 9, x.personOf(0, 1));
        CHECK.due("held to 0", 0, x.personOf(1, 1));
        CHECK.due("as it is", 7, x.personOf(2, 1));
        CHECK.due("KIND stays", 1, x.personOf(1, 0));
        CHECK.due("minds(0, 0, 2, 1)", 1, x.minds(0, 0, 2, 1));
        CHECK.due("personOf(2, 1)", 0, x.personOf(2, 1));
        CHECK.due("minds(0, 3, 1, 1)", 1, x.minds(0, 3, 1, 1));
        CHECK.due("personOf(1, 1)", 7, x.personOf(1, 1));
        for (int i = 3; i < 6; i++) {
            x.person(0, 1, 1);
        }
        x.sheet(2, 0, 6);
        x.put(2, 5, 8);
        CHECK.due("minds(2, 0, 0, 6)", 6, x.minds(2, 0, 0, 6));
        CHECK.due("personOf(5, 1)", 8, x.personOf(5, 1));
    }
}
