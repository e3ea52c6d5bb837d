/** The document's part 3 and promises 1 and 28 to 42, sentence by sentence: ROWS, ACTS, SHEETS, SHELVES and what is kept, at their edges. */
public final class EdgesOfHostTest {
    private static final Check CHECK = new Check();

    public static void main(String[] args) {
        aNewObject();
        rows();
        rowsNearTheEnd();
        alteredRows();
        theReader();
        minds();
        mindsRefused();
        sheets();
        sheetsAnew();
        narrowed();
        itemsAsLowAsRefusals();
        shelves();
        shelvesOfRows();
        shelvesByNumber();
        takenForKinds();
        takenForRows();
        actsWrap();
        partedByZero();
        noTrace();
        theTrace();
        counts();
        kept();
        CHECK.end();
    }

    private static Story story(String sentence) {
        return new Story(CHECK, sentence);
    }

    private static void aNewObject() {
        story("Nobody, no DATES; nothing is kept").row("many(#)", 0, 0, 0, 0, 0, 0, -1).does("again() = NONE; today() = 0; personOf(0, 0) = BAD; dateOf(0, 0) = NONE; late() = 0; marks() = 0");
        story("1 at first").does("seed(5) = 1");
        story("SHEETS are missing at first, SHELVES hold nothing").each(0, 3, "put(#, 0, 1) = -11; item(#, 0, 0) = -11; taken(#, 0) = -11; taken(#, 13) = -11; act(#, 0, 1) = 0");
        story("no ROWS and no TRACE").does("row(0, 0) = -9; alterRow(0, 0, 1) = -9; trace(0) = NONE; many(5) = 0; task() = 0");
        story("an object of its own").does("person(0, 0, 1); keep()");
        story("an object of its own").does("many(0) = 0; again() = NONE");
    }

    private static void rows() {
        story("ROWS by n (1 to 20)").does("person(0, 0, 99); prove(0, 0) = BAD; prove(0, 21) = BAD; many(3) = 0; prove(0, 1) = 1; many(3) = 1; row(0, 0) = 0; row(1, 0) = -9")
                .does("prove(0, 20) = 20; many(3) = 20; row(19, 0) = 19; row(19, 1) = 1; row(19, 2) = 20; row(20, 0) = -9; row(-1, 0) = -9; prove(0, 1) = 1; row(1, 0) = -9");
        story("(DAY, HOURS, DONE behind it)").reads("worker 2 work 8 ill 1;", 1).does("prove(0, 5) = 5").row("row(0, #)", 0, 3, 3, -9).row("row(1, #)", 1, 0, 3)
                .row("row(2, #)", 2, 3, 6).row("row(3, #)", 3, 2, 8).row("row(4, #)", 4, 0, 8).does("row(0, -1) = -9; personOf(0, 3) = 0");
        story("a refused prove leaves ROWS").does("person(0, 0, 99); prove(0, 3); prove(1, 3) = BAD; prove(-1, 3) = BAD; prove(0, 21) = BAD; many(3) = 3");
        story("ROWS stay as they were told").does("person(0, 0, 99); prove(0, 3); days(9); mind(0, 0, 9); row(0, 0) = 0; row(2, 2) = 3; many(3) = 3");
    }

    private static void rowsNearTheEnd() {
        story("as far as there are such").does("person(0, 0, 99); days(40); prove(0, 20) = 20; row(19, 0) = 59; days(1); prove(0, 20) = 19; row(18, 0) = 59; row(19, 0) = -9")
                .does("prove(0, 19) = 19; prove(0, 18) = 18; days(18); prove(0, 20) = 1; row(0, 0) = 59; row(0, 2) = 60; days(1); prove(0, 1) = 0; many(3) = 0; row(0, 0) = -9");
    }

    private static void alteredRows() {
        story("It becomes v: what it was").does("person(0, 0, 99); prove(0, 2); alterRow(1, 2, MIN) = 2; alterRow(1, 2, MAX) = MIN; row(1, 2) = MAX; alterRow(0, 0, -9) = 0; row(0, 0) = -9; alterRow(0, 0, 5) = -9; row(0, 0) = 5")
                .does("row(0, 1) = 1; row(0, 2) = 1; row(1, 0) = 1; row(1, 1) = 1");
        story("-9 likewise").does("person(0, 0, 99); prove(0, 2); alterRow(2, 0, 7) = -9; alterRow(-1, 0, 7) = -9; alterRow(0, 3, 7) = -9; alterRow(0, -1, 7) = -9; alterRow(1, MAX, 7) = -9; alterRow(MAX, 0, 7) = -9; alterRow(MIN, 0, 7) = -9")
                .row("row(0, #)", 0, 1, 1).row("row(1, #)", 1, 1, 2).does("judge(0) = 0; many(3) = 2; prove(0, 3); row(2, 0) = 2");
    }

    private static void theReader() {
        story("0 all is right (also if there are none)").does("person(0, 0, 99); judge(0) = 0; judge(1) = BAD; judge(-1) = BAD; prove(0, 20); judge(0) = 0");
        story("else the first ROW that isn't, and 1 more").does("person(0, 0, 99); prove(0, 20); alterRow(19, 0, 18); judge(0) = 20; alterRow(19, 0, 19); judge(0) = 0; alterRow(19, 1, 2); judge(0) = 20; alterRow(19, 1, 1)")
                .does("alterRow(19, 2, 19); judge(0) = 20; alterRow(0, 0, 1); judge(0) = 1; alterRow(0, 0, 0); alterRow(0, 1, 0); judge(0) = 1; alterRow(0, 1, 1); alterRow(0, 2, 0); judge(0) = 1; alterRow(0, 2, 1); alterRow(7, 1, 8); judge(0) = 8");
        story("as those of a PERSON").does("person(0, 0, 99); person(0, 1, 99); person(0, 0, 50); prove(0, 3); judge(0) = 0; judge(1) = 1; judge(2) = 0; judge(3) = BAD");
        // On DAY 2 a worker with 2 hours has HANDED in, one with more goes on.
        story("as those of a PERSON").does("person(0, 0, 2); person(0, 0, 3); prove(1, 3); judge(1) = 0; judge(0) = 3");
        story("from now on").does("person(0, 0, 99); prove(0, 3); keep(); days(1); judge(0) = 1; again(); judge(0) = 0; ill(0, 4); judge(0) = 3");
        story("rows behind DAY 59 are wrong").does("person(0, 0, 99); days(58); prove(0, 2) = 2; judge(0) = 0; days(1); judge(0) = 1; alterRow(0, 0, 59); alterRow(0, 2, 60); judge(0) = 2")
                .does("alterRow(1, 0, 60); alterRow(1, 1, 0); alterRow(1, 2, 60); judge(0) = 2; alterRow(1, 1, 1); alterRow(1, 2, 61); judge(0) = 2; days(1); judge(0) = 1; alterRow(0, 0, 60); alterRow(0, 1, 0); judge(0) = 1");
        story("rows behind DAY 59 are wrong, of one who has HANDED in too").does("person(0, 0, 1); days(59); prove(0, 1) = 1; judge(0) = 0; days(1); alterRow(0, 0, 60); judge(0) = 1; prove(0, 1) = 0; judge(0) = 0");
    }

    private static void minds() {
        story("held to 0 to 9").reads("late 4 work 9;".repeat(6), 6).does("sheet(0, 0, 8); put(0, 0, -1); put(0, 1, 0); put(0, 2, 9); put(0, 3, 10); put(0, 4, 127); put(0, 5, 128); put(0, 6, 256); put(0, 7, 5)")
                .does("minds(0, 0, 0, 6) = 6").row("personOf(#, 1)", 0, 0, 9, 9, 9, 0).does("minds(0, 2, 0, 6) = 6").row("personOf(#, 1)", 9, 9, 9, 0, 0, 5).does("personOf(0, 0) = 1");
        story("n numbers (0 to 6)").reads("late 4 work 9;".repeat(6), 6).does("sheet(0, 0, 6); minds(0, 0, 0, 0) = 0; personOf(0, 1) = 4; minds(0, 0, 5, 1) = 1; minds(0, 5, 0, 1) = 1").row("personOf(#, 1)", 0, 4, 4, 4, 4, 0)
                .does("minds(0, 6, 0, 0) = 0; minds(0, 7, 0, 0) = -12; minds(0, -1, 0, 0) = -12; minds(0, 0, 5, 0) = 0; minds(0, 0, 6, 0) = BAD; minds(0, 0, 0, 7) = BAD; minds(0, 0, 0, -1) = BAD");
        story("a SHEET of no numbers").does("person(0, 4, 9); sheet(3, 0, 0); minds(3, 0, 0, 0) = 0; minds(3, 0, 0, 1) = -12; minds(3, 1, 0, 0) = -12; personOf(0, 1) = 4");
    }

    private static void mindsRefused() {
        story("BAD: n goes beyond the last one").reads("late 4 work 9;late 5 work 9;", 2).does("sheet(0, 0, 40); minds(0, 0, 0, 2) = 2; minds(0, 0, 0, 3) = BAD; minds(0, 0, 1, 2) = BAD; minds(0, 0, 1, 1) = 1; minds(0, 0, 1, 6) = BAD; minds(0, 0, 2, 0) = BAD")
                .does("minds(0, 0, 1, MAX) = BAD; minds(0, 0, MAX, MAX) = BAD; minds(0, 0, 0, MIN) = BAD; minds(4, 0, 0, 1) = BAD; minds(-1, 0, 0, 1) = BAD; minds(0, 0, -1, 1) = BAD");
        story("-12: none is changed, also where some would be inside").reads("late 4 work 9;late 5 work 9;", 2).does("sheet(0, 0, 2); minds(0, 1, 0, 2) = -12; personOf(0, 1) = 4; minds(0, 2, 0, 1) = -12; minds(0, -1, 0, 2) = -12; personOf(1, 1) = 5; minds(0, MAX, 0, 1) = -12; minds(0, MAX, 0, 2) = -12; minds(0, MIN, 0, 1) = -12")
                .does("personOf(0, 1) = 4; personOf(1, 1) = 5; minds(0, 0, 0, 2) = 2; personOf(1, 1) = 0");
        story("-11; -13; -12").does("person(1, 4, 9); minds(0, 0, 0, 1) = -11; minds(0, 0, 0, 0) = -11; minds(0, 99, 0, 1) = -11").each(1, 3, "sheet(0, #, 2); minds(0, 0, 0, 1) = -13; minds(0, 0, 0, 0) = -13; minds(0, 99, 0, 1) = -13")
                .does("sheet(0, 0, 2); minds(0, 99, 0, 1) = -12; personOf(0, 1) = 4");
    }

    private static void sheets() {
        for (int sort = 0; sort < 4; sort++) {
            story("40 at most").does("sheet(0, " + sort + ", 41) = BAD; item(0, " + sort + ", 0) = -11; sheet(0, " + sort + ", 40) = 1; item(0, " + sort + ", 39) = 0; item(0, " + sort + ", 40) = -12; put(0, 39, 1) = 1; put(0, 40, 1) = -12")
                    .does("sheet(0, " + sort + ", MAX) = BAD; item(0, " + sort + ", 39) = 1");
            story("a row of none").does("sheet(3, " + sort + ", 0) = 1; item(3, " + sort + ", 0) = -12; item(3, " + sort + ", -1) = -12; put(3, 0, 1) = -12; put(3, -1, 1) = -12; shelf(0, 1, 3); taken(0, 1" + sort + ") = 0");
            story("-14").does("sheet(0, " + sort + ", -1) = -14; sheet(0, " + sort + ", MIN) = -14; item(0, " + sort + ", 0) = -11; sheet(0, " + sort + ", 2) = 1; put(0, 1, 7); sheet(0, " + sort + ", -1) = -14; item(0, " + sort + ", 1) = 7");
        }
        story("BAD: no such SHEET, sort").does("sheet(-1, 0, 1) = BAD; sheet(4, 0, 1) = BAD; sheet(4, -1, 1) = BAD; sheet(0, 4, 1) = BAD; sheet(0, -2, 1) = BAD; sheet(3, 3, 1) = 1; sheet(0, 0, 1) = 1");
        story("SHEETS 0 to 3, each its own").each(0, 3, "sheet(#, 2, 2) = 1; put(#, 1, #) = 1").row("item(#, 2, 1)", 0, 1, 2, 3);
    }

    private static void sheetsAnew() {
        story("all 0").does("sheet(0, 0, 2); put(0, 0, 7); put(0, 1, 7); sheet(0, 0, 2) = 1; item(0, 0, 0) = 0; item(0, 0, 1) = 0; put(0, 0, 7); sheet(0, 3, 3) = 1; item(0, 3, 0) = 0; item(0, 0, 0) = -13");
        story("or missing (sort -1; n counts nothing then)").does("sheet(0, 0, 2); sheet(0, -1, 41) = 1; item(0, 0, 0) = -11; put(0, 0, 1) = -11; sheet(0, 0, 2); sheet(0, -1, -1) = 1; item(0, 0, 0) = -11; sheet(0, -1, MIN) = 1; sheet(0, -1, MAX) = 1; sheet(0, -1, 0) = 1; put(0, 0, 0) = -11");
    }

    private static void narrowed() {
        int[] values = {127, 128, 255, 256, -128, -129, -256, 32767, 32768, 65535, 65536, -32768, -32769, Integer.MAX_VALUE, Integer.MIN_VALUE, 0, -1};
        int[] bytes = {127, -128, -1, 0, -128, 127, 0, -1, 0, -1, 0, 0, -1, -1, 0, 0, -1};
        int[] shorts = {127, 128, 255, 256, -128, -129, -256, 32767, -32768, -1, 0, -32768, 32767, -1, 0, 0, -1};
        int[][] due = {bytes, shorts, values, values};
        for (int sort = 0; sort < 4; sort++) {
            Story story = story("narrowed to its sort: " + sort).does("sheet(1, " + sort + ", 3)");
            for (int i = 0; i < values.length; i++) {
                story.does("put(1, 1, " + values[i] + ") = 1; item(1, " + sort + ", 1) = " + due[sort][i] + "; item(1, " + sort + ", 0) = 0; item(1, " + sort + ", 2) = 0");
            }
            story.does("put(1, -1, 1) = -12; put(1, 3, 1) = -12; put(1, MIN, 1) = -12; put(1, MAX, 1) = -12; item(1, " + sort + ", -1) = -12; item(1, " + sort + ", 3) = -12; item(1, " + sort + ", MAX) = -12; item(1, " + sort + ", MIN) = -12");
            for (int other = 0; other < 4; other++) {
                if (other != sort) {
                    story.does("item(1, " + other + ", 1) = -13; item(1, " + other + ", 3) = -13");
                }
            }
        }
    }

    private static void itemsAsLowAsRefusals() {
        for (int v : new int[] {-1, -11, -12, -13, -14}) {
            story("(An item may be as low as these, too.)").does("sheet(0, 0, 1); put(0, 0, " + v + ") = 1; item(0, 0, 0) = " + v);
        }
    }

    private static void shelves() {
        story("BAD: no such SHELF, what, thing").does("person(0, 0, 1); shelf(-1, 2, 0) = BAD; shelf(4, 2, 0) = BAD; shelf(0, -1, 0) = BAD; shelf(0, 3, 0) = BAD; shelf(0, 0, 1) = BAD; shelf(0, 0, -1) = BAD; shelf(0, 1, 4) = BAD; shelf(0, 1, -1) = BAD")
                .does("shelf(0, 0, MAX) = BAD; shelf(0, 1, MIN) = BAD; taken(0, 0) = -11; shelf(0, 0, 0) = 1; shelf(3, 0, 0) = 1; shelf(0, 1, 3) = 1; taken(0, 0) = -11; taken(3, 0) = 0");
        story("nothing (2)").does("person(0, 0, 1); shelf(0, 0, 0); shelf(0, 2, 99) = 1; taken(0, 0) = -11; shelf(0, 2, MIN) = 1; sheet(0, 0, 1); shelf(0, 1, 0); taken(0, 10) = 1; shelf(0, 2, -1) = 1; taken(0, 10) = -11");
        story("SHELVES 0 to 3, each its own").reads("late 1 work 1;".repeat(4), 4).each(0, 3, "shelf(#, 0, #) = 1").row("taken(#, 1)", 0, 1, 2, 3, -1);
        story("a SHELF holds one thing").does("person(0, 0, 1); sheet(0, 2, 5); shelf(1, 0, 0); shelf(1, 1, 0); taken(1, 12) = 5; taken(1, 0) = -13; shelf(1, 0, 0); taken(1, 0) = 0; taken(1, 12) = -13");
    }

    private static void shelvesOfRows() {
        story("the row of SHEET n (nothing, if missing)").does("shelf(0, 1, 0) = 1; taken(0, 10) = -11; sheet(0, 0, 3); taken(0, 10) = -11; shelf(0, 1, 0); taken(0, 10) = 3");
        story("nothing, if missing, for what it held").does("person(0, 0, 1); shelf(0, 0, 0); shelf(0, 1, 2) = 1; taken(0, 0) = -11");
        story("a SHEET's row stays as the SHEET gets another").does("sheet(0, 0, 3); shelf(0, 1, 0); sheet(0, 2, 9); taken(0, 10) = 3; taken(0, 12) = -13; sheet(0, -1, 0); taken(0, 10) = 3");
    }

    private static void shelvesByNumber() {
        String sentence = "by its number; nothing, if there is no such one any more";
        story(sentence).reads("late 1 work 1;late 2 work 1;", 2).does("shelf(0, 0, 1); shelf(1, 0, 0); taken(0, 1) = 1").reads("busy 3 work 1;", 1)
                .does("taken(0, 0) = -11; act(0, 0, 5) = 0; many(5) = 0; taken(1, 1) = -13; taken(1, 5) = 0; person(4, 7, 1) = 1; taken(0, 4) = 1; act(0, 0, 5) = -18");
        story(sentence).does("person(0, 0, 1); keep(); person(0, 0, 1); shelf(2, 0, 1) = 1; again(); taken(2, 0) = -11; person(1, 0, 1); taken(2, 1) = 1; task(); taken(2, 0) = -11");
        story("A PERSON is held as a thing of the KIND, a: A").does("person(0, 0, 1); person(0, 5, 1); shelf(0, 0, 1); act(0, 2, 8) = 2; mind(1, 5, 9); taken(0, 5) = 1; act(0, 2, 8) = 11; mind(1, 0, 1); act(0, 2, 8) = -15");
    }

    private static void takenForKinds() {
        // KIND by KIND: is it, or is it under, KINDS 0 to 5?
        int[][] is = {{1, 0, 0, 0, 0, 0}, {1, 1, 0, 0, 0, 0}, {1, 0, 1, 0, 0, 0}, {1, 1, 0, 1, 0, 0}, {1, 0, 1, 0, 1, 0}, {1, 0, 0, 0, 0, 1}};
        for (int kind = 0; kind < 6; kind++) {
            Story story = story("a thing of KIND as (0 to 5, or one under it)").does("person(0, 0, 1); person(" + kind + ", 0, 1); shelf(0, 0, 1)");
            for (int as = 0; as < 6; as++) {
                story.does("taken(0, " + as + ") = " + (is[kind][as] == 1 ? 1 : -13));
            }
            story.each(10, 13, "taken(0, #) = -13").does("taken(0, 6) = BAD; taken(0, 9) = BAD; taken(0, 14) = BAD; taken(0, -1) = BAD; taken(0, MAX) = BAD; taken(0, MIN) = BAD");
        }
        story("BAD: no such SHELF, as").does("taken(-1, 0) = BAD; taken(4, 0) = BAD; taken(0, 6) = BAD; taken(0, 0) = -11; taken(3, 5) = -11; taken(3, 10) = -11; taken(3, 13) = -11; taken(3, 14) = BAD");
    }

    private static void takenForRows() {
        for (int sort = 0; sort < 4; sort++) {
            Story story = story("a row of sort as - 10 (as 10 to 13): how many items").does("sheet(2, " + sort + ", 40); shelf(3, 1, 2); sheet(2, " + sort + ", 0); shelf(2, 1, 2)");
            for (int as = 0; as < 4; as++) {
                story.does("taken(3, 1" + as + ") = " + (as == sort ? 40 : -13) + "; taken(2, 1" + as + ") = " + (as == sort ? 0 : -13));
            }
            story.each(0, 5, "taken(3, #) = -13").does("taken(3, 9) = BAD; taken(3, 14) = BAD; taken(3, 6) = BAD");
        }
    }

    /** PERSON 1 of a KIND with A 4: n = 1, a = 4. */
    private static Story thing(String sentence, int kind) {
        return story(sentence).does("person(0, 0, 1); person(" + kind + ", 4, 1); shelf(0, 0, 1)");
    }

    private static void actsWrap() {
        String sentence = "ACTS of things, with a number x (ints that wrap)";
        // 10: x + n; 11: twice that; 13: ^ 4
        thing(sentence, 0).does("act(0, 0, MAX) = MIN; act(0, 0, -1) = 0; act(0, 0, MIN) = -2147483647; act(0, 1, 1073741823) = MIN; act(0, 1, MAX) = 0; act(0, 1, MIN) = 2; act(0, 3, 1073741823) = -2147483644; act(0, 3, MAX) = 4");
        // 20: less 4
        thing(sentence, 1).does("act(0, 1, 1073741823) = 2147483644; act(0, 1, MAX) = -4; act(0, 0, MAX) = MIN; act(0, 3, MAX) = -8");
        // 30: three times; 715827882 and 1 are 715827883, three times 2147483649
        thing(sentence, 2).does("act(0, 0, 715827882) = -2147483647; act(0, 0, 715827881) = 2147483646; act(0, 0, MAX) = MIN; act(0, 1, MAX) = 0; act(0, 3, MAX) = 4");
        // 51: less n, which brings it back
        thing(sentence, 3).does("act(0, 0, MAX) = MAX; act(0, 0, MIN) = MIN; act(0, 2, MAX) = -715827881; act(0, 2, 2147483646) = -715827881; act(0, 2, 2147483645) = 715827883; act(0, 1, MAX) = -6");
        // 40: 0 less the least is the least; 41: and works(1), which is -6
        thing(sentence, 4).does("act(0, 0, MAX) = MIN; act(0, 0, MIN) = 2147483645; act(0, 1, MAX) = -6; act(0, 3, MAX) = -2");
        // 60: twice (.. ^ 4); 61: and works(4), which is 5
        thing(sentence, 5).does("act(0, 3, 536870911) = -2147483640; act(0, 3, MAX) = 8; act(0, 2, MAX) = 715827887; act(0, 2, MIN) = -715827877");
        thing("super.shares(x + 2) ^ 1, even and odd", 3).does("act(0, 2, 4) = 3; act(0, 2, 7) = 2; act(0, 2, -11) = -4; act(0, 2, -2) = 1");
        thing("super.tells(x) + shares(n), where that is not 0", 2).does("mind(1, 2, 2); act(0, 3, 10) = 65; mind(1, 4, 2); act(0, 3, 10) = -69; mind(1, 4, 0); act(0, 3, 10) = -73");
        story("x by (a - n), the rest away").does("person(0, 0, 1); person(0, 0, 1); shelf(0, 0, 1); act(0, 2, MIN) = MIN; act(0, 2, MAX) = -2147483647; mind(1, 0, 4); act(0, 2, 2) = 0; act(0, 2, 3) = 1; act(0, 2, -2) = 0; act(0, 2, -3) = -1; act(0, 2, -5) = -1; act(0, 2, MIN) = -715827882; act(0, 2, 0) = 0");
        // 1 less 5 is -4, n = 5 and a = 1
        story("x by (a - n), below 0").reads("worker 1 work 1;".repeat(6), 6).does("shelf(0, 0, 5); act(0, 2, 7) = -1; act(0, 2, -7) = 1; act(0, 2, 3) = 0; act(0, 2, -3) = 0");
        // busy 1, A 9: 8 behind the line; MAX by 8 is 268435455, and works(9) 10
        story("shares and works").does("person(0, 0, 1); person(5, 9, 1); shelf(0, 0, 1); act(0, 2, MAX) = 268435465");
    }

    private static void partedByZero() {
        String sentence = "-15 if these are the same; that is all that act() answers then";
        for (int kind = 0; kind < 6; kind++) {
            Story story = thing(sentence, kind).does("mind(1, " + kind + ", 1); act(0, 2, 8) = -15; act(0, 2, 0) = -15; act(0, 2, MIN) = -15");
            boolean tellsShares = kind == 2 || kind == 4;
            CHECK.holds(sentence + ": tells of KIND " + kind, (story.answer("act(0, 3, 8)") == -15) == tellsShares);
            story.does("mind(1, " + kind + ", 2); act(0, 2, 8)").does("mind(1, " + kind + ", 0); act(0, 2, 8)");
        }
        thing(sentence, 5).does("mind(1, 5, 1); act(0, 2, 8) = -15; many(5) = 2").row("trace(#)", 61, 12, -3);
        thing(sentence, 3).does("mind(1, 3, 1); act(0, 2, 8) = -15; many(5) = 2").row("trace(#)", 50, 12, -3);
        thing("behind it all is as ever", 3).does("mind(1, 3, 1); act(0, 2, 8) = -15; act(0, 0, 8) = 8; many(5) = 2").row("trace(#)", 51, 10, -3);
        story("a and n are both 0").does("person(0, 0, 1); shelf(0, 0, 0); act(0, 2, 5) = -15; mind(0, 0, 1); act(0, 2, 5) = 5");
        story("an answer of -15 that is none").does("person(0, 0, 1); shelf(0, 0, 0); act(0, 0, -15) = -15; many(5) = 1; trace(0) = 10");
    }

    private static void noTrace() {
        String sentence = "0, and no TRACE then: no such SHELF, act, nothing, a row";
        for (String call : new String[] {"act(-1, 0, 5)", "act(4, 0, 5)", "act(MIN, 0, 5)", "act(MAX, 0, 5)", "act(0, -1, 5)", "act(0, 4, 5)", "act(0, MIN, 5)", "act(0, MAX, 5)", "act(1, 0, 5)", "act(2, 0, 5)"}) {
            thing(sentence, 4).does("sheet(0, 0, 3); shelf(2, 1, 0); act(0, 1, 5); many(5) = 8; " + call + " = 0; many(5) = 0; trace(0) = NONE; act(0, 0, 5) = -18; many(5) = 3");
        }
    }

    private static void theTrace() {
        thing("numbers of the bodies that ran in the latest act(), as they began", 4).does("act(0, 3, 5); many(5) = 11").row("trace(#)", 31, 13, 41, 11, 40, 30, 10, 40, 30, 10, 12, -3)
                .does("trace(-1) = NONE; trace(30) = NONE; trace(MAX) = NONE; trace(MIN) = NONE; act(0, 2, 5); many(5) = 1").row("trace(#)", 12, -3);
        thing("THE TRACE stays till the next act()", 0).does("act(0, 1, 5); days(3); task(); trace(0) = 11; trace(1) = 10; keep(); again(); many(5) = 2; shelf(0, 2, 0); trace(1) = 10");
    }

    private static void counts() {
        story("How many").does("many(-1) = BAD; many(6) = BAD; many(MIN) = BAD; many(MAX) = BAD");
        story("PEOPLE: 6 at most").reads("worker 9 work 8;".repeat(6), 6).does("many(0) = 6; many(2) = 0; days(1); many(2) = 6; many(0) = 6; task(); many(0) = 0; many(2) = 0");
        story("who have HANDED in").does("person(0, 0, 1); person(0, 0, 2); many(2) = 0; days(1); many(2) = 1; days(1); many(2) = 2; person(0, 0, 9); many(2) = 2");
        story("each on its own").reads("worker 9 work 8;worker 0 work 9;worker 0 work 9;date 4 part 9;date 5 part 9;", 3).feeds("ab").does("days(1); prove(1, 4); shelf(0, 0, 1); act(0, 3, 1)").row("many(#)", 3, 2, 1, 4, 2, 3, -1);
    }

    private static void kept() {
        story("NONE: nothing is kept").does("person(0, 0, 1); again() = NONE; many(0) = 1; keep() = 1; again() = 0");
        story("what was kept latest (which stays)").does("keep() = 1; person(0, 0, 9); days(4); keep() = 1; days(9); again() = 4; today() = 4; days(60); again() = 4; personOf(0, 3) = 4; many(0) = 1; again() = 4");
        story("nobody is kept as well").does("keep(); person(0, 0, 9); date(3, 3); set(0, 9); seed(7); days(60); again() = 0; many(0) = 0; many(1) = 0; lawOf(0) = 29; seed(1) = 1");
        story("TODAY 60 is kept").does("person(0, 0, 1); days(60); keep(); task(); today() = 0; again() = 60; personOf(0, 5) = 0");
        story("all of it is kept").reads("worker 0 work 9 ill 0,5;late 9 work 99;".concat("date 2 part 90;date 3 part 91;"), 2).does("set(1, 3); set(2, 4); set(3, 6); set(4, 7); seed(-5); days(4); keep(); task(); seed(3)")
                .does("again() = 4").row("lawOf(#)", 29, 3, 4, 6, 7).row("dateOf(#, 0)", 2, 3, -3).row("dateOf(#, 1)", 90, 91, -3).row("personOf(0, #)", 0, 0, 9, 3, 33, -9, 2, -9).row("personOf(1, #)", 1, 9, 99, 12, 0, -9, 2, -9).does("seed(1) = -5");
        story("All but THE TAPE, ROWS, SHEETS, SHELVES, THE TRACE").does("person(0, 3, 9); keep(); prove(0, 3); sheet(1, 0, 2); put(1, 0, 6); shelf(2, 0, 0); shelf(3, 1, 1); act(2, 1, 5)").feeds("due 8;").does("again() = 0; many(3) = 3; many(4) = 6; many(5) = 2; item(1, 0, 0) = 6; taken(2, 0) = 0; taken(3, 10) = 2; trace(0) = 11; task() = 0; lawOf(0) = 8");
        story("nor are they taken back").does("person(0, 3, 9); prove(0, 3); sheet(1, 0, 2); shelf(2, 0, 0); act(2, 1, 5); feed(32, 1); keep(); prove(0, 1); sheet(1, -1, 0); shelf(2, 2, 0); act(0, 0, 0); task(); again() = 0; many(3) = 0; many(4) = 0; many(5) = 0; item(1, 0, 0) = -11; taken(2, 0) = -11");
        story("what is kept is another's no more").does("person(0, 0, 9); date(5, 5); keep(); mind(0, 1, 1); ill(0, 7); strike(0); set(1, 1); again(); personOf(0, 0) = 0; personOf(0, 4) = 0; many(1) = 1; lawOf(1) = 8; mind(0, 2, 2); ill(0, 9); strike(0); set(1, 2); days(3); again() = 0; personOf(0, 0) = 0; personOf(0, 3) = 0; personOf(0, 4) = 0; many(1) = 1; lawOf(1) = 8");
    }
}
