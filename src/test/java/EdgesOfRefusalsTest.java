/**
 * Terms: "Answers below 0, where not told otherwise, are refusals; such a call changes nothing (but that THE TAPE is
 * used up by task()); of several the first named". Each number of each call is tried at both ends of what is told of
 * it, one beyond them, and at the ends of int; and behind each refused call all is as on a twin that had no such call.
 */
public final class EdgesOfRefusalsTest {
    private static final Check CHECK = new Check();
    private static final String TEXT = "worker 2 work 40 ill 3;late 5 work 60;due 14;date 5 part 30;date 9 part 70;";

    public static void main(String[] args) {
        numbersOfTheTask();
        numbersOfWhatWillBe();
        numbersOfRows();
        numbersOfTheHost();
        numbersOfActs();
        refusedByTheState();
        faultsOfTheText();
        ofSeveralTheFirstNamed();
        callsThatOnlyAnswer();
        CHECK.end();
    }

    /** 2 PEOPLE, 2 DATES, DUE 14, TODAY 2, 3 ROWS, SHEETS of 3 bytes, 1 long and 0 shorts, the fourth missing. */
    private static Story setUp(String name) {
        return new Story(CHECK, name).reads(TEXT, 2)
                .does("set(3, 2); set(4, 7); days(1); seed(99); keep(); days(1); mind(1, 2, 6); prove(0, 3)")
                .does("sheet(0, 0, 3); put(0, 1, 5); sheet(1, 3, 1); put(1, 0, -7); sheet(2, 1, 0)")
                .does("shelf(0, 0, 1); shelf(1, 1, 0); act(0, 3, 4)")
                .feeds("due 9;busy 4 work 7;");
    }

    private static void changesNothing(String before, String call, long answer) {
        Story story = setUp("a refused call changes nothing");
        Story twin = setUp("the twin");
        story.does(before);
        twin.does(before);
        story.due(call, answer, story.answer(call));
        same(call, story, twin, true);
    }

    private static void same(String call, Story story, Story twin, boolean withTrace) {
        String got = story.all(withTrace);
        String want = twin.all(withTrace);
        CHECK.holds(call + " changes nothing; was\n" + want + "is\n" + got, got.equals(want));
    }

    /** Of the number '#' what is told is from least to most; with one below or above it the call is refused. */
    private static void number(String call, int least, int most, int below, int above) {
        for (int v : new int[] {Integer.MIN_VALUE, Integer.MIN_VALUE + 1, least - 1}) {
            changesNothing("", call.replace("#", String.valueOf(v)), below);
        }
        for (int v : new int[] {most + 1, Integer.MAX_VALUE - 1, Integer.MAX_VALUE}) {
            changesNothing("", call.replace("#", String.valueOf(v)), above);
        }
        for (int v : new int[] {least, most}) {
            String one = call.replace("#", String.valueOf(v));
            int got = setUp("a number as told").answer(one);
            CHECK.holds(one + " answered " + got + " and is not refused", got != below && got != above);
        }
    }

    private static void bad(String call, int least, int most) {
        number(call, least, most, LastDays.BAD, LastDays.BAD);
    }

    private static void numbersOfTheTask() {
        bad("feed(0, #)", 1, 8);
        bad("set(#, 1)", 0, 4);
        bad("set(0, #)", 1, 50);
        bad("set(1, #)", 1, 12);
        bad("set(2, #)", 0, 30);
        bad("set(3, #)", 0, 10);
        bad("set(4, #)", 0, 30);
        bad("lawOf(#)", 0, 4);
        bad("date(#, 50)", 0, 13);
        bad("date(7, #)", 1, 99);
        number("dateOf(#, 0)", 0, 1, LastDays.NONE, LastDays.NONE);
        bad("dateOf(0, #)", 0, 1);
        bad("strike(#)", 0, 1);
        bad("person(#, 0, 1)", 0, 5);
        bad("person(0, #, 1)", 0, 9);
        bad("person(0, 0, #)", 1, 99);
        bad("personOf(#, 0)", 0, 1);
        bad("personOf(0, #)", 0, 7);
        bad("mind(#, 0, 0)", 0, 1);
        bad("mind(0, #, 0)", 0, 5);
        bad("mind(0, 0, #)", 0, 9);
        bad("ill(#, 5)", 0, 1);
        bad("ill(0, #)", 0, 1073741823);
        bad("goal(#, 0)", 0, 1);
        bad("goal(0, #)", 0, 3);
        bad("days(#)", 0, 60);
    }

    private static void numbersOfWhatWillBe() {
        bad("heap(#)", 0, 59);
        bad("when(#)", 0, 1);
        bad("markOf(#)", 0, 1);
        bad("enough(#, 119)", 0, 1);
        bad("enough(0, #)", 1, 120);
        bad("patience(#)", 0, 1);
        bad("worst(#)", 0, 1);
        bad("lot(#)", 0, 1);
    }

    private static void numbersOfRows() {
        bad("prove(#, 5)", 0, 1);
        bad("prove(0, #)", 1, 20);
        number("row(#, 0)", 0, 2, -9, -9);
        number("row(0, #)", 0, 2, -9, -9);
        number("alterRow(#, 0, 77)", 0, 2, -9, -9);
        number("alterRow(0, #, 77)", 0, 2, -9, -9);
        bad("judge(#)", 0, 1);
        bad("minds(#, 0, 0, 0)", 0, 3);
        number("minds(0, #, 0, 2)", 0, 1, -12, -12);
        number("minds(0, #, 0, 0)", 0, 3, -12, -12);
        bad("minds(0, 0, #, 0)", 0, 1);
        bad("minds(0, 0, #, 1)", 0, 1);
        bad("minds(0, 0, 0, #)", 0, 2);
        bad("minds(0, 0, 1, #)", 0, 1);
    }

    private static void numbersOfTheHost() {
        bad("sheet(#, 2, 9)", 0, 3);
        bad("sheet(0, #, 9)", -1, 3);
        bad("sheet(#, -1, 9)", 0, 3);
        for (int sort = 0; sort < 4; sort++) {
            number("sheet(0, " + sort + ", #)", 0, 40, -14, LastDays.BAD);
        }
        bad("put(#, 0, 9)", 0, 3);
        number("put(0, #, 9)", 0, 2, -12, -12);
        number("put(1, #, 9)", 0, 0, -12, -12);
        bad("item(#, 0, 0)", 0, 3);
        bad("item(0, #, 0)", 0, 3);
        number("item(0, 0, #)", 0, 2, -12, -12);
        number("item(1, 3, #)", 0, 0, -12, -12);
        bad("shelf(#, 2, 0)", 0, 3);
        bad("shelf(#, 0, 0)", 0, 3);
        bad("shelf(#, 1, 0)", 0, 3);
        bad("shelf(2, #, 0)", 0, 2);
        bad("shelf(0, 0, #)", 0, 1);
        bad("shelf(0, 1, #)", 0, 3);
        bad("taken(#, 0)", 0, 3);
        bad("taken(#, 10)", 0, 3);
        bad("taken(0, #)", 0, 5);
        bad("taken(1, #)", 10, 13);
        number("trace(#)", 0, 5, LastDays.NONE, LastDays.NONE);
        bad("many(#)", 0, 5);
    }

    /** "0, and no TRACE then": but for that nothing changes. */
    private static void numbersOfActs() {
        int[] wrong = {Integer.MIN_VALUE, -1, 4, Integer.MAX_VALUE};
        for (int v : wrong) {
            noAct("act(" + v + ", 0, 5)");
            noAct("act(0, " + v + ", 5)");
        }
        noAct("act(3, 0, 5)");
        noAct("act(1, 0, 5)");
        for (int v = 0; v < 4; v++) {
            Story story = setUp("an act that is").does("sheet(3, 0, 1)");
            CHECK.holds("act(0, " + v + ", 5)", story.answer("act(0, " + v + ", 5)") != 0);
            CHECK.holds("bodies of it", story.answer("many(5)") > 0);
        }
    }

    private static void noAct(String call) {
        Story story = setUp("0, and no TRACE then").does("many(5) = 6").does(call + " = 0; many(5) = 0; trace(0) = NONE");
        Story twin = setUp("the twin");
        same(call, story, twin, false);
    }

    private static void refusedByTheState() {
        changesNothing("feed(0, 8); ".repeat(22) + "feed(0, 3)", "feed(32, 2)", LastDays.FULL);
        changesNothing("feed(0, 8); ".repeat(22) + "feed(0, 4)", "feed(32, 1)", LastDays.FULL);
        changesNothing("", "date(5, 31)", LastDays.STATE);
        changesNothing("date(7, 40)", "date(8, 40)", LastDays.FULL);
        changesNothing("person(0, 0, 1); ".repeat(4), "person(0, 0, 1)", LastDays.FULL);
        changesNothing("date(7, 40)", "bestDate()", LastDays.FULL);
        changesNothing("set(0, 2)", "bestDate()", LastDays.NONE);
        changesNothing("days(60)", "goal(0, 0)", LastDays.STATE);
        changesNothing("person(0, 0, 1); days(1)", "goal(2, 3)", LastDays.STATE);
        changesNothing("person(0, 0, 59)", "when(2)", LastDays.NONE);
        changesNothing("person(0, 0, 59)", "markOf(2)", LastDays.NONE);
        changesNothing("person(0, 0, 59)", "enough(2, 120)", LastDays.NONE);
        changesNothing("", "enough(0, 1)", LastDays.NONE);
        changesNothing("days(58); person(0, 0, 99)", "patience(2)", LastDays.NONE);
        changesNothing("ill(0, 1073741823)", "worst(0)", LastDays.NONE);
        changesNothing("", "put(3, 0, 1)", -11);
        changesNothing("", "item(3, 0, 0)", -11);
        changesNothing("", "minds(3, 0, 0, 1)", -11);
        changesNothing("", "taken(2, 0)", -11);
        changesNothing("", "minds(1, 0, 0, 1)", -13);
        changesNothing("", "item(0, 1, 0)", -13);
        changesNothing("", "taken(0, 1)", -13);
        changesNothing("", "taken(1, 11)", -13);
        changesNothing("", "minds(0, 2, 0, 2)", -12);
        Story anew = new Story(CHECK, "NONE: nothing is kept").does("person(0, 2, 9); days(2); again() = NONE");
        anew.does("many(0) = 1; today() = 2; personOf(0, 3) = 6; again() = NONE");
        Story parted = setUp("-15 changes nothing but THE TRACE").does("mind(1, 2, 1)");
        Story twin = setUp("the twin").does("mind(1, 2, 1)");
        parted.does("act(0, 2, 5) = -15");
        same("act(0, 2, 5)", parted, twin, false);
    }

    /** "(but that THE TAPE is used up by task())" */
    private static void faultsOfTheText() {
        for (String text : new String[] {"x", "due 5", "worker 1 work 1;late 3 work 4;date 3 part 3;due 7;most 3;penalty 3;,"}) {
            Story story = setUp("a FAULT changes nothing").does("task() = 1; again(); prove(1, 3)");
            Story twin = setUp("the twin").does("task() = 1; again(); prove(1, 3)");
            story.feeds(text);
            int answer = story.answer("task()");
            CHECK.holds("task() of \"" + text + "\" answered " + answer, answer <= -100);
            story.does("many(4) = 0; many(3) = 3");
            same("task() of \"" + text + "\"", story, twin, true);
        }
    }

    private static void ofSeveralTheFirstNamed() {
        changesNothing("feed(0, 8); ".repeat(22) + "feed(0, 4)", "feed(0, 9)", LastDays.BAD);
        changesNothing("feed(0, 8); ".repeat(22) + "feed(0, 4)", "feed(0, 0)", LastDays.BAD);
        changesNothing("date(7, 40)", "date(7, 0)", LastDays.BAD);
        changesNothing("date(7, 40)", "date(14, 50)", LastDays.BAD);
        changesNothing("date(7, 40)", "date(8, 100)", LastDays.BAD);
        changesNothing("date(7, 40)", "date(7, 40)", LastDays.STATE);
        changesNothing("", "dateOf(2, 2)", LastDays.BAD);
        changesNothing("", "dateOf(-1, -1)", LastDays.BAD);
        String six = "person(0, 0, 1); ".repeat(4);
        changesNothing(six, "person(6, 0, 1)", LastDays.BAD);
        changesNothing(six, "person(0, 10, 1)", LastDays.BAD);
        changesNothing(six, "person(0, 0, 0)", LastDays.BAD);
        changesNothing("days(60)", "goal(0, 4)", LastDays.BAD);
        changesNothing("days(60)", "goal(2, 0)", LastDays.BAD);
        changesNothing("date(7, 40); days(12)", "bestDate()", LastDays.NONE);
        changesNothing("person(0, 0, 59)", "enough(2, 0)", LastDays.BAD);
        changesNothing("person(0, 0, 59)", "enough(2, 121)", LastDays.BAD);
        changesNothing("", "minds(3, 0, 2, 0)", LastDays.BAD);
        changesNothing("", "minds(3, 0, 0, 3)", LastDays.BAD);
        changesNothing("", "minds(1, 0, 0, 3)", LastDays.BAD);
        changesNothing("", "minds(3, 0, 0, -1)", LastDays.BAD);
        changesNothing("", "minds(1, 0, 0, -1)", LastDays.BAD);
        changesNothing("", "minds(0, 9, 0, -1)", LastDays.BAD);
        changesNothing("", "minds(0, -1, 0, 7)", LastDays.BAD);
        changesNothing("", "minds(0, 9, 0, 3)", LastDays.BAD);
        changesNothing("", "minds(3, 9, 0, 1)", -11);
        changesNothing("", "minds(1, 9, 0, 1)", -13);
        changesNothing("", "sheet(4, 0, -1)", LastDays.BAD);
        changesNothing("", "sheet(0, 4, -1)", LastDays.BAD);
        changesNothing("", "sheet(0, -2, -1)", LastDays.BAD);
        changesNothing("", "put(4, 9, 1)", LastDays.BAD);
        changesNothing("", "put(3, 9, 1)", -11);
        changesNothing("", "item(3, 4, 0)", LastDays.BAD);
        changesNothing("", "item(0, -1, 9)", LastDays.BAD);
        changesNothing("", "item(3, 0, 9)", -11);
        changesNothing("", "item(0, 1, 9)", -13);
        changesNothing("", "taken(3, 6)", LastDays.BAD);
        changesNothing("", "taken(1, 14)", LastDays.BAD);
        changesNothing("", "taken(3, 9)", LastDays.BAD);
    }

    /** "A TRIAL: .. nothing changes", and what is only asked for changes nothing either. */
    private static void callsThatOnlyAnswer() {
        String[] calls = {"heap(13)", "when(0)", "markOf(1)", "late()", "marks()", "bestDate()", "enough(0, 119)",
            "patience(0)", "worst(1)", "sooner()", "judge(1)", "lawOf(0)", "dateOf(1, 1)", "personOf(1, 7)",
            "goal(1, 3)", "today()", "days(0)", "row(0, 1)", "item(0, 0, 1)", "taken(0, 2)", "trace(0)", "many(4)",
            "minds(0, 0, 0, 0)"};
        for (String call : calls) {
            Story story = setUp("calls that only answer");
            Story twin = setUp("the twin");
            story.answer(call);
            same(call, story, twin, true);
        }
    }
}
