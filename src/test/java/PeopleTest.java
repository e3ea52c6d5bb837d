/** Promises 4 to 15: LAWS, DATES, PEOPLE, GOAL, and DAYS that go. */
public final class PeopleTest {
    private static final Check CHECK = new Check();

    public static void main(String[] args) {
        laws();
        dates();
        people();
        goals();
        hoursByKind();
        hoursAreHeld();
        daysGo();
        missedDates();
        marksOfThoseWhoHanded();
        CHECK.end();
    }

    private static void laws() {
        LastDays x = new LastDays();
        int[] first = {29, 8, 5, 0, 5};
        int[] least = {1, 1, 0, 0, 0};
        int[] most = {50, 12, 30, 10, 30};
        for (int law = 0; law < 5; law++) {
            CHECK.due("set below", LastDays.BAD, x.set(law, least[law] - 1));
            CHECK.due("set above", LastDays.BAD, x.set(law, most[law] + 1));
            CHECK.due("lawOf as it was", first[law], x.lawOf(law));
            CHECK.due("set least", first[law], x.set(law, least[law]));
            CHECK.due("set most", least[law], x.set(law, most[law]));
            CHECK.due("lawOf", most[law], x.lawOf(law));
        }
        CHECK.due("set(-1, 1)", LastDays.BAD, x.set(-1, 1));
        CHECK.due("set(5, 1)", LastDays.BAD, x.set(5, 1));
        CHECK.due("lawOf(-1)", LastDays.BAD, x.lawOf(-1));
        CHECK.due("lawOf(5)", LastDays.BAD, x.lawOf(5));
    }

    private static void dates() {
        LastDays x = new LastDays();
        CHECK.due("date(29, 5)", LastDays.BAD, x.date(29, 5));
        CHECK.due("date(-1, 5)", LastDays.BAD, x.date(-1, 5));
        CHECK.due("date(3, 0)", LastDays.BAD, x.date(3, 0));
        CHECK.due("date(3, 100)", LastDays.BAD, x.date(3, 100));
        CHECK.due("date(28, 99)", 1, x.date(28, 99));
        CHECK.due("date(0, 1)", 2, x.date(0, 1));
        CHECK.due("date(14, 50)", 3, x.date(14, 50));
        CHECK.due("date(14, 0)", LastDays.BAD, x.date(14, 0));
        CHECK.due("date(14, 51): STATE is named ahead of FULL", LastDays.STATE, x.date(14, 51));
        CHECK.due("date(15, 51)", LastDays.FULL, x.date(15, 51));
        int[][] sorted = {{0, 1}, {14, 50}, {28, 99}};
        for (int i = 0; i < 3; i++) {
            CHECK.due("dateOf(" + i + ", 0)", sorted[i][0], x.dateOf(i, 0));
            CHECK.due("dateOf(" + i + ", 1)", sorted[i][1], x.dateOf(i, 1));
        }
        CHECK.due("dateOf(0, 2)", LastDays.BAD, x.dateOf(0, 2));
        CHECK.due("dateOf(0, -1)", LastDays.BAD, x.dateOf(0, -1));
        CHECK.due("dateOf(9, 2)", LastDays.BAD, x.dateOf(9, 2));
        CHECK.due("dateOf(3, 0)", LastDays.NONE, x.dateOf(3, 0));
        CHECK.due("strike(3)", LastDays.BAD, x.strike(3));
        CHECK.due("strike(-1)", LastDays.BAD, x.strike(-1));
        CHECK.due("strike(1)", 2, x.strike(1));
        CHECK.due("dateOf(1, 0)", 28, x.dateOf(1, 0));
        CHECK.due("dateOf(1, 1)", 99, x.dateOf(1, 1));
        CHECK.due("set(0, 29)", 29, x.set(0, 29));
        CHECK.due("many(1)", 2, x.many(1));
        CHECK.due("set(0, 28)", 29, x.set(0, 28));
        CHECK.due("a DATE on DUE goes", 1, x.many(1));
        CHECK.due("set(0, 50)", 28, x.set(0, 50));
        CHECK.due("it stays gone", 1, x.many(1));
        x.days(20);
        CHECK.due("a DATE that is over may be told", 2, x.date(5, 5));
        CHECK.due("strike(0)", 1, x.strike(0));
        CHECK.due("dateOf(0, 0)", 5, x.dateOf(0, 0));
        CHECK.due("set(0, 5)", 50, x.set(0, 5));
        CHECK.due("the only DATE goes", 0, x.many(1));
        CHECK.due("strike(0)", LastDays.BAD, x.strike(0));
    }

    private static void people() {
        LastDays x = new LastDays();
        CHECK.due("person(-1, 0, 1)", LastDays.BAD, x.person(-1, 0, 1));
        CHECK.due("person(6, 0, 1)", LastDays.BAD, x.person(6, 0, 1));
        CHECK.due("person(0, -1, 1)", LastDays.BAD, x.person(0, -1, 1));
        CHECK.due("person(0, 10, 1)", LastDays.BAD, x.person(0, 10, 1));
        CHECK.due("person(0, 0, 0)", LastDays.BAD, x.person(0, 0, 0));
        CHECK.due("person(0, 0, 100)", LastDays.BAD, x.person(0, 0, 100));
        for (int i = 0; i < 6; i++) {
            CHECK.due("person", i, x.person(i, 9 - i, 99 - i));
        }
        CHECK.due("a seventh", LastDays.FULL, x.person(0, 0, 1));
        CHECK.due("a bad seventh", LastDays.BAD, x.person(6, 0, 1));
        int[] third = {3, 6, 96, 0, 0, -9, 0, -9};
        for (int what = 0; what < 8; what++) {
            CHECK.due("personOf(3, " + what + ")", third[what], x.personOf(3, what));
        }
        CHECK.due("personOf(3, 8)", LastDays.BAD, x.personOf(3, 8));
        CHECK.due("personOf(3, -1)", LastDays.BAD, x.personOf(3, -1));
        CHECK.due("personOf(6, 0)", LastDays.BAD, x.personOf(6, 0));
        CHECK.due("personOf(-1, 0)", LastDays.BAD, x.personOf(-1, 0));
        CHECK.due("mind(3, 5, 0)", 3, x.mind(3, 5, 0));
        CHECK.due("personOf(3, 0)", 5, x.personOf(3, 0));
        CHECK.due("personOf(3, 1)", 0, x.personOf(3, 1));
        CHECK.due("mind(3, 6, 0)", LastDays.BAD, x.mind(3, 6, 0));
        CHECK.due("mind(3, -1, 0)", LastDays.BAD, x.mind(3, -1, 0));
        CHECK.due("mind(3, 0, 10)", LastDays.BAD, x.mind(3, 0, 10));
        CHECK.due("mind(3, 0, -1)", LastDays.BAD, x.mind(3, 0, -1));
        CHECK.due("mind(6, 0, 0)", LastDays.BAD, x.mind(6, 0, 0));
        CHECK.due("personOf(3, 0)", 5, x.personOf(3, 0));
        CHECK.due("ill(3, 1 << 29 | 5)", 3, x.ill(3, 1 << 29 | 5));
        CHECK.due("personOf(3, 4)", 1 << 29 | 5, x.personOf(3, 4));
        CHECK.due("ill(3, -1)", LastDays.BAD, x.ill(3, -1));
        CHECK.due("ill(3, 1 << 30)", LastDays.BAD, x.ill(3, 1 << 30));
        CHECK.due("ill(6, 0)", LastDays.BAD, x.ill(6, 0));
        CHECK.due("ill(3, 0)", 0, x.ill(3, 0));
        CHECK.due("personOf(3, 4)", 0, x.personOf(3, 4));
        CHECK.due("DAYS go for six", 60, x.days(60));
        CHECK.due("all but the busy one with A 0 have HANDED in", 5, x.many(2));
    }

    private static void goal(LastDays x, int person, int day, int left, int toGo, int hours) {
        int[] due = {day, left, toGo, hours};
        for (int what = 0; what < 4; what++) {
            CHECK.due("day " + x.today() + ": goal(" + person + ", " + what + ")", due[what], x.goal(person, what));
        }
    }

    private static void goals() {
        LastDays x = CHECK.told("worker 4 work 33;worker 0 work 1;date 2 part 10;date 4 part 50;due 5;");
        goal(x, 0, 2, 3, 3, 5);
        // Half of 1 hour is 0, cut: there is nothing to do for either DATE.
        goal(x, 1, 5, 1, 6, 1);
        CHECK.due("goal(0, 4)", LastDays.BAD, x.goal(0, 4));
        CHECK.due("goal(0, -1)", LastDays.BAD, x.goal(0, -1));
        CHECK.due("goal(2, 0)", LastDays.BAD, x.goal(2, 0));
        x.days(1);
        // 5 of 3 are done: the second DATE is next, 16 of 33.
        goal(x, 0, 4, 11, 4, 5);
        CHECK.due("HANDED in: goal(1, 0)", LastDays.STATE, x.goal(1, 0));
        CHECK.due("HANDED in: goal(1, 9)", LastDays.BAD, x.goal(1, 9));
        x.ill(0, 63);
        x.days(3);
        // On its own DAY a DATE still counts.
        goal(x, 0, 4, 11, 1, 0);
        x.days(1);
        goal(x, 0, 5, 28, 1, 0);
        x.days(3);
        // Behind DUE there is always 1 to go.
        goal(x, 0, 5, 18, 1, 5);
        x.ill(0, 1073741823);
        x.mind(0, 0, 0);
        x.days(43);
        CHECK.due("today()", 51, x.today());
        x.person(0, 0, 99);
        x.days(60);
        CHECK.due("TODAY is 60: goal(2, 0)", LastDays.STATE, x.goal(2, 0));
    }

    private static void hours(String text, int due) {
        LastDays x = CHECK.told(text);
        CHECK.due("goal(0, 3) of \"" + text + "\"", due, x.goal(0, 3));
    }

    private static void hoursByKind() {
        hours("worker 0 work 50;", 1);
        hours("worker 6 work 50;", 7);
        // DUE 4 at TODAY 0: TO GO is 5, so that 4 times 8 hours can be done from tomorrow on.
        hours("late 0 work 32;due 4;", 0);
        hours("late 0 work 33;due 4;", 8);
        hours("late 3 work 29;due 4;", 0);
        hours("late 3 work 30;due 4;", 8);
        hours("waiter 9 work 32;due 4;", 0);
        hours("waiter 9 work 33;due 4;", 8);
        hours("halver 9 work 23;due 4;", 8);
        hours("halver 9 work 20;due 4;", 7);
        hours("halver 9 work 1;due 4;", 1);
        hours("steady 9 work 20;due 4;", 4);
        hours("steady 9 work 21;due 4;", 5);
        hours("busy 0 work 20;", 0);
        hours("busy 1 work 20;", 2);
        hours("busy 2 work 20;", 3);
        hours("busy 3 work 20;", 0);
        LastDays x = CHECK.told("busy 1 work 90;");
        // 7 times TODAY, and 1: 1 8 15 22 29 36
        int[] done = {2, 4, 4, 6, 8, 8};
        for (int i = 0; i < done.length; i++) {
            x.days(1);
            CHECK.due("busy: DONE", done[i], x.personOf(0, 3));
        }
    }

    private static void hoursAreHeld() {
        hours("worker 9 work 50;", 8);
        hours("worker 9 work 50;most 12;", 10);
        hours("worker 9 work 3;", 3);
        hours("late 0 work 3;due 1;date 0 part 99;", 3);
        hours("halver 0 work 99;due 1;", 8);
        hours("steady 0 work 99;due 1;", 8);
        hours("worker 9 work 50 ill 0;", 0);
        hours("worker 9 work 50 ill 1;", 8);
        LastDays x = CHECK.told("worker 0 work 99;");
        x.ill(0, 1073741823);
        CHECK.due("days(31)", 31, x.days(31));
        CHECK.due("ILL on all DAYS to 29, not on 30", 1, x.personOf(0, 3));
    }

    private static void daysGo() {
        LastDays x = CHECK.told("worker 2 work 7;worker 0 work 99;");
        CHECK.due("days(-1)", LastDays.BAD, x.days(-1));
        CHECK.due("days(61)", LastDays.BAD, x.days(61));
        CHECK.due("days(0)", 0, x.days(0));
        CHECK.due("days(2)", 2, x.days(2));
        CHECK.due("personOf(0, 3)", 6, x.personOf(0, 3));
        CHECK.due("personOf(0, 5)", -9, x.personOf(0, 5));
        CHECK.due("personOf(0, 7)", -9, x.personOf(0, 7));
        CHECK.due("many(2)", 0, x.many(2));
        CHECK.due("days(1)", 3, x.days(1));
        CHECK.due("personOf(0, 3)", 7, x.personOf(0, 3));
        CHECK.due("personOf(0, 5)", 2, x.personOf(0, 5));
        CHECK.due("personOf(0, 7)", 100, x.personOf(0, 7));
        CHECK.due("many(2)", 1, x.many(2));
        CHECK.due("today()", 3, x.today());
        CHECK.due("days(60)", 60, x.days(60));
        CHECK.due("personOf(0, 5)", 2, x.personOf(0, 5));
        CHECK.due("personOf(1, 3)", 60, x.personOf(1, 3));
        CHECK.due("personOf(1, 5)", -9, x.personOf(1, 5));
        CHECK.due("days(60)", 60, x.days(60));
        CHECK.due("days(61)", LastDays.BAD, x.days(61));
        CHECK.due("one who comes on DAY 60", 2, x.person(0, 9, 1));
        CHECK.due("days(1)", 60, x.days(1));
        CHECK.due("personOf(2, 3)", 0, x.personOf(2, 3));
    }

    private static void missedDates() {
        // 10 of 20 by DAY 1, 15 by DAY 3: 2 hours a day miss both, with 5 a day none is missed.
        LastDays x = CHECK.told("worker 1 work 20;worker 4 work 20;date 1 part 50;date 3 part 75;");
        x.days(1);
        CHECK.due("personOf(0, 6)", 0, x.personOf(0, 6));
        x.days(1);
        CHECK.due("personOf(0, 6)", 1, x.personOf(0, 6));
        CHECK.due("personOf(1, 6)", 0, x.personOf(1, 6));
        x.strike(0);
        CHECK.due("a struck DATE was missed all the same", 1, x.personOf(0, 6));
        x.days(2);
        CHECK.due("personOf(0, 6)", 2, x.personOf(0, 6));
        CHECK.due("personOf(1, 6)", 0, x.personOf(1, 6));
        x.date(1, 99);
        x.person(0, 0, 99);
        x.days(9);
        CHECK.due("a DATE that was over is not missed", 2, x.personOf(0, 6));
        CHECK.due("nor by one who comes later", 0, x.personOf(2, 6));
        CHECK.due("100 less 2 times 5", 90, x.personOf(0, 7));
    }

    private static void marksOfThoseWhoHanded() {
        LastDays x = CHECK.told("worker 0 work 20;worker 3 work 20;");
        x.days(20);
        // HANDED in on DAYS 19 and 4.
        CHECK.due("on time", 100, x.personOf(0, 7));
        x.set(0, 19);
        CHECK.due("on DUE", 100, x.personOf(0, 7));
        x.set(0, 17);
        CHECK.due("2 DAYS late", 90, x.personOf(0, 7));
        x.set(2, 30);
        CHECK.due("PENALTY 30", 40, x.personOf(0, 7));
        x.set(0, 10);
        CHECK.due("0 at least", 0, x.personOf(0, 7));
        CHECK.due("no BONUS", 100, x.personOf(1, 7));
        x.set(3, 3);
        CHECK.due("6 DAYS early", 118, x.personOf(1, 7));
        x.set(3, 4);
        CHECK.due("120 at most", 120, x.personOf(1, 7));
        x.set(0, 5);
        CHECK.due("1 DAY early", 104, x.personOf(1, 7));
        x.set(0, 4);
        CHECK.due("on DUE: neither", 100, x.personOf(1, 7));
        x.set(2, 7);
        x.set(0, 3);
        CHECK.due("1 DAY late", 93, x.personOf(1, 7));
        x = CHECK.told("worker 0 work 9;date 2 part 99;due 12;");
        x.set(3, 10);
        x.set(4, 30);
        x.days(9);
        // HANDED in on DAY 8, 4 DAYS early, one DATE missed: 100 and 40 less 30.
        CHECK.due("a MISSED one is taken off ahead of the bound", 110, x.personOf(0, 7));
        x.set(4, 5);
        CHECK.due("100 and 40 less 5", 120, x.personOf(0, 7));
    }
}
