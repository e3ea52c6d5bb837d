/** The document's part 1, sentence by sentence: DAYS, LAWS, DATES, PEOPLE, GOAL, HOURS, MISSED ones and MARKS at their edges. */
public final class EdgesOfDaysTest {
    private static final Check CHECK = new Check();

    public static void main(String[] args) {
        calls();
        today();
        laws();
        dates();
        people();
        goalByDay();
        goalByPart();
        toGo();
        handedOnesWorkNoMore();
        illDays();
        hoursOfWorkers();
        hoursOfLateOnes();
        hoursOfWaiters();
        hoursOfHalvers();
        hoursOfSteadyOnes();
        hoursOfBusyOnes();
        mostAtMost();
        noMoreThanIsLeft();
        handingIn();
        missedOnes();
        missedAsTheDayGoes();
        marksByDays();
        marksAreHeld();
        CHECK.end();
    }

    private static Story story(String sentence) {
        return new Story(CHECK, sentence);
    }

    private static void calls() {
        Story last = story("An object is used for at most 512 calls").does("person(0, 0, 60)").each(1, 509, "sheet(0, 3, 40) = 1");
        last.does("days(59) = 59; days(1) = 60");
        last = story("An object is used for at most 512 calls").does("person(0, 9, 99)").each(1, 510, "bestDate() = 6");
        last.does("sooner() = 12");
        // What is answered behind those is free, but nothing may fail.
        LastDays x = new LastDays();
        for (int i = 0; i < 2000; i++) {
            x.person(i % 6, i % 10, 99);
            x.feed(i, 8);
            x.sheet(i % 4, i % 4, 40);
            x.sooner();
            x.task();
            x.keep();
            x.lot(0);
        }
    }

    private static void today() {
        story("TODAY is 0 at first (60 in the end)")
                .does("today() = 0; days(59) = 59; today() = 59; days(1) = 60; today() = 60; days(1) = 60; days(60) = 60")
                .does("today() = 60; days(0) = 60");
        story("TODAY is 0 at first (60 in the end)").does("days(60) = 60; days(61) = BAD; today() = 60");
        story("n DAYS go, as far as there are such").does("days(0) = 0; days(58) = 58; days(3) = 60");
        story("n DAYS go, as far as there are such").does("person(0, 0, 99); days(55) = 55; days(60) = 60; personOf(0, 3) = 60");
    }

    private static void laws() {
        story("LAWS as at first").row("lawOf(#)", 29, 8, 5, 0, 5).does("lawOf(5) = BAD; lawOf(-1) = BAD");
        story("0 DUE (1 to 50; 29 at first)").does("set(0, 0) = BAD; set(0, 51) = BAD; set(0, 1) = 29; set(0, 50) = 1; lawOf(0) = 50");
        story("1 MOST (1 to 12 hours a day; 8)").does("set(1, 0) = BAD; set(1, 13) = BAD; set(1, 1) = 8; set(1, 12) = 1; lawOf(1) = 12");
        story("2 PENALTY (0 to 30; 5)").does("set(2, -1) = BAD; set(2, 31) = BAD; set(2, 0) = 5; set(2, 30) = 0; lawOf(2) = 30");
        story("3 BONUS (0 to 10; 0)").does("set(3, -1) = BAD; set(3, 11) = BAD; set(3, 10) = 0; set(3, 0) = 10; lawOf(3) = 0");
        story("4 MISSED (0 to 30; 5)").does("set(4, -1) = BAD; set(4, 31) = BAD; set(4, 0) = 5; set(4, 30) = 0; lawOf(4) = 30");
        story("a LAW becomes v, and no other").does("set(0, 11); set(1, 12); set(2, 13); set(3, 9); set(4, 15)")
                .row("lawOf(#)", 11, 12, 13, 9, 15);
    }

    private static void dates() {
        story("DATES, 3 at most").does("date(1, 1) = 1; date(2, 1) = 2; date(3, 1) = 3; date(4, 1) = FULL; many(1) = 3")
                .does("strike(2) = 2; date(4, 1) = 3; date(5, 1) = FULL");
        story("in the order of their DAYS").does("date(7, 70) = 1; date(2, 20) = 2; date(4, 40) = 3")
                .row("dateOf(#, 0)", 2, 4, 7, -3).row("dateOf(#, 1)", 20, 40, 70, -3);
        story("in the order of their DAYS").does("date(2, 20); date(4, 40); date(7, 70)").row("dateOf(#, 0)", 2, 4, 7);
        story("in the order of their DAYS").does("date(7, 70); date(4, 40); date(2, 20)").row("dateOf(#, 1)", 20, 40, 70);
        story("each below DUE").does("set(0, 1); date(0, 1) = 1; date(1, 1) = BAD; strike(0) = 0; set(0, 50); date(49, 1) = 1; date(50, 1) = BAD");
        story("no two alike").does("date(0, 1) = 1; date(0, 1) = STATE; date(0, 2) = STATE; date(28, 1) = 2; date(28, 9) = STATE")
                .does("many(1) = 2; dateOf(0, 1) = 1; dateOf(1, 1) = 1; strike(0) = 1; date(0, 2) = 2");
        story("PART (1 to 99 hundredths)").does("date(3, 0) = BAD; date(3, 100) = BAD; date(3, 1) = 1; date(4, 99) = 2")
                .row("dateOf(#, 1)", 1, 99);
        story("DATES that are not below DUE then go").does("date(4, 1); date(5, 2); date(6, 3); set(0, 7) = 29; many(1) = 3")
                .does("set(0, 6) = 7; many(1) = 2; dateOf(2, 0) = NONE; set(0, 4) = 6; many(1) = 0; set(0, 50) = 4; many(1) = 0; bestDate() = 0");
        story("another LAW lets all DATES stay").does("date(4, 1); set(1, 2); set(2, 2); set(3, 2); set(4, 2); many(1) = 1");
        story("The i-th DATE goes").does("date(1, 10); date(2, 20); date(3, 30); strike(0) = 2").row("dateOf(#, 1)", 20, 30, -3);
        story("The i-th DATE goes").does("date(1, 10); date(2, 20); date(3, 30); strike(1) = 2").row("dateOf(#, 1)", 10, 30, -3);
        story("The i-th DATE goes").does("date(1, 10); date(2, 20); date(3, 30); strike(2) = 2").row("dateOf(#, 1)", 10, 20, -3)
                .does("strike(2) = BAD; strike(1) = 1; strike(0) = 0; strike(0) = BAD; dateOf(0, 0) = NONE");
        story("a DATE behind which TODAY is").does("days(9); date(8, 5) = 1; date(9, 5) = 2; date(0, 5) = 3");
    }

    private static void people() {
        story("PEOPLE, 6 at most, numbered as they come").each(0, 5, "person(#, 0, 1) = #").does("person(0, 0, 1) = FULL; many(0) = 6")
                .row("personOf(#, 0)", 0, 1, 2, 3, 4, 5, -1);
        story("A (0 to 9), WORK (1 to 99 hours)").does("person(0, 0, 1) = 0; person(0, 9, 99) = 1; person(0, 10, 1) = BAD; person(0, -1, 1) = BAD")
                .does("person(0, 0, 0) = BAD; person(0, 0, 100) = BAD; many(0) = 2").row("personOf(0, #)", 0, 0, 1, 0, 0, -9, 0, -9, -1)
                .row("personOf(1, #)", 0, 9, 99, 0, 0, -9, 0, -9, -1);
        story("DONE (hours; 0 at first), also of one who comes later").does("person(0, 4, 9); date(1, 99); ill(0, 7); days(30)")
                .does("person(0, 4, 9) = 1").row("personOf(1, #)", 0, 4, 9, 0, 0, -9, 0, -9);
        story("ILL (a set of DAYS 0 to 29)").does("person(0, 0, 99); ill(0, 1073741823) = 30; personOf(0, 4) = 1073741823")
                .does("ill(0, 1073741824) = BAD; ill(0, -1) = BAD; personOf(0, 4) = 1073741823; ill(0, 0) = 0; personOf(0, 4) = 0")
                .does("ill(0, 536870912) = 1; ill(0, 1) = 1; personOf(0, 4) = 1");
        story("there is nobody").does("personOf(0, 0) = BAD; mind(0, 0, 0) = BAD; ill(0, 0) = BAD; goal(0, 0) = BAD; when(0) = BAD")
                .does("markOf(0) = BAD; enough(0, 9) = BAD; patience(0) = BAD; worst(0) = BAD; lot(0) = BAD; prove(0, 1) = BAD; judge(0) = BAD")
                .does("minds(0, 0, 0, 0) = BAD; shelf(0, 0, 0) = BAD");
    }

    private static void goal(Story story, int day, int left, int toGo, int hours) {
        story.row("goal(0, #)", day, left, toGo, hours);
    }

    private static void goalByDay() {
        // 1 hour a day: 18 and 19 hours are never done by DAYS 2 and 5.
        Story story = story("the first DATE that is not below TODAY").reads("worker 0 work 20;due 9;date 2 part 90;date 5 part 95;", 1);
        goal(story, 2, 18, 3, 1);
        story.does("days(2)");
        goal(story, 2, 16, 1, 1);
        story.does("days(1)");
        goal(story, 5, 16, 3, 1);
        story.does("days(2)");
        goal(story, 5, 14, 1, 1);
        story.does("days(1)");
        goal(story, 9, 14, 4, 1);
        story.does("strike(1) = 1; strike(0) = 0; date(6, 99) = 1");
        goal(story, 6, 13, 1, 1);
        story = story("if there is none DUE, and WORK").reads("worker 0 work 99;due 50;", 1);
        goal(story, 50, 99, 51, 1);
        story = story("DUE on DAY 1, the least").reads("worker 0 work 1;due 1;", 1);
        goal(story, 1, 1, 2, 1);
    }

    private static void goalByPart() {
        Story story = story("whose PART of WORK is more than DONE").reads("worker 0 work 10;date 8 part 30;", 1);
        goal(story, 8, 3, 9, 1);
        story.does("days(2)");
        goal(story, 8, 1, 7, 1);
        story.does("days(1)");
        goal(story, 29, 7, 27, 1);
        story = story("a met DATE is passed over for the next").reads("worker 0 work 10;date 8 part 30;date 9 part 31;date 10 part 40;", 1);
        story.does("days(3)");
        goal(story, 10, 1, 8, 1);
        goal(story("WORK times PART by 100, cut: 0.99 is 0").reads("worker 0 work 99;date 8 part 1;", 1), 29, 99, 30, 1);
        goal(story("WORK times PART by 100, cut: 1.98 is 1").reads("worker 0 work 99;date 8 part 2;", 1), 8, 1, 9, 1);
        goal(story("WORK times PART by 100, cut: 1").reads("worker 0 work 50;date 8 part 2;", 1), 8, 1, 9, 1);
        goal(story("WORK times PART by 100, cut: 0.99 is 0").reads("worker 0 work 1;date 8 part 99;", 1), 29, 1, 30, 1);
        goal(story("WORK times PART by 100, cut: 98.01 is 98").reads("worker 0 work 99;date 8 part 99;", 1), 8, 98, 9, 1);
    }

    private static void toGo() {
        Story story = story("TO GO: .. (1 at least)").reads("worker 0 work 99;due 2;", 1);
        story.does("goal(0, 2) = 3; days(1); goal(0, 2) = 2; days(1); goal(0, 2) = 1; days(1); goal(0, 2) = 1; days(1); goal(0, 2) = 1")
                .does("goal(0, 0) = 2; days(55); today() = 59; goal(0, 2) = 1; goal(0, 1) = 40; days(1); goal(0, 2) = STATE");
    }

    private static void handedOnesWorkNoMore() {
        story("STATE: HANDED in, or TODAY is 60").does("person(0, 0, 1); person(0, 0, 99); days(1)").each(0, 3, "goal(0, #) = STATE")
                .does("goal(1, 3) = 1; days(58); goal(1, 3) = 1; days(1)").each(0, 3, "goal(1, #) = STATE");
        story("HOURS that one works (if not HANDED in)").does("person(0, 4, 9); days(2); prove(0, 2) = 2").row("row(0, #)", 2, 0, 9).row("row(1, #)", 3, 0, 9)
                .does("days(58); personOf(0, 3) = 9; personOf(0, 5) = 1; mind(0, 4, 9) = 0; personOf(0, 5) = 1");
    }

    private static void illDays() {
        story("on an ILL DAY 0").reads("worker 0 work 99 ill 0,2,29;", 1).does("goal(0, 3) = 0; goal(0, 1) = 99; days(1); personOf(0, 3) = 0; goal(0, 3) = 1")
                .does("days(1); personOf(0, 3) = 1; goal(0, 3) = 0; days(1); personOf(0, 3) = 1; days(25); personOf(0, 3) = 26; today() = 28")
                .does("goal(0, 3) = 1; days(1); goal(0, 3) = 0; days(1); goal(0, 3) = 1");
        // DAYS 32 and 34 are no DAYS 0 and 2 once more.
        story("ILL is a set of DAYS 0 to 29 alone").reads("worker 0 work 99;", 1).does("ill(0, 1073741823); days(30) = 30; personOf(0, 3) = 0; goal(0, 3) = 1")
                .does("days(2); goal(0, 3) = 1; days(2); goal(0, 3) = 1; days(25); personOf(0, 3) = 29; goal(0, 3) = 1; days(1); personOf(0, 3) = 30");
        story("each KIND is ILL").reads("worker 9 work 99 ill 0;late 9 work 99 ill 0;halver 9 work 99 ill 0;waiter 9 work 99 ill 0;"
                + "steady 9 work 99 ill 0;busy 7 work 99 ill 0;due 1;", 6).each(0, 5, "goal(#, 3) = 0");
    }

    private static void hours(String sentence, String text, int hours) {
        story(sentence).feeds(text).does("task(); goal(0, 3) = " + hours);
    }

    private static void hoursOfWorkers() {
        String sentence = "worker: A, and 1";
        hours(sentence, "worker 0 work 99;most 12;", 1);
        hours(sentence, "worker 9 work 99;most 12;", 10);
        hours(sentence, "worker 7 work 99;", 8);
        hours(sentence, "worker 0 work 99;due 1;most 12;", 1);
    }

    private static void hoursOfLateOnes() {
        String sentence = "late: MOST, if LEFT and A are more than MOST times (TO GO less 1), else 0";
        // On DAY 0 by DUE 4 there are 5 to go: 4 times 8 is 32.
        hours(sentence, "late 0 work 32;due 4;", 0);
        hours(sentence, "late 0 work 33;due 4;", 8);
        hours(sentence, "late 9 work 23;due 4;", 0);
        hours(sentence, "late 9 work 24;due 4;", 8);
        hours(sentence, "late 0 work 1;due 1;most 1;", 0);
        hours(sentence, "late 1 work 1;due 1;most 1;", 1);
        // 30 hundredths of 80 are 24, by DAY 3: 3 times 8.
        hours(sentence, "late 0 work 80;due 50;date 3 part 30;", 0);
        hours(sentence, "late 1 work 80;due 50;date 3 part 30;", 8);
        story(sentence).reads("late 0 work 9;due 2;", 1).does("goal(0, 3) = 0; days(1); goal(0, 3) = 8; days(1); goal(0, 2) = 1; goal(0, 3) = 1")
                .does("mind(0, 1, 9); goal(0, 3) = 1; days(1); personOf(0, 5) = 2");
        story("late: behind DUE always MOST").reads("late 0 work 99 ill 0,1,2,3;due 2;", 1).does("days(4); goal(0, 3) = 8; days(1); goal(0, 3) = 8");
    }

    private static void hoursOfWaiters() {
        String sentence = "waiter: MOST, if LEFT is more than MOST times (TO GO less 1), else 0";
        hours(sentence, "waiter 9 work 32;due 4;", 0);
        hours(sentence, "waiter 0 work 33;due 4;", 8);
        hours(sentence, "waiter 9 work 1;due 1;most 1;", 0);
        hours(sentence, "waiter 9 work 2;due 1;most 1;", 1);
        hours(sentence, "waiter 9 work 80;due 50;date 3 part 30;", 0);
        hours(sentence, "waiter 9 work 80;due 50;date 3 part 32;", 8);
        story(sentence).reads("waiter 9 work 8;due 2;", 1).does("days(2); personOf(0, 3) = 0; goal(0, 3) = 8; ill(0, 4); days(1); goal(0, 3) = 8");
    }

    private static void hoursOfHalvers() {
        String sentence = "halver: 2 times LEFT by (TO GO and 1), and 1 (cut)";
        // TO GO is 5: by 6.
        hours(sentence, "halver 9 work 2;due 4;", 1);
        hours(sentence, "halver 9 work 3;due 4;", 2);
        hours(sentence, "halver 9 work 5;due 4;", 2);
        hours(sentence, "halver 9 work 6;due 4;", 3);
        hours(sentence, "halver 0 work 20;due 4;", 7);
        hours(sentence, "halver 0 work 23;due 4;", 8);
        // 50 of 50 hundredths are 25, by DAY 9: 50 by 11, and 1.
        hours(sentence, "halver 0 work 50;due 20;date 9 part 50;", 5);
        story(sentence).reads("halver 0 work 99;due 50;most 12;", 1).does("goal(0, 3) = 4; days(1); goal(0, 1) = 95; goal(0, 3) = 4");
        story("halver: on DUE and behind it all that is LEFT, and 1").reads("halver 0 work 9 ill 0,1,2;due 1;most 12;", 1)
                .does("days(1); goal(0, 3) = 0; days(2); goal(0, 3) = 9");
    }

    private static void hoursOfSteadyOnes() {
        String sentence = "steady: LEFT by TO GO, upwards";
        hours(sentence, "steady 9 work 20;due 4;", 4);
        hours(sentence, "steady 9 work 21;due 4;", 5);
        hours(sentence, "steady 9 work 24;due 4;", 5);
        hours(sentence, "steady 9 work 25;due 4;", 5);
        hours(sentence, "steady 9 work 26;due 4;", 6);
        hours(sentence, "steady 9 work 1;due 50;", 1);
        hours(sentence, "steady 0 work 51;due 50;", 1);
        hours(sentence, "steady 0 work 52;due 50;", 2);
        hours(sentence, "steady 0 work 40;due 50;date 9 part 50;", 2);
        story(sentence).reads("steady 0 work 9 ill 0,1,2;due 1;", 1).does("days(1); goal(0, 1) = 9; days(2); goal(0, 3) = 8");
    }

    private static void hoursOfBusyOnes() {
        String sentence = "busy: as a worker, but 0 if (TODAY times 7, and A) leaves 0 by 3";
        hours(sentence, "busy 0 work 99;most 12;", 0);
        hours(sentence, "busy 1 work 99;most 12;", 2);
        hours(sentence, "busy 2 work 99;most 12;", 3);
        hours(sentence, "busy 3 work 99;most 12;", 0);
        hours(sentence, "busy 8 work 99;most 12;", 9);
        hours(sentence, "busy 9 work 99;most 12;", 0);
        // 7 times 1, and 8: 15. 7 times 59, and 1: 414, which leaves 0; and 2: 1.
        story(sentence).reads("busy 8 work 99;", 1).does("days(1); goal(0, 3) = 0; mind(0, 5, 9); goal(0, 3) = 8");
        story(sentence).does("days(59); person(5, 1, 99); person(5, 2, 99); person(5, 0, 99); goal(0, 3) = 0; goal(1, 3) = 3; goal(2, 3) = 1");
    }

    private static void mostAtMost() {
        String sentence = "All of these MOST at most";
        for (String kind : new String[] {"worker 9", "late 9", "halver 9", "waiter 9", "steady 9", "busy 8"}) {
            hours(sentence, kind + " work 99;due 1;most 1;", 1);
            hours(sentence, kind + " work 99;due 1;", 8);
        }
        hours(sentence, "late 0 work 99;due 1;most 12;", 12);
        hours(sentence, "waiter 0 work 99;due 1;most 12;", 12);
        hours(sentence, "halver 0 work 99;due 1;most 12;", 12);
        hours(sentence, "steady 0 work 99;due 1;most 12;", 12);
        hours(sentence, "worker 9 work 99;most 11;", 10);
        hours(sentence, "worker 9 work 99;most 9;", 9);
        hours(sentence, "busy 8 work 99;most 9;", 9);
        hours(sentence, "busy 8 work 99;", 8);
    }

    private static void noMoreThanIsLeft() {
        String sentence = "and no more than WORK less DONE";
        for (String kind : new String[] {"worker 9", "late 9", "halver 9", "waiter 9", "steady 9", "busy 9"}) {
            story(sentence).feeds(kind + " work 1 ill 0;due 1;most 12;").does("task() = 1; days(1); goal(0, 3) = 1; days(1); personOf(0, 3) = 1; personOf(0, 5) = 1");
        }
        story(sentence).reads("worker 4 work 7;", 1).does("goal(0, 3) = 5; days(1); goal(0, 3) = 2; days(1); personOf(0, 3) = 7");
        // The DATE asks for 1 hour, of which there is no more than WORK less DONE, not no more than LEFT.
        story(sentence).reads("late 0 work 10;date 0 part 10;", 1).does("goal(0, 1) = 1; goal(0, 3) = 8");
        story(sentence).reads("late 0 work 4;date 0 part 25;", 1).does("goal(0, 1) = 1; goal(0, 3) = 4");
    }

    private static void handingIn() {
        String sentence = "who has done all WORK has HANDED in on that DAY";
        story(sentence).reads("worker 4 work 10;worker 4 work 11;", 2).does("days(1); personOf(0, 3) = 5; personOf(0, 5) = -9; many(2) = 0")
                .does("days(1); personOf(0, 3) = 10; personOf(0, 5) = 1; personOf(1, 5) = -9; many(2) = 1; days(1); personOf(1, 5) = 2; many(2) = 2");
        story(sentence).does("person(0, 0, 1); person(0, 0, 60); person(0, 0, 61); days(1); personOf(0, 5) = 0; days(58); personOf(1, 5) = -9")
                .does("days(1); personOf(1, 5) = 59; personOf(2, 5) = -9; personOf(2, 3) = 60; many(2) = 2");
        story("HANDED in on DAY 0, which is not 'not yet'").does("person(0, 0, 1); days(60); personOf(0, 5) = 0; personOf(0, 7) = 100; many(2) = 1");
    }

    private static void missedOnes() {
        String sentence = "DATES .. behind which less than their PART was DONE";
        story(sentence).reads("worker 0 work 10;date 4 part 50;", 1).does("days(5); personOf(0, 6) = 0");
        story(sentence).reads("worker 0 work 10;date 4 part 59;", 1).does("days(5); personOf(0, 6) = 0");
        story(sentence).reads("worker 0 work 10;date 4 part 60;", 1).does("days(5); personOf(0, 6) = 1");
        story(sentence).reads("worker 0 work 1 ill 0;date 0 part 99;", 1).does("days(1); personOf(0, 6) = 0");
        story(sentence).reads("worker 0 work 2 ill 0;date 0 part 49;", 1).does("days(1); personOf(0, 6) = 0");
        story(sentence).reads("worker 0 work 2 ill 0;date 0 part 50;", 1).does("days(1); personOf(0, 6) = 1");
        story("three MISSED ones").reads("worker 0 work 99;worker 6 work 99;date 0 part 5;date 1 part 10;date 2 part 15;", 2)
                .does("days(1); personOf(0, 6) = 1; days(1); personOf(0, 6) = 2; days(1); personOf(0, 6) = 3; personOf(1, 6) = 0; days(57); personOf(0, 6) = 3");
        story("one who has HANDED in misses none").reads("worker 9 work 8;date 0 part 99;date 1 part 99;", 1).does("days(9); personOf(0, 6) = 0; personOf(0, 5) = 0");
    }

    private static void missedAsTheDayGoes() {
        String sentence = "counted as their DAY goes";
        story(sentence).reads("worker 0 work 99;date 4 part 50;", 1).does("days(4); personOf(0, 6) = 0; days(1); personOf(0, 6) = 1; days(1); personOf(0, 6) = 1");
        story("a DATE on the last DAY of all that may be").reads("worker 0 work 99;due 50;date 49 part 99;", 1)
                .does("days(49); personOf(0, 6) = 0; days(1); personOf(0, 6) = 1");
        story("a DATE that was struck ahead of its DAY").reads("worker 0 work 99;date 4 part 50;", 1).does("days(4); strike(0); days(9); personOf(0, 6) = 0");
        story("a DATE that was struck behind its DAY").reads("worker 0 work 99;date 4 part 50;", 1).does("days(5); strike(0); days(9); personOf(0, 6) = 1");
        story("a DATE that is told as its DAY is over").reads("worker 0 work 99;", 1).does("days(5); date(4, 50) = 1; days(9); personOf(0, 6) = 0");
        story("a DATE that is told on its DAY").reads("worker 0 work 99;", 1).does("days(5); date(5, 50) = 1; personOf(0, 6) = 0; days(9); personOf(0, 6) = 1");
        story("one who comes on the DAY, and one who comes behind it").reads("date 4 part 50;", 0)
                .does("days(4); person(0, 0, 99); days(1); person(0, 0, 99); days(9); personOf(0, 6) = 1; personOf(1, 6) = 0");
    }

    private static void marksByDays() {
        // HANDED in on DAY 9.
        Story story = story("100 less PENALTY for each DAY behind DUE, or more by BONUS for each DAY ahead of it");
        story.reads("worker 0 work 10;due 9;", 1).does("personOf(0, 7) = -9; days(9); personOf(0, 7) = -9; days(1); personOf(0, 7) = 100; set(3, 1)")
                .does("personOf(0, 7) = 100; set(0, 8); personOf(0, 7) = 95; set(0, 7); personOf(0, 7) = 90; set(0, 10); personOf(0, 7) = 101")
                .does("set(0, 11); personOf(0, 7) = 102; set(2, 30); personOf(0, 7) = 102; set(3, 0); personOf(0, 7) = 100; set(0, 9)")
                .does("personOf(0, 7) = 100; set(0, 8); personOf(0, 7) = 70; set(2, 0); personOf(0, 7) = 100");
    }

    private static void marksAreHeld() {
        Story story = story("0 at least, 120 at most").reads("worker 0 work 10;", 1).does("days(10); set(0, 5); set(2, 25); personOf(0, 7) = 0");
        story.does("set(2, 24); personOf(0, 7) = 4; set(2, 26); personOf(0, 7) = 0; set(0, 1); set(2, 30); personOf(0, 7) = 0")
                .does("set(0, 11); set(3, 10); personOf(0, 7) = 120; set(0, 12); personOf(0, 7) = 120; set(0, 50); personOf(0, 7) = 120")
                .does("set(0, 28); set(3, 1); personOf(0, 7) = 119; set(0, 29); personOf(0, 7) = 120; set(0, 30); personOf(0, 7) = 120");
        // Three MISSED ones, HANDED in on DAY 19.
        story = story("less MISSED (the LAW) for each MISSED one").reads("worker 0 work 20;date 0 part 10;date 1 part 15;date 2 part 20;due 19;", 1);
        story.does("days(20); personOf(0, 6) = 3; personOf(0, 7) = 85; set(4, 30); personOf(0, 7) = 10; set(0, 18); personOf(0, 7) = 5; set(0, 16)")
                .does("personOf(0, 7) = 0; set(4, 0); personOf(0, 7) = 85; set(0, 23); set(3, 10); personOf(0, 7) = 120; set(4, 5)")
                .does("personOf(0, 7) = 120; set(4, 7); personOf(0, 7) = 119; set(4, 30); personOf(0, 7) = 50");
        story("no MARK (-9) of one who has not HANDED in").reads("worker 0 work 99;", 1).does("personOf(0, 7) = -9; days(60); personOf(0, 7) = -9");
    }
}
