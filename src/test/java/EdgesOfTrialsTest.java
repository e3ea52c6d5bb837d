/** The document's part 2 and promises 16 to 27, sentence by sentence: what is asked of a TRIAL, and LOT, at their edges. */
public final class EdgesOfTrialsTest {
    private static final Check CHECK = new Check();
    private static final String SIX = "worker 7 work 8;worker 7 work 8;worker 7 work 8;worker 7 work 8;worker 7 work 8;worker 7 work 8;";

    public static void main(String[] args) {
        tillDay60();
        heaps();
        late();
        marks();
        bestDateByDay();
        bestDateByPart();
        bestDateRefused();
        enough();
        enoughRefused();
        patience();
        worst();
        worstByNoMark();
        sooner();
        soonerAboveAllDates();
        lots();
        CHECK.end();
    }

    private static Story story(String sentence) {
        return new Story(CHECK, sentence);
    }

    private static void tillDay60() {
        String sentence = "A TRIAL: all go on till DAY 60";
        story(sentence).does("person(0, 0, 60); person(0, 0, 61); when(0) = 59; when(1) = NONE; markOf(0) = 0; markOf(1) = NONE; today() = 0");
        story(sentence).does("days(59); person(0, 7, 8); person(0, 7, 9); when(0) = 59; when(1) = NONE; personOf(0, 3) = 0");
        story(sentence).does("person(0, 0, 1); days(60); person(0, 0, 1); when(0) = 0; markOf(0) = 100; when(1) = NONE; markOf(1) = NONE; late() = 2; marks() = 100");
        story("as all is").does("person(0, 0, 40); when(0) = 39; days(10); when(0) = 39; ill(0, 2048); when(0) = 40; mind(0, 0, 1); when(0) = 25; set(0, 24); markOf(0) = 95");
    }

    private static void heaps() {
        String sentence = "HEAP of a DAY: how many have HANDED in on it in a TRIAL";
        story(sentence).does("heap(0) = 0; heap(59) = 0; heap(60) = BAD; heap(-1) = BAD");
        story(sentence).reads(SIX, 6).does("heap(0) = 6; heap(1) = 0; days(1); heap(0) = 6; days(59); heap(0) = 6; heap(59) = 0");
        story(sentence).does("person(0, 0, 60); person(0, 0, 59); person(0, 0, 99); heap(59) = 1; heap(58) = 1; heap(57) = 0; days(60); heap(59) = 1");
    }

    private static void late() {
        String sentence = "LATE: who would hand in behind DUE, or not at all, as a set";
        story(sentence).does("late() = 0");
        // HANDED in on DAYS 9, 10, never, 8.
        story(sentence).reads("worker 0 work 10;worker 0 work 11;worker 0 work 99;worker 0 work 9;due 9;", 4)
                .does("late() = 6; set(0, 10); late() = 4; set(0, 8); late() = 7; set(0, 7); late() = 15; days(60); late() = 15; set(0, 9); late() = 6");
        story(sentence).reads(SIX, 6).does("late() = 0; ill(5, 1073741823); late() = 32").each(0, 4, "ill(#, 1073741823)").does("late() = 63");
    }

    private static void marks() {
        String sentence = "MARKS: the sum of all MARKS of a TRIAL";
        story(sentence).does("marks() = 0");
        story(sentence).does("person(0, 0, 99); marks() = 0; person(0, 0, 1); marks() = 100; person(0, 0, 60); marks() = 100; set(2, 0); marks() = 200");
        story(sentence).reads(SIX, 6).does("marks() = 600; set(3, 10); marks() = 720; days(60); marks() = 720; set(0, 1); marks() = 660");
    }

    private static void bestDateByDay() {
        // All DAYS alike where MISSED is 0: the first, from TODAY on.
        story("BEST DATE: TODAY to DUE less 1; of several the first").reads("worker 0 work 10;due 9;", 1)
                .does("set(4, 0); bestDate() = 0; days(1); bestDate() = 1; days(7); bestDate() = 8; days(1); bestDate() = NONE; days(1); bestDate() = NONE; set(0, 11); bestDate() = 10");
        story("BEST DATE: the least DUE").does("set(0, 1); bestDate() = 0; days(1); bestDate() = NONE");
        story("BEST DATE: the greatest DUE").does("set(0, 50); days(49); bestDate() = 49; days(1); bestDate() = NONE");
        // 1 hour a day: half of 20 is done behind DAY 9, half of 22 behind DAY 10.
        story("BEST DATE is DUE less 1").reads("worker 0 work 20;due 10;", 1).does("bestDate() = 9");
        story("BEST DATE is not DUE: of all that are missed the first").reads("worker 0 work 22;due 10;", 1).does("bestDate() = 0");
        story("BEST DATE is TODAY").reads("worker 4 work 10;due 10;", 1).does("bestDate() = 0; days(1); bestDate() = 1");
        story("on which there is none").reads("worker 0 work 10;due 9;date 4 part 1;date 5 part 1;", 1).does("bestDate() = 6; strike(0); bestDate() = 4");
        story("BEST DATE by nobody: all alike").does("bestDate() = 0; days(60); bestDate() = NONE");
        // ILL on DAYS 0 to 3, the waiter misses a DATE on these, and meets one on DAY 4 by its first 8 hours.
        story("BEST DATE lets MARKS be most, not be least").reads("waiter 0 work 16 ill 0,1,2,3,9;due 9;", 1).does("markOf(0) = 95; bestDate() = 4; marks() = 95");
    }

    private static void bestDateByPart() {
        // 7 hours a day, half of 99 is 49 (49.5), which is DONE behind DAY 6.
        story("with PART 50").reads("worker 6 work 99;", 1).does("bestDate() = 6");
        // 8 hours a day, half of 98 is 49: behind DAY 6; 48 would be DONE behind DAY 5.
        story("with PART 50").reads("worker 7 work 98;", 1).does("bestDate() = 6");
        story("with PART 50").reads("worker 7 work 97;", 1).does("bestDate() = 5");
    }

    private static void bestDateRefused() {
        story("NONE: there is no such DAY").does("set(0, 1); date(0, 1) = 1; bestDate() = NONE; set(0, 2); bestDate() = 1; date(1, 1); bestDate() = NONE; set(0, 3); bestDate() = 2");
        story("NONE is named ahead of FULL").does("set(0, 3); date(0, 1); date(1, 1); date(2, 1) = 3; bestDate() = NONE; set(0, 4); bestDate() = FULL; days(3); bestDate() = FULL; days(1); bestDate() = NONE");
        story("FULL: there are 3 DATES").does("date(5, 1); date(6, 1); bestDate() = 0; date(7, 1); bestDate() = FULL; strike(0); bestDate() = 0; days(7); date(1, 1) = 3; bestDate() = FULL");
    }

    private static void enough() {
        // HANDED in on DAY 12, 3 DAYS behind DUE: 97 by PENALTY 1, 10 by PENALTY 30.
        String sentence = "ENOUGH: the least PENALTY (0 to 30) by which MARK would be below a told number";
        String text = "worker 0 work 13;due 9;penalty 7;";
        story(sentence).reads(text, 1).does("enough(0, 120) = 0; enough(0, 101) = 0; enough(0, 100) = 1; enough(0, 98) = 1; enough(0, 97) = 2; enough(0, 95) = 2")
                .does("enough(0, 94) = 3; enough(0, 14) = 29; enough(0, 13) = 30; enough(0, 11) = 30; enough(0, 10) = NONE; enough(0, 1) = NONE; lawOf(2) = 7");
        story("ENOUGH as one has HANDED in").reads(text, 1).does("days(60); enough(0, 100) = 1; enough(0, 11) = 30; enough(0, 10) = NONE; personOf(0, 7) = 79");
        story("ENOUGH: MARK 0 is below 1").reads(text, 1).does("set(0, 8); enough(0, 1) = 25; set(0, 1); enough(0, 1) = 10; enough(0, 2) = 9");
        story("ENOUGH with MISSED ones").reads("worker 0 work 13;due 9;date 0 part 90;", 1).does("enough(0, 96) = 0; enough(0, 95) = 1; enough(0, 6) = 30; enough(0, 5) = NONE");
        story("ENOUGH by none: early").reads("worker 0 work 1;", 1).does("enough(0, 101) = 0; enough(0, 100) = NONE; set(3, 10); enough(0, 120) = NONE; set(0, 1); enough(0, 111) = 0; enough(0, 110) = NONE; enough(0, 120) = 0");
    }

    private static void enoughRefused() {
        story("(mark 1 to 120)").reads("worker 0 work 60;due 1;", 1).does("enough(0, 0) = BAD; enough(0, 1) = 2; enough(0, 120) = 0; enough(0, 121) = BAD; enough(0, -1) = BAD");
        story("NONE: .. or no MARK").reads("worker 0 work 61;", 1).does("enough(0, 120) = NONE; enough(0, 1) = NONE; enough(0, 121) = BAD; enough(1, 1) = BAD; enough(-1, 1) = BAD");
    }

    private static void patience() {
        String sentence = "PATIENCE: the A (0 to 9) with which MARK is most; of several the least";
        story(sentence).reads("worker 5 work 10;due 9;", 1).does("patience(0) = 0; personOf(0, 1) = 5; set(0, 8); patience(0) = 1; set(0, 1); set(1, 12); patience(0) = 4");
        // MOST 12: 99 hours take 10 DAYS with A 9, one more with A 8.
        story("PATIENCE is 9").reads("worker 0 work 99;due 9;most 12;", 1).does("patience(0) = 9; set(0, 10); patience(0) = 8; set(3, 1); patience(0) = 9; set(1, 1); patience(0) = NONE");
        story("PATIENCE where A counts nothing").reads("waiter 9 work 99;halver 9 work 9;steady 9 work 9;", 3).does("patience(0) = 0; patience(1) = 0; patience(2) = 0");
        story("NONE: with none there is a MARK").reads("worker 9 work 61;most 1;", 1).does("patience(0) = NONE; set(1, 2); patience(0) = 1; patience(1) = BAD; patience(-1) = BAD");
        // A busy one with A 0 has 40 DAYS of 1 hour: 41 hours are too many, with A 1 there is MARK 0.
        story("MARK 0 is more than none").reads("busy 0 work 41;due 1;penalty 30;", 1).does("markOf(0) = NONE; patience(0) = 1; mind(0, 5, 1); markOf(0) = 0");
        story("PATIENCE of one who has HANDED in").reads("worker 7 work 8;", 1).does("days(1); patience(0) = 0");
        story("PATIENCE of one who comes in the end").does("days(60); person(0, 0, 1); patience(0) = NONE");
        story("his or her own MARK").reads("worker 9 work 1;worker 0 work 20;due 9;date 5 part 1;", 2).does("patience(0) = 0; patience(1) = 1");
    }

    private static void worst() {
        String sentence = "WORST DAY: TODAY to 29, not ILL yet; of several the first";
        story(sentence).reads("worker 0 work 10;due 9;", 1).does("worst(0) = 0; days(1); worst(0) = 1; ill(0, 2); worst(0) = 2; ill(0, 6); worst(0) = 3; personOf(0, 4) = 6");
        story(sentence).does("days(29); person(0, 0, 1); worst(0) = 29; ill(0, 536870912); worst(0) = NONE; ill(0, 0); days(1); worst(0) = NONE");
        story(sentence).does("person(0, 0, 1); ill(0, 1073741823); worst(0) = NONE; ill(0, 536870911); worst(0) = 29; ill(0, 1073741822); worst(0) = 0; days(1); worst(0) = NONE");
        // A waiter works on DAY 29 alone: the last that may be.
        story("WORST DAY is 29").reads("waiter 0 work 8;", 1).does("worst(0) = 29; set(0, 30); worst(0) = 0");
        story("WORST DAY is TODAY").reads("waiter 0 work 8;due 5;", 1).does("worst(0) = 5; days(5); worst(0) = 5; days(1); worst(0) = 6");
        story("WORST DAY: all alike by MARK 120").does("person(0, 0, 1); set(3, 10); worst(0) = 0; days(9); worst(0) = 9");
        story("WORST DAY of one who will have no MARK: all alike").does("person(0, 0, 61); worst(0) = 0; days(3); worst(0) = 3");
        story("WORST DAY refused").does("person(0, 0, 1); worst(1) = BAD; worst(-1) = BAD; days(30); worst(1) = BAD");
    }

    private static void worstByNoMark() {
        // A busy one with A 0 works on 40 DAYS, each but 0, 3, 6 ..: 40 hours with MARK 0; ILL on 1, none.
        story("(no MARK: -1), less than MARK 0").reads("busy 0 work 40;due 1;penalty 30;", 1).does("markOf(0) = 0; worst(0) = 1; ill(0, 2); markOf(0) = NONE; worst(0) = 0");
    }

    private static void sooner() {
        String sentence = "SOONER: the least DUE (1 to 50) by which nobody who isn't in LATE now would be in LATE";
        story(sentence).does("sooner() = 1; days(60); sooner() = 1");
        story(sentence).does("person(0, 0, 2); sooner() = 1; person(0, 0, 3); sooner() = 2; lawOf(0) = 29");
        story(sentence).does("set(0, 50); person(0, 0, 51); sooner() = 50; days(60); sooner() = 50; set(0, 49); sooner() = 1");
        story(sentence).does("person(0, 0, 30); person(0, 0, 31); late() = 2; sooner() = 29; set(0, 30); late() = 0; sooner() = 30");
        story(sentence).does("person(0, 0, 99); late() = 1; sooner() = 1");
        // As DUE is another, waiters work on other DAYS.
        story("SOONER by other work").reads("waiter 0 work 16;", 1).does("when(0) = 29; sooner() = 1; days(1); sooner() = 2; days(28); sooner() = 29; ill(0, 536870912); late() = 1; sooner() = 1");
    }

    private static void soonerAboveAllDates() {
        story("above all DATES").does("date(0, 1); sooner() = 1; date(1, 1); sooner() = 2; date(28, 1); sooner() = 29");
        story("above all DATES").does("set(0, 50); date(49, 1); sooner() = 50; strike(0); date(48, 1); sooner() = 49; person(0, 0, 51); sooner() = 50");
    }

    private static void lots() {
        String sentence = "LOT: z (an int; 1 at first) becomes z * 1103515245 + 12345";
        story(sentence).does("person(0, 0, 99); lot(0) = 8; seed(1) = 1103527590; lot(1) = BAD; lot(-1) = BAD; seed(0) = 1");
        story("z wraps around").does("person(0, 0, 99); seed(MAX) = 1; lot(0) = 29; seed(MIN) = 1043980748; lot(0) = 8; seed(0) = -2147471303; personOf(0, 4) = 536871168");
        // The greatest and the least z that there are: 65535, 32767 and 32768 by 30.
        story("(z >>> 16) modulo 30").does("person(0, 0, 99); seed(230538014); lot(0) = 15; seed(-1916945634) = -1; lot(0) = 7; seed(2088216195) = MAX; lot(0) = 8; seed(5) = MIN");
        // 29 times 65536 and the next one below 30 times it, and that itself.
        story("DAYS 0 and 29").does("person(0, 0, 99); seed(-59267453); lot(0) = 0; seed(-1494702461) = 0; lot(0) = 29; seed(-1550599394); lot(0) = 29; seed(-1840404861); lot(0) = 0; personOf(0, 4) = 536870913");
        story("is ILL on DAY .., too").does("person(0, 0, 99); person(0, 0, 99); ill(0, 5); lot(0) = 8; personOf(0, 4) = 261; personOf(1, 4) = 0; seed(1); lot(0) = 8; personOf(0, 4) = 261; seed(1) = 1103527590");
        story("z becomes v: what it was").does("seed(MIN) = 1; seed(MAX) = MIN; seed(0) = MAX; seed(-1) = 0; seed(1) = -1");
    }
}
