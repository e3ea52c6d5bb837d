/** THE TAPE, the TEXT and its FAULTS (part 2, promises 2 and 3), sentence by sentence, at their edges. */
public final class EdgesOfTextTest {
    private static final Check CHECK = new Check();
    private static final String[] KINDS = {"worker", "late", "halver", "waiter", "steady", "busy"};

    public static void main(String[] args) {
        theTape();
        lowestFirst();
        usedUp();
        emptyTexts();
        people();
        illDays();
        laws();
        dates();
        datesAboveTheOneAhead();
        datesThatAreGone();
        allByItAlone();
        namesGoAsLongAsTheyGo();
        numbersGoAsLongAsTheyGo();
        blanks();
        otherBytes();
        whatCantStandThere();
        aSeventhPerson();
        aFourthDate();
        theEnd();
        theFirstOfSeveral();
        CHECK.end();
    }

    private static Story story(String sentence) {
        return new Story(CHECK, sentence);
    }

    private static void fault(String sentence, String text, int place) {
        story(sentence).reads(text, -100 - place).does("many(4) = 0; many(0) = 0; many(1) = 0; lawOf(0) = 29");
    }

    private static void theTape() {
        story("THE TAPE takes bytes, 200 at most").each(1, 25, "feed(0, 8)").does("many(4) = 200; feed(0, 1) = FULL; feed(0, 8) = FULL; many(4) = 200");
        story("FULL: more than 200").each(1, 24, "feed(0, 8)").does("feed(0, 1) = 193; feed(0, 8) = FULL; many(4) = 193; feed(0, 7) = 200; feed(0, 1) = FULL");
        story("FULL: more than 200").each(1, 24, "feed(0, 8)").does("feed(0, 7) = 199; feed(0, 2) = FULL; feed(0, 1) = 200");
        story("n bytes (1 to 8)").does("feed(0, 0) = BAD; feed(0, 9) = BAD; feed(0, -1) = BAD; feed(0, MIN) = BAD; feed(0, MAX) = BAD; many(4) = 0; feed(0, 1) = 1; feed(0, 8) = 9");
    }

    private static void lowestFirst() {
        // "due 7;" from its lowest byte on, and from its highest on.
        long due = 0x3b37_2065_7564L;
        long turned = 0x6475_6520_373bL;
        story("the lowest of eight first").does("feed(" + turned + ", 6) = 6; task() = -100");
        story("the lowest of eight first").does("feed(" + due + ", 6) = 6; task() = 0; lawOf(0) = 7");
        story("n bytes come, none above them").does("feed(" + (due | 0xffffL << 48) + ", 6) = 6; task() = 0; lawOf(0) = 7");
        story("n bytes come, those above them too").does("feed(" + (due | 0xffffL << 48) + ", 7) = 7; task() = -106");
        story("eight bytes, the highest too").does("feed(" + (due | 0x2020L << 48) + ", 8) = 8; task() = 0; lawOf(0) = 7");
        story("eight bytes, the highest too").does("feed(" + (due | 0xff20L << 48) + ", 8) = 8; task() = -107");
        story("what comes later stands behind").feeds("due").feeds(" 1").feeds("2").feeds(";").does("many(4) = 7; task() = 0; lawOf(0) = 12");
    }

    private static void usedUp() {
        story("task() uses it up").reads("due 7;", 0).does("many(4) = 0; task() = 0; lawOf(0) = 29").reads("due 8;", 0).does("lawOf(0) = 8");
        story("task() uses it up, with a FAULT too").reads("due 7;x", -106).does("many(4) = 0").reads("due 8;", 0).does("lawOf(0) = 8").reads("x", -100).does("lawOf(0) = 8");
        story("a full one is used up").feeds(" ".repeat(200)).does("feed(32, 1) = FULL; task() = 0; many(4) = 0; feed(32, 1) = 1");
        story("what stood there ahead is no more").reads("due 7;due 8;due 9;", 0).reads("due", -103).reads("due 1", -105).reads("most 3;", 0).does("lawOf(0) = 29; lawOf(1) = 3");
    }

    private static void emptyTexts() {
        story("an empty TEXT is nobody").does("person(0, 0, 1); date(3, 3); set(0, 9); days(4); task() = 0; many(0) = 0; many(1) = 0; lawOf(0) = 29; today() = 0");
        story("a TEXT of blanks is nobody").does("person(0, 0, 1)").reads(" ", 0).does("many(0) = 0").reads(" ".repeat(200), 0);
    }

    private static void people() {
        for (int kind = 0; kind < 6; kind++) {
            String name = KINDS[kind];
            int at = name.length() + 1;
            story("KIND: A, WORK").reads(name + " 0 work 1;", 1).row("personOf(0, #)", kind, 0, 1, 0, 0, -9, 0, -9);
            story("KIND: A, WORK").reads(name + " 9 work 99;", 1).row("personOf(0, #)", kind, 9, 99, 0, 0, -9, 0, -9);
            fault("A (0 to 9)", name + " 10 work 1;", at);
            fault("WORK (1 to 99 hours)", name + " 9 work 0;", at + 7);
            fault("WORK (1 to 99 hours)", name + " 9 work 00;", at + 7);
            fault("WORK (1 to 99 hours)", name + " 9 work 100;", at + 7);
        }
        story("six PEOPLE, numbered as they come").reads("busy 1 work 1;busy 2 work 1;busy 3 work 1;busy 4 work 1;busy 5 work 1;busy 6 work 1;", 6)
                .row("personOf(#, 1)", 1, 2, 3, 4, 5, 6, -1);
    }

    private static void illDays() {
        story("DAYS (0 to 29)").reads("late 1 work 1 ill 0;late 1 work 1 ill 29;late 1 work 1 ill 29,0,29 , 00;late 1 work 1;", 4).row("personOf(#, 4)", 1, 536870912, 536870913, 0);
        StringBuilder all = new StringBuilder("late 1 work 1 ill 0");
        for (int day = 1; day < 30; day++) {
            all.append(',').append(day);
        }
        story("all DAYS from 0 to 29").reads(all + ";", 1).does("personOf(0, 4) = 1073741823");
        fault("DAYS (0 to 29)", "late 1 work 1 ill 30;", 18);
        fault("DAYS (0 to 29)", "late 1 work 1 ill 0,30;", 20);
        fault("DAYS (0 to 29)", "late 1 work 1 ill 29,99;", 21);
        fault("DAYS (0 to 29)", "late 1 work 1 ill 029;", 18);
        fault("[ ill N { , N } ]: one at least", "late 1 work 1 ill;", 17);
        fault("[ ill N { , N } ]: one behind each sign", "late 1 work 1 ill 1,;", 20);
        fault("[ ill N { , N } ]: a sign between them", "late 1 work 1 ill 1 2;", 20);
        fault("[ ill N { , N } ]: no sign ahead", "late 1 work 1 ill ,1;", 18);
        fault("[ ill N { , N } ]: no sign without ill", "late 1 work 1,2;", 13);
        fault("[ ill N { , N } ]: once", "late 1 work 1 ill 1 ill 2;", 20);
    }

    private static void laws() {
        story("due N (1 to 50)").reads("due 1;", 0).does("lawOf(0) = 1").reads("due 50;", 0).does("lawOf(0) = 50").reads("due 0;", -104).reads("due 51;", -104).reads("due 100;", -104).does("lawOf(0) = 50");
        story("most N (1 to 12)").reads("most 1;", 0).does("lawOf(1) = 1").reads("most 12;", 0).does("lawOf(1) = 12").reads("most 0;", -105).reads("most 13;", -105).does("lawOf(1) = 12");
        story("penalty N (0 to 30)").reads("penalty 30;", 0).does("lawOf(2) = 30").reads("penalty 0;", 0).does("lawOf(2) = 0").reads("penalty 31;", -108).reads("penalty -1;", -108).does("lawOf(2) = 0");
        story("a LAW that is told twice").reads("due 5;most 5;penalty 6;due 9;penalty 7;most 8;", 0).row("lawOf(#)", 9, 8, 7, 0, 5);
        fault("BONUS is not told in a TEXT", "bonus 1;", 0);
        fault("MISSED is not told in a TEXT", "missed 1;", 0);
    }

    private static void dates() {
        story("date: a DAY (0 to 49), PART").reads("due 50;date 0 part 1;date 49 part 99;", 0).row("dateOf(#, 0)", 0, 49, -3).row("dateOf(#, 1)", 1, 99, -3);
        fault("date: a DAY (0 to 49)", "due 50;date 50 part 1;", 12);
        fault("date: a DAY (0 to 49), also if it would be gone", "date 50 part 1;", 5);
        fault("PART (1 to 99)", "date 5 part 0;", 12);
        fault("PART (1 to 99)", "date 5 part 100;", 12);
        fault("date N part N: all of it", "date 5;", 6);
        fault("date N part N: all of it", "date 5 part;", 11);
        fault("date N part N: all of it", "date part 5;", 5);
    }

    private static void datesAboveTheOneAhead() {
        String sentence = "a DAY that is above that of the DATE told ahead";
        story(sentence).reads("date 0 part 1;date 1 part 1;date 2 part 1;", 0).does("many(1) = 3");
        story(sentence).reads("date 9 part 1;worker 1 work 1;due 20;date 10 part 2;", 1).row("dateOf(#, 0)", 9, 10);
        fault(sentence, "date 0 part 1;date 0 part 1;", 19);
        fault(sentence, "date 9 part 1;date 9 part 2;", 19);
        fault(sentence, "date 9 part 1;date 8 part 1;", 19);
        fault(sentence, "date 1 part 1;date 9 part 1;date 9 part 1;", 33);
        fault(sentence, "date 1 part 1;date 9 part 1;date 5 part 1;", 33);
        fault("also if that one would be gone", "due 9;date 30 part 1;date 5 part 1;", 26);
        fault("none is above DAY 49", "due 50;date 49 part 1;date 49 part 1;", 27);
        story("a TEXT knows of no DATE from ahead").does("date(20, 5)").reads("date 3 part 4;", 0).row("dateOf(#, 0)", 3, -3);
    }

    private static void datesThatAreGone() {
        String sentence = "A DATE that is not below DUE in the end counts for nothing: it is gone";
        story(sentence).reads("date 28 part 1;date 29 part 1;date 30 part 1;", 0).row("dateOf(#, 0)", 28, -3).does("many(1) = 1; set(0, 50); many(1) = 1; date(29, 5) = 2");
        story(sentence).reads("date 5 part 1;date 6 part 1;due 6;", 0).does("many(1) = 1").reads("due 6;date 5 part 1;date 6 part 1;", 0).does("many(1) = 1")
                .reads("due 7;date 6 part 1;", 0).does("many(1) = 1").reads("due 1;date 1 part 1;date 2 part 1;date 3 part 1;", 0).does("many(1) = 0");
        story("in the end: the latest DUE").reads("due 3;date 5 part 1;due 9;", 0).does("many(1) = 1").reads("due 9;date 5 part 1;due 3;due 5;", 0).does("many(1) = 0")
                .reads("date 49 part 1;due 50;", 0).does("many(1) = 1");
        story("it counts for nothing").reads("worker 0 work 99;due 5;date 5 part 99;", 1).does("goal(0, 0) = 5; goal(0, 1) = 99; days(9); personOf(0, 6) = 0");
    }

    private static void allByItAlone() {
        story("LAWS that it doesn't tell are as at first, TODAY 0").does("set(0, 9); set(1, 9); set(2, 9); set(3, 9); set(4, 9); days(9); date(3, 3); person(0, 0, 1)")
                .reads("most 2;late 3 work 4;", 1).row("lawOf(#)", 29, 2, 5, 0, 5).does("today() = 0; many(0) = 1; many(1) = 0; personOf(0, 0) = 1");
        story("z stays").does("seed(77)").reads("due 9;", 0).does("seed(MIN) = 77").reads("x", -100).does("seed(1) = MIN");
        story("There are no ROWS then").does("person(0, 0, 9); prove(0, 5) = 5").reads("x", -100).does("many(3) = 5").reads("worker 0 work 9;", 1).does("many(3) = 0; row(0, 0) = -9; judge(0) = 0");
        story("There are no ROWS then").does("person(0, 0, 9); prove(0, 5) = 5; task() = 0; many(3) = 0");
        story("nobody's DONE, ILL, MISSED or HANDED stays").reads("worker 0 work 9 ill 1,2;date 0 part 99;", 1).does("days(60)").reads("worker 0 work 9;", 1).row("personOf(0, #)", 0, 0, 9, 0, 0, -9, 0, -9);
        story("what is kept stays").does("person(0, 0, 9); keep()").reads("due 9;", 0).does("many(0) = 0; again() = 0; many(0) = 1");
        story("SHEETS and SHELVES stay").does("sheet(0, 0, 2); put(0, 1, 7); shelf(1, 1, 0)").reads("due 9;", 0).does("item(0, 0, 1) = 7; taken(1, 10) = 2");
    }

    private static void namesGoAsLongAsTheyGo() {
        String sentence = "NAMES are rows of letters a to z, as long as they go";
        fault(sentence, "workers 1 work 1;", 0);
        fault(sentence, "worke 1 work 1;", 0);
        fault(sentence, "duedue 5;", 0);
        fault(sentence, "due5;duez5;", 5);
        fault(sentence, "worker 1 works 1;", 9);
        fault(sentence, "worker 1 wor 1;", 9);
        fault(sentence, "worker 1 work 1 ills 1;", 16);
        fault(sentence, "date 1 parts 1;", 7);
        fault(sentence, "date 1 par 1;", 7);
        fault("letters a to z alone", "Due 5;", 0);
        fault("letters a to z alone", "dUe 5;", 0);
        fault("letters a to z alone", "DUE 5;", 0);
        fault("a blank parts a NAME", "du e 5;", 0);
        for (String name : KINDS) {
            fault("a part of a NAME is none", name.substring(0, name.length() - 1) + " 1 work 1;", 0);
            fault("a NAME and more is none", name + "z 1 work 1;", 0);
            fault("a NAME and more is none", "a" + name + " 1 work 1;", 0);
        }
    }

    private static void numbersGoAsLongAsTheyGo() {
        story("NUMBERS rows of digits (1 or 2)").reads("due 7;", 0).does("lawOf(0) = 7").reads("due 07;", 0).does("lawOf(0) = 7").reads("due 10;", 0).does("lawOf(0) = 10").reads("due 49;", 0).does("lawOf(0) = 49");
        story("digits 0 to 9").reads("worker 01 work 20;worker 03 work 45;worker 06 work 78;worker 09 work 90;", 4).row("personOf(#, 1)", 1, 3, 6, 9).row("personOf(#, 2)", 20, 45, 78, 90);
        fault("a NUMBER of more digits", "due 007;", 4);
        fault("a NUMBER of more digits", "due 010;", 4);
        fault("a NUMBER of more digits", "due 4294967303;", 4);
        fault("a NUMBER of more digits", "due " + "0".repeat(150) + "7;", 4);
        fault("a blank parts a NUMBER", "due 1 0;", 6);
        fault("a NUMBER out of range, by two digits", "worker 10 work 1;", 7);
        fault("a NUMBER has no sign", "due +7;", 4);
        fault("a NUMBER has no sign", "due -7;", 4);
    }

    private static void blanks() {
        story("blanks stand elsewhere as one likes").reads("   due   7   ;   date   2   part   3   ;   ", 0).does("lawOf(0) = 7; dateOf(0, 1) = 3");
        story("blanks stand elsewhere as one likes").reads(" worker 1 work 2 ill 3 , 4 ,5 ; ", 1).does("personOf(0, 4) = 56");
        story("none where nothing is to be parted").reads("worker1work2ill3,4,5;due7;date2part3;most3;penalty4;", 1).row("lawOf(#)", 7, 3, 4, 0, 5).does("personOf(0, 4) = 56; dateOf(0, 1) = 3");
        story("200 bytes with blanks ahead").reads(" ".repeat(194) + "due 7;", 0).does("lawOf(0) = 7");
        for (char other : new char[] {'\t', '\n', '\r', 31, 33, 160, 0}) {
            fault("blanks (32) alone", "due" + other + "7;", 3);
            fault("blanks (32) alone", "due 7" + other + ";", 5);
            fault("blanks (32) alone", "due 7;" + other, 6);
        }
    }

    private static void otherBytes() {
        for (int b = 0; b < 256; b++) {
            char c = (char) b;
            boolean letter = c >= 'a' && c <= 'z';
            boolean digit = c >= '0' && c <= '9';
            String sentence = "other byte that can't stand there: " + b;
            if (c != ' ') {
                fault(sentence, " " + c, 1);
            }
            if (!letter && !digit && c != ' ') {
                fault(sentence, "due" + c + " 7;", 3);
                fault(sentence, "date 7 " + c + "part 7;", 7);
            }
            if (!letter && !digit && c != ' ' && c != ';') {
                fault(sentence, "due 7 " + c + ";", 6);
            }
        }
        fault("';' once", "due 7;;", 6);
        fault("';' not ahead", ";due 7;", 0);
        fault("',' in no list", "due 7,8;", 5);
        fault("',' for ';'", "due 7,", 5);
    }

    private static void whatCantStandThere() {
        String sentence = "the first byte of the first NAME, NUMBER or other byte that can't stand there";
        fault(sentence, "7;", 0);
        fault(sentence, "  42 worker 1 work 1;", 2);
        fault(sentence, "work 1;", 0);
        fault(sentence, "part 1;", 0);
        fault(sentence, "ill 1;", 0);
        fault(sentence, "due due 7;", 4);
        fault(sentence, "due 7 most 3;", 6);
        fault(sentence, "due seven;", 4);
        fault(sentence, "worker work 1;", 7);
        fault(sentence, "worker 1 1;", 9);
        fault(sentence, "worker 1 part 1;", 9);
        fault(sentence, "worker 1 ill 1;", 9);
        fault(sentence, "worker 1 work ill 1;", 14);
        fault(sentence, "worker 1 work 1 part 1;", 16);
        fault(sentence, "worker 1 work 1 late 1 work 1;", 16);
        fault(sentence, "date 1 work 1;", 7);
        fault(sentence, "date 1 part part 1;", 12);
        fault(sentence, "date 1 part 1 part 1;", 14);
        fault(sentence, "worker 1;", 8);
        fault(sentence, "worker;", 6);
        fault(sentence, "due;", 3);
        fault(sentence, "date;", 4);
        fault(sentence, "most;", 4);
        fault(sentence, "penalty;", 7);
    }

    private static void aSeventhPerson() {
        String six = "late 1 work 1;".repeat(6);
        story("PEOPLE, 6 at most").reads(six, 6).does("person(0, 0, 1) = FULL");
        story("behind six PEOPLE all else may stand").reads(six + "due 9;date 3 part 3;most 3;penalty 3;", 6).does("lawOf(0) = 9; many(1) = 1");
        for (String kind : KINDS) {
            fault("the first NAME of a seventh PERSON", six + kind + " 1 work 1;", 84);
            fault("the first NAME of a seventh PERSON", six + "  " + kind, 86);
        }
        fault("the first NAME of a seventh PERSON", six + "due 9;late 99 work 0;", 90);
        fault("the first NAME of a seventh PERSON, ahead of what is behind it", six + "late;", 84);
    }

    private static void aFourthDate() {
        String three = "date 1 part 1;date 2 part 1;date 3 part 1;";
        story("DATES, 3 at most").reads(three, 0).does("many(1) = 3; date(4, 1) = FULL");
        story("behind three DATES all else may stand").reads(three + "due 3;late 1 work 1;", 1).does("many(1) = 2");
        fault("a fourth DATE", three + "date 4 part 1;", 42);
        fault("a fourth DATE", three + " date", 43);
        fault("a fourth DATE", three + "date 1 part 0;", 42);
        fault("a fourth DATE, also if others would be gone", "due 2;" + three + "date 4 part 1;", 48);
    }

    private static void theEnd() {
        String sentence = "the end (how many bytes there are), if more must come";
        String[] texts = {"worker 1 work 1 ill 1,2;", "date 1 part 5;", "due 12;", "most 3;", "penalty 3;"};
        int[][] ends = {{6, 7, 8, 9, 13, 14, 15, 16, 19, 20, 21, 22, 23}, {4, 5, 6, 7, 11, 12, 13}, {3, 4, 5, 6}, {4, 5, 6}, {7, 8, 9}};
        for (int i = 0; i < texts.length; i++) {
            for (int end : ends[i]) {
                fault(sentence, texts[i].substring(0, end), end);
                fault(sentence, texts[i].substring(0, end) + "   ", end + 3);
                fault(sentence, "due 29;" + texts[i].substring(0, end), end + 7);
            }
        }
        String most = "due 29;".repeat(28);
        fault(sentence, most + "due ", 200);
        fault(sentence, most + "due5", 200);
        fault("at the very end what can't stand there", most + "dues", 196);
        fault("at the very end what can't stand there", most + "   ;", 199);
        fault("at the very end what can't stand there", most + "due;", 199);
        story("nothing more must come").reads(most + "    ", 0).does("lawOf(0) = 29");
        story("nothing more must come").reads("due 5;", 0).reads("due 5; ", 0);
        story("a TEXT of 200 bytes to its last").reads(" ".repeat(194) + "due 5;", 0).does("lawOf(0) = 5");
        fault("a part of a NAME at the end is a NAME", "du", 0);
        fault("a part of a NAME at the end is a NAME", "due 5;mos", 6);
        fault("a part of a NAME at the end is a NAME", "worker 1 wor", 9);
        fault("a NUMBER out of range at the end", "due 51", 4);
        fault("a NUMBER out of range at the end", "due 0", 4);
        fault("a NUMBER of more digits at the end", "due 007", 4);
    }

    private static void theFirstOfSeveral() {
        fault("FAULT: the first", "due 51;due 0;x", 4);
        fault("FAULT: the first", "due 5;worker 10 work 0 ill 30", 13);
        fault("FAULT: the first", "date 5 part 1;date 5 part 0;", 19);
        story("-100 less its FAULT").reads("x", -100).reads(" x", -101).reads(" ".repeat(199) + "x", -299);
    }
}
