/** Promises 16 to 27: what is asked of a TRIAL, and LOT. */
public final class WhatWillBeTest {
    private static final Check CHECK = new Check();

    public static void main(String[] args) {
        trials();
        trialsAreMadeAnew();
        nothingChanges();
        bestDates();
        enough();
        patience();
        worstDays();
        sooner();
        lots();
        CHECK.end();
    }

    private static void trials() {
        LastDays x = CHECK.told("worker 0 work 31;worker 0 work 30;worker 1 work 20;worker 0 work 61;worker 1 work 19;");
        int[] when = {30, 29, 9, LastDays.NONE, 9};
        int[] marks = {95, 100, 100, LastDays.NONE, 100};
        for (int go = 0; go < 3; go++) {
            for (int i = 0; i < 5; i++) {
                CHECK.due("when(" + i + ")", when[i], x.when(i));
                CHECK.due("markOf(" + i + ")", marks[i], x.markOf(i));
            }
            CHECK.due("heap(9)", 2, x.heap(9));
            CHECK.due("heap(29)", 1, x.heap(29));
            CHECK.due("heap(30)", 1, x.heap(30));
            CHECK.due("heap(31)", 0, x.heap(31));
            CHECK.due("late()", 1 | 1 << 3, x.late());
            CHECK.due("marks()", 395, x.marks());
            x.days(20 * (go + 1));
        }
        CHECK.due("today()", 60, x.today());
        CHECK.due("heap(-1)", LastDays.BAD, x.heap(-1));
        CHECK.due("heap(60)", LastDays.BAD, x.heap(60));
        CHECK.due("heap(0)", 0, x.heap(0));
        CHECK.due("heap(59)", 0, x.heap(59));
        CHECK.due("when(5)", LastDays.BAD, x.when(5));
        CHECK.due("when(-1)", LastDays.BAD, x.when(-1));
        CHECK.due("markOf(5)", LastDays.BAD, x.markOf(5));
        CHECK.due("markOf(-1)", LastDays.BAD, x.markOf(-1));
    }

    /** Each call on an object of its own, so that no other call's TRIAL helps it. */
    private static void trialsAreMadeAnew() {
        String six = "worker 0 work 31;worker 1 work 4;worker 1 work 4;worker 1 work 4;worker 1 work 4;worker 0 work 61;";
        CHECK.due("when(0)", 30, CHECK.told(six).when(0));
        CHECK.due("markOf(0)", 95, CHECK.told(six).markOf(0));
        CHECK.due("heap(1)", 4, CHECK.told(six).heap(1));
        CHECK.due("late()", 33, CHECK.told(six).late());
        CHECK.due("marks()", 495, CHECK.told(six).marks());
        CHECK.due("enough(0, 95)", 6, CHECK.told(six).enough(0, 95));
        CHECK.due("sooner()", 1, CHECK.told(six).sooner());
        LastDays x = CHECK.told(six);
        x.marks();
        x.mind(0, 0, 1);
        CHECK.due("when(0)", 15, x.when(0));
        x.mind(0, 0, 0);
        CHECK.due("markOf(0)", 95, x.markOf(0));
        x.mind(0, 0, 1);
        CHECK.due("marks()", 500, x.marks());
        x.mind(0, 0, 0);
        CHECK.due("enough(0, 95)", 6, x.enough(0, 95));
        x.mind(0, 0, 1);
        CHECK.due("late()", 32, x.late());
        CHECK.due("heap(15)", 1, x.heap(15));
    }

    private static void nothingChanges() {
        LastDays x = CHECK.told("late 2 work 40 ill 3;busy 1 work 30;due 9;date 4 part 50;");
        x.days(2);
        x.prove(0, 5);
        x.heap(3);
        x.when(0);
        x.markOf(0);
        x.late();
        x.marks();
        x.bestDate();
        x.enough(0, 50);
        x.patience(0);
        x.worst(0);
        x.sooner();
        x.judge(0);
        int[][] people = {{1, 2, 40, 0, 8, -9, 0, -9}, {5, 1, 30, 4, 0, -9, 0, -9}};
        for (int i = 0; i < 2; i++) {
            for (int what = 0; what < 8; what++) {
                CHECK.due("personOf(" + i + ", " + what + ")", people[i][what], x.personOf(i, what));
            }
        }
        CHECK.due("today()", 2, x.today());
        CHECK.due("lawOf(0)", 9, x.lawOf(0));
        CHECK.due("lawOf(2)", 5, x.lawOf(2));
        CHECK.due("many(1)", 1, x.many(1));
        CHECK.due("many(3)", 5, x.many(3));
        CHECK.due("seed(1)", 1, x.seed(1));
    }

    private static void bestDates() {
        // 1 hour a day: half of 10 stands behind DAY 4, so each DATE from there on is met, none ahead.
        LastDays x = CHECK.told("worker 0 work 10;due 9;");
        CHECK.due("the first that is met", 4, x.bestDate());
        x.date(4, 99);
        CHECK.due("one on which there is none", 5, x.bestDate());
        x.set(4, 0);
        CHECK.due("all alike: the first", 0, x.bestDate());
        x.days(5);
        CHECK.due("from TODAY on", 5, x.bestDate());
        x.date(5, 1);
        x.date(8, 1);
        CHECK.due("3 DATES", LastDays.FULL, x.bestDate());
        x.days(4);
        CHECK.due("no DAY is left, and NONE is named ahead of FULL", LastDays.NONE, x.bestDate());
        x.strike(0);
        CHECK.due("no DAY is left", LastDays.NONE, x.bestDate());
        // 7 hours a day, half of 99 is 49.
        CHECK.due("half of the work", 6, CHECK.told("worker 6 work 99;").bestDate());
        x = new LastDays();
        x.set(0, 1);
        CHECK.due("nobody: the first", 0, x.bestDate());
        x.date(0, 5);
        CHECK.due("all DAYS have a DATE", LastDays.NONE, x.bestDate());
    }

    private static void enough() {
        // HANDED in 3 DAYS behind DUE.
        LastDays x = CHECK.told("worker 0 work 13;worker 0 work 99;worker 4 work 5;due 9;penalty 30;");
        CHECK.due("when(0)", 12, x.when(0));
        CHECK.due("100 less 3 is below 100", 1, x.enough(0, 100));
        CHECK.due("below 101", 0, x.enough(0, 101));
        CHECK.due("below 120", 0, x.enough(0, 120));
        CHECK.due("below 97", 2, x.enough(0, 97));
        CHECK.due("below 98", 1, x.enough(0, 98));
        CHECK.due("below 11", 30, x.enough(0, 11));
        CHECK.due("below 10", LastDays.NONE, x.enough(0, 10));
        CHECK.due("no MARK", LastDays.NONE, x.enough(1, 120));
        CHECK.due("not late", LastDays.NONE, x.enough(2, 100));
        CHECK.due("never below 1", LastDays.NONE, x.enough(0, 1));
        x.set(0, 8);
        CHECK.due("4 DAYS: 0 by PENALTY 25, and now too", 25, x.enough(0, 1));
        CHECK.due("enough(0, 0)", LastDays.BAD, x.enough(0, 0));
        CHECK.due("enough(0, 121)", LastDays.BAD, x.enough(0, 121));
        CHECK.due("enough(3, 5)", LastDays.BAD, x.enough(3, 5));
        CHECK.due("enough(-1, 5)", LastDays.BAD, x.enough(-1, 5));
    }

    private static void patience() {
        LastDays x = CHECK.told("worker 0 work 40;due 9;penalty 5;");
        CHECK.due("4 a day are enough, 10 DAYS", 3, x.patience(0));
        x.set(3, 1);
        CHECK.due("8 a day are most", 7, x.patience(0));
        x.set(1, 12);
        CHECK.due("10 a day", 9, x.patience(0));
        CHECK.due("MARK 0 is one, and A 0 has none", 1, CHECK.told("worker 5 work 99;due 1;penalty 30;").patience(0));
        x.ill(0, 1073741823);
        x.set(1, 1);
        CHECK.due("with none there is a MARK", LastDays.NONE, x.patience(0));
        CHECK.due("patience(1)", LastDays.BAD, x.patience(1));
        CHECK.due("patience(-1)", LastDays.BAD, x.patience(-1));
        x = CHECK.told("worker 9 work 1;");
        x.days(1);
        CHECK.due("HANDED in: all are alike", 0, x.patience(0));
    }

    private static void worstDays() {
        // 10 DAYS of 1 hour by DUE 9: any of them makes it late, the first is told.
        LastDays x = CHECK.told("worker 0 work 10;due 9;");
        CHECK.due("worst(0)", 0, x.worst(0));
        x.days(2);
        CHECK.due("worst(0) on DAY 2", 2, x.worst(0));
        x.ill(0, 1 << 2);
        CHECK.due("not ILL yet", 3, x.worst(0));
        CHECK.due("worst(1)", LastDays.BAD, x.worst(1));
        CHECK.due("worst(-1)", LastDays.BAD, x.worst(-1));
        x.ill(0, 1073741823 & ~(1 << 29));
        CHECK.due("29 alone is left", 29, x.worst(0));
        x.ill(0, 1073741823);
        CHECK.due("none is left", LastDays.NONE, x.worst(0));
        x.ill(0, 0);
        x.days(28);
        CHECK.due("DAY 30", LastDays.NONE, x.worst(0));
        x = CHECK.told("worker 9 work 9;");
        x.set(3, 10);
        CHECK.due("MARK 120 on all of them", 0, x.worst(0));
        // A waiter works on DAY 9 alone, all of it: that is the one.
        x = CHECK.told("waiter 0 work 8;due 9;");
        CHECK.due("worst of a waiter", 9, x.worst(0));
        x.ill(0, 1 << 9);
        CHECK.due("ILL on that one already, the next", 10, x.worst(0));
        // 60 hours, 1 a day: with any DAY ILL there is no MARK, which is less than MARK 0.
        x = CHECK.told("worker 0 work 60;penalty 30;");
        CHECK.due("markOf(0)", 0, x.markOf(0));
        x.ill(0, 0);
        CHECK.due("worst(0)", 0, x.worst(0));
    }

    private static void sooner() {
        LastDays x = CHECK.told("worker 0 work 10;worker 0 work 45;");
        CHECK.due("late()", 2, x.late());
        CHECK.due("the one who is late counts for nothing", 9, x.sooner());
        x.date(20, 1);
        CHECK.due("above all DATES", 21, x.sooner());
        x.set(0, 50);
        x.strike(0);
        CHECK.due("nobody is late", 44, x.sooner());
        x.mind(0, 0, 9);
        CHECK.feed(x, "worker 0 work 51;due 50;");
        x.task();
        CHECK.due("50 is the last", 50, x.sooner());
        CHECK.due("nobody at all", 1, new LastDays().sooner());
        // KINDS work by DUE: a waiter of 8 hours works on DUE itself, as soon as it may be.
        x = CHECK.told("waiter 0 work 8;");
        CHECK.due("sooner() of a waiter", 1, x.sooner());
        x = CHECK.told("waiter 0 work 17;");
        CHECK.due("sooner() of 3 DAYS", 2, x.sooner());
    }

    private static void lots() {
        LastDays x = CHECK.told("worker 0 work 10 ill 1;worker 0 work 10;");
        CHECK.due("lot(2)", LastDays.BAD, x.lot(2));
        CHECK.due("lot(-1)", LastDays.BAD, x.lot(-1));
        CHECK.due("a BAD one leaves z", 1, x.seed(1));
        CHECK.due("lot(0)", 8, x.lot(0));
        CHECK.due("personOf(0, 4)", 1 << 1 | 1 << 8, x.personOf(0, 4));
        CHECK.due("personOf(1, 4)", 0, x.personOf(1, 4));
        CHECK.due("seed(-1)", 1103527590, x.seed(-1));
        // -1 times 1103515245, and 12345, is -1103502900: 3191464396 without a sign, by 65536 48697, which leaves 7 by 30.
        CHECK.due("lot(1)", 7, x.lot(1));
        CHECK.due("seed(5)", -1103502900, x.seed(5));
        CHECK.due("seed(-7)", 5, x.seed(-7));
        CHECK.due("seed(0)", -7, x.seed(0));
    }
}
