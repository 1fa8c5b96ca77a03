/** Promises 7 to 13: people, meetings, how a day goes, and the acts. */
final class EdgesOfDays {
    private static final int[] FAR = {Integer.MIN_VALUE, -1000, -2, -1, 31, 32, 64, 256, 1000, Integer.MAX_VALUE};
    private static final String FIVE = "town 0 60 99;person 0 0;person 80 40;person 20 20;person 21 19;person 33 21;"
            + "exempt 1;exempt 4";
    private static final String EIGHT = "town 0 60 99;person 20 20;person 20 20;meet 0 1 0 1;meet 1 0 600 60;"
            + "meet 0 1 2 3;meet 0 1 3 4;meet 0 1 4 5;meet 0 1 5 6;meet 0 1 6 7;meet 1 0 7 8";
    /** Two people without a habit and with good clocks, asked for at 100. */
    private static final String PAIR = "town 0 60 99;person 20 20;person 20 20;meet 0 1 100 10";

    private EdgesOfDays() {
    }

    // ---- 7: person

    static void p07_theLeastAndTheMostPerson() {
        LateAlways x = Due.in(FIVE);
        Due.is("person(0, 0)", x.person(0, 0), -20);
        Due.is("person(4, 0)", x.person(4, 0), 13);
        Due.is("person(5, 0)", x.person(5, 0), -1000);
        for (int person : FAR) {
            Due.is("person(" + person + ", 0)", x.person(person, 0), -1000);
        }
        LateAlways y = Due.in("town 0 1 1;person 20 20");
        Due.is("person(0, 0)", y.person(0, 0), 0);
        Due.is("person(1, 0)", y.person(1, 0), -1000);
        Due.is("nobody", Due.in("town 0 1 1").person(0, 0), -1000);
    }

    static void p07_theLeastAndTheMostWhat() {
        LateAlways x = Due.in(FIVE + ";meet 0 1 0 1");
        Due.is("what 0", x.person(0, 0), -20);
        Due.is("what 6", x.person(0, 6), 1);
        Due.is("what 7", x.person(0, 7), -1000);
        for (int what : FAR) {
            Due.is("what " + what, x.person(0, what), -1000);
        }
    }

    static void p07_habitAndClockAtTheirBounds() {
        LateAlways x = Due.in(FIVE);
        Due.is("least habit", x.person(0, 0), -20);
        Due.is("least clock", x.person(0, 1), -20);
        Due.is("most habit", x.person(1, 0), 60);
        Due.is("most clock", x.person(1, 1), 20);
        Due.is("a clock slow by one", x.person(3, 1), -1);
        x.set(0, 7);
        Due.is("habit stays", x.person(0, 0), -20);
        Due.is("clock", x.person(0, 1), 7);
    }

    static void p07_exemptIs1Else0() {
        LateAlways x = Due.in(FIVE);
        int[] exempt = {0, 1, 0, 0, 1};
        for (int p = 0; p < 5; p++) {
            Due.is("exempt " + p, x.person(p, 2), exempt[p]);
        }
        x.let(1);
        x.let(2);
        Due.is("not any more", x.person(1, 2), 0);
        Due.is("now", x.person(2, 2), 1);
        Due.is("others stay", x.person(4, 2), 1);
    }

    static void p07_lateLastIsTheHabitAheadOfTheFirstMeeting() {
        LateAlways x = Due.in("town 0 60 99;person 0 20;person 80 20;person 50 20;meet 0 1 100 1");
        Due.is("0", x.person(0, 3), -20);
        Due.is("1", x.person(1, 3), 60);
        Due.is("2", x.person(2, 3), 30);
        x.set(1, 5);
        Due.is("a clock changes nothing of it", x.person(1, 3), 60);
        x.day();
        Due.is("0", x.person(0, 3), -20);
        Due.is("1", x.person(1, 3), 55);
        Due.is("who has no meeting", x.person(2, 3), 30);
    }

    static void p07_finesAndWaitedOfAllDaysTogether() {
        // 0 is early and waits from 100 to 160, 1 is late by the law; then 0 has a slower clock by 1
        LateAlways x = Due.in("town 10 60 99;fine 4 5;person 20 20;person 80 20;meet 0 1 100 10");
        x.day();
        Due.is("fines", x.person(0, 4), 4);
        Due.is("waited", x.person(0, 5), 60);
        Due.is("fines", x.person(1, 4), 0);
        x.day();
        Due.is("fines", x.person(0, 4), 8);
        Due.is("waited", x.person(0, 5), 60 + 59);
        Due.is("waited", x.person(1, 5), 0);
    }

    static void p07_meetingsAsBits() {
        LateAlways x = Due.in("town 0 60 99;person 20 20;person 20 20;person 20 20;person 20 20;meet 0 1 0 1;"
                + "meet 1 2 0 1;meet 2 0 0 1");
        int[] bits = {5, 3, 6, 0};
        for (int p = 0; p < 4; p++) {
            Due.is("meetings of " + p, x.person(p, 6), bits[p]);
        }
        Due.is("all eight", Due.in(EIGHT).person(1, 6), 255);
    }

    // ---- 8: meeting

    static void p08_theLeastAndTheMostMeeting() {
        LateAlways x = Due.in(EIGHT);
        Due.is("meeting(0, 0)", x.meeting(0, 0), 0);
        Due.is("meeting(7, 0)", x.meeting(7, 0), 1);
        Due.is("meeting(7, 2)", x.meeting(7, 2), 7);
        Due.is("meeting(8, 0)", x.meeting(8, 0), -1);
        for (int meeting : FAR) {
            Due.is("meeting(" + meeting + ", 0)", x.meeting(meeting, 0), -1);
        }
        Due.is("one beyond", Due.in(PAIR).meeting(1, 0), -1);
        Due.is("none", Due.in("town 0 1 1;person 20 20").meeting(0, 0), -1);
    }

    static void p08_theLeastAndTheMostWhat() {
        LateAlways x = Due.in(EIGHT);
        int[] first = {0, 1, 0, 1, 0, 0};
        int[] second = {1, 0, 600, 60, 0, 0};
        for (int what = 0; what < 6; what++) {
            Due.is("meeting(0, " + what + ")", x.meeting(0, what), first[what]);
            Due.is("meeting(1, " + what + ")", x.meeting(1, what), second[what]);
        }
        Due.is("what 6", x.meeting(0, 6), -1);
        for (int what : FAR) {
            Due.is("what " + what, x.meeting(0, what), -1);
        }
    }

    static void p08_heldAndMissedSoFar() {
        // 1 comes 1 minute later each day, 0 at 100: missed from day 6 on
        LateAlways x = Due.in("town 0 60 5;person 20 20;person 20 20;meet 0 1 100 10", "late day if person=1");
        for (int day = 0; day < 9; day++) {
            Due.is("held ahead of day " + day, x.meeting(0, 4), Math.min(day, 6));
            Due.is("missed ahead of day " + day, x.meeting(0, 5), Math.max(0, day - 6));
            Due.is("day " + day, x.day(), day < 6 ? 0 : 1);
        }
        x.undo();
        Due.is("missed, a day undone", x.meeting(0, 5), 2);
        // each by its number: 1 is held, 0 and 2 are missed
        LateAlways y = Due.in("town 0 60 5;person 20 20;person 20 20;meet 0 1 100 1;meet 0 1 300 1;meet 0 1 500 1",
                "late 60*person if not meeting=1");
        Due.is("missed", y.day(), 2);
        for (int m = 0; m < 3; m++) {
            Due.is("held " + m, y.meeting(m, 4), m == 1 ? 1 : 0);
            Due.is("missed " + m, y.meeting(m, 5), m == 1 ? 0 : 1);
        }
    }

    // ---- 9: day: refused, empty, full

    static void p09_withoutATownNothingHappens() {
        LateAlways x = new LateAlways();
        Due.is("day", x.day(), -1);
        Due.is("day 0", x.count(7), 0);
        Due.is("no act", x.count(12), 0);
        Due.nothingHappens("a day without a town", y -> Texts.feed(y, "late 3"), LateAlways::day);
    }

    static void p09_withoutMeetings() {
        LateAlways x = Due.in("town 50 60 1;person 5 5");
        Due.is("day", x.day(), 0);
        Due.is("day 1", x.count(7), 1);
        Due.is("an act", x.count(12), 1);
        Due.is("clock stays", x.person(0, 1), -15);
        Due.is("without people", Due.in("town 50 60 1").day(), 0);
    }

    static void p09_allEightMissed() {
        // 0 waits a minute in vain each time, 1 comes at 160 to all of them
        LateAlways x = Due.in("town 0 60 1;person 20 20;person 80 20" + ";meet 0 1 100 1".repeat(8));
        Due.is("day", x.day(), 8);
        Due.is("waited", x.person(0, 5), 8);
        for (int m = 0; m < 8; m++) {
            Due.is("missed " + m, x.meeting(m, 5), 1);
        }
    }

    /** Nothing is promised behind 512 calls; the class keeps to the bound all the same. */
    static void p09_day999IsTheLast() {
        LateAlways x = Due.in(PAIR);
        for (int day = 0; day < 998; day++) {
            x.day();
        }
        Due.is("day", x.count(7), 998);
        Due.is("the last", x.day(), 0);
        Due.is("day", x.count(7), 999);
        int held = x.meeting(0, 4);
        Due.is("one more", x.day(), -1);
        Due.is("day", x.count(7), 999);
        Due.is("nothing held", x.meeting(0, 4), held);
        x.undo();
        Due.is("it was no act", x.count(7), 998);
    }

    // ---- 9: day: the order, and what they mean

    static void p09_byMinutesOfSeveralByNumbers() {
        LateAlways x = Due.in("town 0 60 99;person 20 20;person 20 20;person 20 20;"
                + "meet 0 1 50 60;meet 0 1 20 10;meet 0 2 20 5");
        Due.is("meeting 1 first", x.today(1, 0), 20);
        Due.is("then 2", x.today(2, 0), 30);
        Due.is("then 0", x.today(0, 0), 50);
        x.ask(2, 19);
        Due.is("2 first", x.today(2, 0), 19);
        Due.is("then 1", x.today(1, 0), 24);
        LateAlways y = Due.in("town 0 60 99;person 20 20;person 20 20" + ";meet 0 1 40 1".repeat(8));
        for (int m = 0; m < 8; m++) {
            Due.is("by numbers", y.today(m, 0), 40 + m);
        }
    }

    static void p09_bothAreAskedByHowAllWasAheadOfTheMeeting() {
        LateAlways x = Due.in("town 0 60 99;person 30 20;person 40 20;meet 0 1 100 10", "late theirs+1");
        Due.is("first", x.today(0, 1), 21);
        Due.is("second", x.today(0, 2), 11);
        // but by what the meetings ahead of it on that day have led to
        LateAlways y = Due.in("town 0 60 99;person 30 20;person 40 20;meet 0 1 100 10;meet 0 1 300 10", "late theirs+1");
        Due.is("first", y.today(1, 1), 12);
        Due.is("second", y.today(1, 2), 22);
        LateAlways z = Due.in("town 10 60 99;person 20 20;person 20 20;meet 0 1 100 10;meet 0 1 300 10",
                "late fined*20+waited");
        Due.is("fined ahead of it", z.today(1, 1), 20);
        Due.is("not yet", z.today(0, 1), 0);
    }

    static void p09_whatIsMeantIsHeldToMinus30And120() {
        int[][] meant = {{0, -31, -30}, {0, -30, -30}, {0, -29, -29}, {1, 119, 119}, {1, 120, 120}, {1, 121, 120}};
        for (int[] m : meant) {
            String sum = m[0] == 0 ? "0-" + -m[1] : "" + m[1];
            LateAlways x = Due.in(PAIR, "late " + sum);
            Due.is("late by " + sum, x.today(0, 1), m[2]);
            Due.is("late by " + sum, x.today(0, 2), m[2]);
        }
        // only what they mean is held: a clock goes beyond
        LateAlways y = Due.in("town 0 60 99;person 20 0;person 20 40;meet 0 1 100 10", "late 120 if person=0;late 0-99");
        Due.is("late", y.today(0, 1), 140);
        Due.is("late", y.today(0, 2), -50);
    }

    static void p09_theFirstClauseWithoutATestOrWhoseTestHolds() {
        Due.is("first", Due.in(PAIR, "late 1;late 2").today(0, 1), 1);
        Due.is("second", Due.in(PAIR, "late 1 if 1=2;late 2;late 3").today(0, 1), 2);
        Due.is("third", Due.in(PAIR, "late 1 if 1=2;late 2 if 1=2;late 3 if 1=1;late 4").today(0, 1), 3);
        Due.is("0 without", Due.in(PAIR, "late 9 if 1=2;late 8 if 2=1").today(0, 1), 0);
    }

    static void p09_withoutARuleByTheirHabit() {
        LateAlways x = Due.in("town 0 60 99;person 0 20;person 80 20;meet 0 1 100 10");
        Due.is("least", x.today(0, 1), -20);
        Due.is("most", x.today(0, 2), 60);
    }

    // ---- 9: day: who comes when

    static void p09_lessWhatTheClockIsFast() {
        LateAlways x = Due.in("town 0 60 99;person 20 40;person 20 0;meet 0 1 100 10");
        Due.is("fast by 20", x.today(0, 1), -20);
        Due.is("slow by 20", x.today(0, 2), 20);
        Due.is("waited", x.today(0, 3), 40);
        // ahead of minute 0, too
        LateAlways y = Due.in("town 0 60 99;person 0 40;person 0 40;meet 0 1 0 10");
        Due.is("begins", y.today(0, 0), -40);
    }

    static void p09_notBeforeTheEndOfTheirMeetingAheadOfIt() {
        String town = "town 0 60 99;person 20 20;person 20 20;person 20 20;meet 0 1 100 10;meet 0 2 ";
        Due.is("asked for ahead of the end", Due.in(town + "109 5").today(1, 1), 1);
        Due.is("at the end", Due.in(town + "110 5").today(1, 1), 0);
        Due.is("behind the end", Due.in(town + "111 5").today(1, 1), 0);
        LateAlways x = Due.in(town + "109 5");
        Due.is("the other one is not held up", x.today(1, 2), 0);
        Due.is("begins", x.today(1, 0), 110);
        // who means to come behind the end is not held up by it
        LateAlways y = Due.in(town + "109 5", "late 7 if meeting=1");
        Due.is("late", y.today(1, 1), 7);
    }

    static void p09_theEndOfYesterdayHoldsNobodyUp() {
        LateAlways x = Due.in("town 0 60 99;person 20 20;person 20 20;meet 0 1 600 60;meet 0 1 0 1");
        x.day();
        Due.is("begins", x.today(1, 0), 0);
    }

    static void p09_moreThanPatienceBehindTheyMiss() {
        String town = "person 20 20;person 50 20;meet 0 1 100 10";
        LateAlways held = Due.in("town 0 60 30;" + town);
        Due.is("30 of 30", held.today(0, 0), 130);
        Due.is("waited", held.today(0, 3), 30);
        Due.is("end", held.ends(0), 140);
        Due.is("end", held.ends(1), 140);
        LateAlways missed = Due.in("town 0 60 29;" + town);
        Due.is("30 of 29", missed.today(0, 0), -1);
        Due.is("waited", missed.today(0, 3), 29);
        Due.is("who waited in vain", missed.ends(0), 129);
        Due.is("who came too late", missed.ends(1), 130);
        Due.is("30 of 31", Due.in("town 0 60 31;" + town).today(0, 0), 130);
        // and the other way round
        LateAlways turned = Due.in("town 0 60 29;person 50 20;person 20 20;meet 0 1 100 10");
        Due.is("30 of 29", turned.today(0, 0), -1);
        Due.is("who came too late", turned.ends(0), 130);
        Due.is("who waited in vain", turned.ends(1), 129);
        turned.day();
        Due.is("waited by the second", turned.person(1, 5), 29);
        Due.is("not by the first", turned.person(0, 5), 0);
    }

    static void p09_patience1And99() {
        Due.is("1 of 1", Due.in("town 0 60 1;person 20 20;person 21 20;meet 0 1 0 1").day(), 0);
        Due.is("2 of 1", Due.in("town 0 60 1;person 20 20;person 22 20;meet 0 1 0 1").day(), 1);
        String town = "town 0 60 99;person 20 20;person 20 20;meet 0 1 0 1";
        Due.is("99 of 99", Due.in(town, "late 99*person").day(), 0);
        Due.is("100 of 99", Due.in(town, "late 100*person").day(), 1);
    }

    static void p09_atOneMinuteNobodyWaits() {
        LateAlways x = Due.in("town 0 60 1;person 30 20;person 40 30;meet 0 1 100 60");
        Due.is("begins", x.today(0, 0), 110);
        Due.is("waited", x.today(0, 3), 0);
        Due.is("end", x.ends(0), 170);
    }

    // ---- 9: day: fines and clocks

    static void p09_fineBelowLeastAndAboveMost() {
        LateAlways x = Due.in("town 10 20 99;fine 2 3;person 29 20;person 30 20;person 40 20;person 41 20;"
                + "meet 0 1 100 1;meet 2 3 100 1");
        x.day();
        int[] fines = {2, 0, 0, 3};
        int[] clocks = {-1, 0, 0, 1};
        for (int p = 0; p < 4; p++) {
            Due.is("fines " + p, x.person(p, 4), fines[p]);
            Due.is("clock " + p, x.person(p, 1), clocks[p]);
        }
    }

    static void p09_fineByHowLateTheyWereNotByWhatTheyMeant() {
        // both mean 15, within the law; a clock fast by 6 makes it 9, one slow by 6 makes it 21
        LateAlways x = Due.in("town 10 20 99;person 35 26;person 35 14;meet 0 1 100 1");
        x.day();
        Due.is("early", x.person(0, 4), 1);
        Due.is("over", x.person(1, 4), 1);
    }

    static void p09_whoMissesHasAFineToo() {
        LateAlways x = Due.in("town 10 20 5;fine 2 3;person 20 20;person 80 20;meet 0 1 100 1");
        Due.is("missed", x.day(), 1);
        Due.is("early", x.person(0, 4), 2);
        Due.is("over", x.person(1, 4), 3);
    }

    static void p09_whoIsExemptHasNone() {
        LateAlways x = Due.in("town 10 20 99;fine 2 3;person 20 20;person 80 20;exempt 0;exempt 1;meet 0 1 100 1");
        x.day();
        Due.is("fines", x.count(9), 0);
        Due.is("clock", x.person(0, 1), 0);
        Due.is("clock", x.person(1, 1), 0);
        x.let(0);
        x.day();
        Due.is("fines of 0 from then on", x.person(0, 4), 2);
        Due.is("clock", x.person(0, 1), -1);
        Due.is("1 has none still", x.person(1, 4), 0);
    }

    static void p09_clocksByFinesOf0Too() {
        LateAlways x = Due.in("town 10 20 99;fine 0 0;person 20 20;person 80 20;meet 0 1 100 1");
        x.day();
        Due.is("early", x.person(0, 1), -1);
        Due.is("over", x.person(1, 1), 1);
        Due.is("no fines", x.count(9), 0);
    }

    static void p09_earlyAsOftenAsOver() {
        // early at 100; the end at 160 makes it over at 130
        LateAlways x = Due.in("town 10 20 99;person 20 20;person 20 20;meet 0 1 100 60;meet 0 1 130 1");
        x.day();
        Due.is("clock", x.person(0, 1), 0);
        Due.is("fines", x.person(0, 4), 2);
    }

    static void p09_moreOftenIsOneMinuteNotMore() {
        // over at 130 and at 140, early at 100 only
        LateAlways x = Due.in("town 10 20 99;person 20 20;person 20 20;meet 0 1 100 60;meet 0 1 130 1;meet 0 1 140 1");
        x.day();
        Due.is("over twice, early once", x.person(0, 1), 1);
        Due.is("fines", x.person(0, 4), 3);
        LateAlways y = Due.in("town 10 20 99;person 20 20;person 60 20;meet 0 1 100 1;meet 0 1 200 1;meet 0 1 300 1");
        y.day();
        Due.is("early three times", y.person(0, 1), -1);
        Due.is("over three times", y.person(1, 1), 1);
        // 0 is early at 100 and at 110, over at 140 as it ends at 180; 1 is in time twice
        LateAlways z = Due.in("town 10 20 99;person 20 20;person 30 20;meet 0 1 100 1;meet 0 1 110 60;meet 0 1 140 1");
        z.day();
        Due.is("early twice, over once", z.person(0, 1), -1);
        Due.is("over once", z.person(1, 1), 1);
    }

    static void p09_clocksAreHeldToMinus20And20() {
        int[][] early = {{0, -20}, {1, -20}, {2, -19}};
        for (int[] clock : early) {
            LateAlways x = Due.in("town 50 60 99;person 20 " + clock[0] + ";person 70 20;meet 0 1 0 1");
            x.day();
            Due.is("slow by " + (20 - clock[0]), x.person(0, 1), clock[1]);
        }
        int[][] over = {{40, 20}, {39, 20}, {38, 19}};
        for (int[] clock : over) {
            LateAlways x = Due.in("town 0 1 99;person 80 " + clock[0] + ";person 20 20;meet 0 1 0 1");
            x.day();
            Due.is("fast by " + (clock[0] - 20), x.person(0, 1), clock[1]);
        }
    }

    static void p09_clocksAreSetBehindTheLastMeeting() {
        LateAlways x = Due.in("town 10 20 99;person 20 20;person 20 20;meet 0 1 100 1;meet 0 1 300 1", "late clock*10");
        Due.is("late in the second one", x.today(1, 1), 0);
        x.day();
        Due.is("a day later, clock -1", x.today(0, 1), -10 + 1);
    }

    static void p09_dayIsOneMore() {
        LateAlways x = Due.in(PAIR, "late day*2");
        for (int day = 0; day < 4; day++) {
            Due.is("day", x.count(7), day);
            Due.is("late", x.today(0, 1), day * 2);
            x.day();
        }
    }

    // ---- 10: ask

    static void p10_minutesFrom0To600() {
        LateAlways x = Due.in(EIGHT);
        Due.is("ask 600", x.ask(0, 600), 0);
        Due.is("it is", x.meeting(0, 2), 600);
        Due.is("ask 0", x.ask(0, 0), 600);
        Due.is("it is", x.meeting(0, 2), 0);
        Due.is("acts", x.count(12), 2);
        int[] none = {-1, 601, 1000, Integer.MIN_VALUE, Integer.MAX_VALUE};
        for (int minute : none) {
            Due.is("ask " + minute, x.ask(0, minute), -1);
        }
        Due.is("acts", x.count(12), 2);
        Due.is("it is", x.meeting(0, 2), 0);
    }

    static void p10_anotherMinuteThanItIs() {
        LateAlways x = Due.in(PAIR);
        Due.is("as it is", x.ask(0, 100), -1);
        Due.is("no act", x.count(12), 0);
        Due.is("one more", x.ask(0, 101), 100);
        Due.is("as it is now", x.ask(0, 101), -1);
        Due.is("as the text told it", x.ask(0, 100), 101);
        Due.is("acts", x.count(12), 2);
    }

    static void p10_theLeastAndTheMostMeeting() {
        LateAlways x = Due.in(EIGHT);
        Due.is("ask(7, ..)", x.ask(7, 70), 7);
        Due.is("ask(8, ..)", x.ask(8, 70), -1);
        for (int meeting : FAR) {
            Due.is("ask(" + meeting + ", 70)", x.ask(meeting, 70), -1);
        }
        Due.is("acts", x.count(12), 1);
        Due.is("another one stays", x.meeting(6, 2), 6);
    }

    static void p10_nothingHappensWhenRefused() {
        Due.nothingHappens("ask", EdgesOfTexts::busy, x -> {
            x.ask(0, 70);
            x.ask(0, -1);
            x.ask(1, 601);
            x.ask(2, 5);
            x.ask(-1, 5);
        });
    }

    // ---- 11: set

    static void p11_clocksFromMinus20To20() {
        LateAlways x = Due.in(PAIR);
        Due.is("set 20", x.set(0, 20), 0);
        Due.is("it is", x.person(0, 1), 20);
        Due.is("set -20", x.set(0, -20), 20);
        Due.is("it is", x.person(0, 1), -20);
        Due.is("set -19", x.set(0, -19), -20);
        int[] none = {-21, 21, 40, Integer.MIN_VALUE, Integer.MAX_VALUE};
        for (int clock : none) {
            Due.is("set " + clock, x.set(0, clock), -1000);
        }
        Due.is("acts", x.count(12), 3);
        Due.is("it is", x.person(0, 1), -19);
    }

    static void p11_anotherClockThanItIs() {
        LateAlways x = Due.in(PAIR);
        Due.is("as it is", x.set(0, 0), -1000);
        Due.is("no act", x.count(12), 0);
        Due.is("one more", x.set(0, 1), 0);
        Due.is("as it is now", x.set(0, 1), -1000);
        Due.is("another one's stays", x.person(1, 1), 0);
    }

    static void p11_theLeastAndTheMostPerson() {
        LateAlways x = Due.in(FIVE);
        Due.is("set(0, ..)", x.set(0, 3), -20);
        Due.is("set(4, ..)", x.set(4, 3), 1);
        Due.is("set(5, ..)", x.set(5, 3), -1000);
        for (int person : FAR) {
            Due.is("set(" + person + ", 3)", x.set(person, 3), -1000);
        }
        Due.is("acts", x.count(12), 2);
    }

    static void p11_nothingHappensWhenRefused() {
        Due.nothingHappens("set", EdgesOfTexts::busy, x -> {
            x.set(0, x.person(0, 1));
            x.set(0, 21);
            x.set(0, -21);
            x.set(3, 0);
            x.set(-1, 0);
        });
    }

    // ---- 12: let

    static void p12_exemptThenNotAnyMore() {
        LateAlways x = Due.in(FIVE);
        Due.is("let(0)", x.let(0), 1);
        Due.is("who", x.count(8), 1 + 2 + 16);
        Due.is("let(0)", x.let(0), 0);
        Due.is("who", x.count(8), 2 + 16);
        Due.is("let(1), who was told exempt", x.let(1), 0);
        Due.is("who", x.count(8), 16);
        Due.is("acts", x.count(12), 3);
    }

    static void p12_theLeastAndTheMostPerson() {
        LateAlways x = Due.in(FIVE);
        Due.is("let(4)", x.let(4), 0);
        Due.is("let(5)", x.let(5), -1);
        for (int person : FAR) {
            Due.is("let(" + person + ")", x.let(person), -1);
        }
        Due.is("acts", x.count(12), 1);
        Due.is("who", x.count(8), 2);
        Due.is("nobody", Due.in("town 0 1 1").let(0), -1);
    }

    static void p12_nothingHappensWhenRefused() {
        Due.nothingHappens("let", EdgesOfTexts::busy, x -> {
            x.let(3);
            x.let(-1);
            x.let(32);
        });
    }

    // ---- 13: undo

    static void p13_noneCan() {
        Due.is("anew", new LateAlways().undo(), -2);
        LateAlways x = Due.in(PAIR);
        Due.is("in a town", x.undo(), -2);
        x.ask(0, 5);
        Due.is("one", x.undo(), 0);
        Due.is("none more", x.undo(), -2);
        Due.is("as the text told it", x.meeting(0, 2), 100);
        Due.nothingHappens("undo of none", y -> {
            EdgesOfTexts.busy(y);
            for (int i = 0; i < 5; i++) {
                y.undo();
            }
        }, LateAlways::undo);
    }

    static void p13_theLast20() {
        LateAlways x = Due.in(PAIR);
        for (int act = 1; act <= 21; act++) {
            x.ask(0, act);
            Due.is("can be undone", x.count(12), Math.min(20, act));
        }
        for (int left = 19; left >= 0; left--) {
            Due.is("undo", x.undo(), left);
            Due.is("can be undone", x.count(12), left);
            Due.is("minute", x.meeting(0, 2), left + 1);
        }
        // the first of 21 can't be
        Due.is("none more", x.undo(), -2);
        Due.is("minute", x.meeting(0, 2), 1);
    }

    static void p13_exactly20() {
        LateAlways x = Due.in(PAIR);
        for (int act = 1; act <= 20; act++) {
            x.ask(0, act);
        }
        for (int left = 19; left >= 0; left--) {
            Due.is("undo", x.undo(), left);
        }
        Due.is("as the text told it", x.meeting(0, 2), 100);
    }

    static void p13_aroundMoreThanOnce() {
        LateAlways x = Due.in(PAIR);
        for (int act = 1; act <= 65; act++) {
            x.ask(0, act);
        }
        for (int left = 19; left >= 10; left--) {
            Due.is("undo", x.undo(), left);
        }
        Due.is("minute", x.meeting(0, 2), 55);
        for (int act = 1; act <= 13; act++) {
            x.ask(0, 200 + act);
        }
        Due.is("can be undone", x.count(12), 20);
        for (int left = 19; left >= 0; left--) {
            Due.is("undo", x.undo(), left);
            Due.is("minute", x.meeting(0, 2), left > 7 ? 200 + left - 7 : left + 48);
        }
        Due.is("none more", x.undo(), -2);
    }

    static void p13_eachKindOfActTheLastFirst() {
        LateAlways x = Due.in("town 10 20 5;fine 2 3;person 20 20;person 80 20;meet 0 1 100 1");
        x.day();
        x.ask(0, 77);
        x.set(1, -3);
        x.let(0);
        Due.is("undo let", x.undo(), 3);
        Due.is("exempt", x.person(0, 2), 0);
        Due.is("clock stays", x.person(1, 1), -3);
        Due.is("undo set", x.undo(), 2);
        Due.is("clock as by guilt", x.person(1, 1), 1);
        Due.is("minute stays", x.meeting(0, 2), 77);
        Due.is("undo ask", x.undo(), 1);
        Due.is("minute", x.meeting(0, 2), 100);
        Due.is("day stays", x.count(7), 1);
        Due.is("undo day", x.undo(), 0);
        Due.is("day", x.count(7), 0);
        Due.is("clock", x.person(0, 1), 0);
        Due.is("late last", x.person(1, 3), 60);
        Due.is("fines", x.count(9), 0);
        Due.is("waited", x.count(10), 0);
        Due.is("missed", x.meeting(0, 5), 0);
    }

    static void p13_whatIsNoActStays() {
        LateAlways x = Due.in(PAIR);
        x.day();
        x.seed(5);
        x.log(3, 0, 7);
        Texts.rule(x, "late 4");
        x.force(0);
        x.feed(0, 0, 0, 0, 0);
        Due.is("undo", x.undo(), 0);
        int[] counts = {0, 60, 99, 2, 1, 1, 0, 0, 0, 0, 0, 1, 0, 5, 20};
        for (int what = 0; what < 15; what++) {
            Due.is("count(" + what + ")", x.count(what), counts[what]);
        }
    }
}
