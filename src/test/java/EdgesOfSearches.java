/** Promises 18 to 22, 24 to 28 and 30: what is best, what comes again, whose habit it was, and years drawn. */
final class EdgesOfSearches {
    private static final int[] FAR = {Integer.MIN_VALUE, -1000, -2, -1, 64, 256, 1000, Integer.MAX_VALUE};
    private static final int[] NO_SPANS = {Integer.MIN_VALUE, -1, 0, 21, 100, Integer.MAX_VALUE};
    private static final String PAIR = "town 0 60 99;person 20 20;person 20 20;meet 0 1 100 10";
    private static final String EIGHT = "town 0 60 99;person 20 20;person 20 20" + ";meet 0 1 40 1".repeat(8);
    private static final String NO_MEETINGS = "town 0 60 99;person 20 20;person 20 20";

    private EdgesOfSearches() {
    }

    private static String pairAt(int minute) {
        return "town 0 60 99;person 20 20;person 20 20;meet 0 1 " + minute + " 10";
    }

    // ---- 18: minute

    static void p18_60AheadTo60Behind() {
        // who comes second is as late as the minute is far from the one that is best
        Due.is("60 ahead", Due.in(PAIR, "late asked-40 if person=1").minute(0, 0), 40);
        LateAlways ahead = Due.in(PAIR, "late asked-39 if person=1");
        Due.is("61 ahead is not looked at", ahead.minute(0, 0), 40);
        Due.is("costs", ahead.minute(0, 2), 1);
        Due.is("60 behind", Due.in(PAIR, "late 160-asked if person=1").minute(0, 0), 160);
        LateAlways behind = Due.in(PAIR, "late 161-asked if person=1");
        Due.is("61 behind is not looked at", behind.minute(0, 0), 160);
        Due.is("costs", behind.minute(0, 2), 1);
    }

    static void p18_from0() {
        LateAlways x = Due.in(pairAt(59), "late asked+7 if person=1");
        Due.is("0, though 60 ahead is below it", x.minute(0, 0), 0);
        Due.is("costs", x.minute(0, 2), 7);
        Due.is("of 60", Due.in(pairAt(60), "late asked+7 if person=1").minute(0, 0), 0);
        Due.is("of 61", Due.in(pairAt(61), "late asked+7 if person=1").minute(0, 0), 1);
        Due.is("60 behind 0", Due.in(pairAt(0), "late 70-asked if person=1").minute(0, 0), 60);
    }

    static void p18_to600() {
        LateAlways x = Due.in(pairAt(541), "late 607-asked if person=1");
        Due.is("600, though 60 behind is above it", x.minute(0, 0), 600);
        Due.is("costs", x.minute(0, 2), 7);
        Due.is("of 540", Due.in(pairAt(540), "late 607-asked if person=1").minute(0, 0), 600);
        Due.is("of 539", Due.in(pairAt(539), "late 607-asked if person=1").minute(0, 0), 599);
        Due.is("60 ahead of 600", Due.in(pairAt(600), "late asked-530 if person=1").minute(0, 0), 540);
    }

    static void p18_fewestMissedThenLeastCostsThenLeastMinute() {
        // at 100 both are over: 3, 3 and a minute waited; else they miss each other, which costs 2 and 3
        LateAlways x = Due.in("town 0 9 2;fine 0 3;person 20 20;person 20 20;meet 0 1 60 5",
                "late 12 if asked=100 and person=0;late 11 if asked=100;late 60*person");
        Due.is("which", x.minute(0, 0), 100);
        Due.is("missed", x.minute(0, 1), 0);
        Due.is("costs", x.minute(0, 2), 7);
        LateAlways y = Due.in(PAIR, "late 5*person if asked<90");
        Due.is("least costs", y.minute(0, 0), 90);
        Due.is("costs", y.minute(0, 2), 0);
        Due.is("all alike", Due.in(PAIR).minute(0, 0), 40);
    }

    static void p18_theMinuteAsItIsToo() {
        LateAlways x = Due.in(PAIR, "late 50*person if not asked=100");
        Due.is("which", x.minute(0, 0), 100);
        Due.is("costs", x.minute(0, 2), 0);
    }

    static void p18_missedOfAllMeetings() {
        // 1 is with 0 until 110 + 60 at the earliest: 2 has no patience for that unless 0 is asked for late
        LateAlways x = Due.in("town 0 60 5;person 20 20;person 20 20;person 20 20;meet 0 1 110 60;meet 0 2 120 10");
        Due.is("missed as it is", x.today(1, 0), -1);
        Due.is("ahead of it", x.minute(0, 0), 50);
        Due.is("missed", x.minute(0, 1), 0);
        LateAlways y = Due.in("town 0 60 5;person 20 20;person 70 20" + ";meet 0 1 100 1".repeat(3));
        Due.is("all three", y.minute(1, 1), 3);
    }

    static void p18_theLeastAndTheMostMeetingAndWhat() {
        LateAlways x = Due.in(EIGHT);
        Due.is("minute(7, 0)", x.minute(7, 0), 0);
        Due.is("minute(8, 0)", x.minute(8, 0), -1);
        Due.is("what 3", x.minute(0, 3), -1);
        for (int far : FAR) {
            Due.is("minute(" + far + ", 0)", x.minute(far, 0), -1);
            Due.is("minute(0, " + far + ")", x.minute(0, far), -1);
        }
    }

    static void p18_ofAMeetingThatIsNotTheFirst() {
        LateAlways x = Due.in("town 0 60 99;person 20 20;person 20 20;meet 0 1 10 1;meet 0 1 300 1;meet 0 1 500 1",
                "late 300-asked if meeting=1 and person=1 and asked<300;late asked-300 if meeting=1 and person=1");
        Due.is("as it is", x.minute(1, 0), 300);
        x.ask(1, 360);
        Due.is("60 ahead", x.minute(1, 0), 300);
        x.ask(1, 361);
        Due.is("61 ahead is not looked at", x.minute(1, 0), 301);
    }

    static void p18_nothingChanges() {
        Due.nothingHappens("minute", EdgesOfTexts::busy, x -> {
            x.minute(0, 0);
            x.minute(1, 2);
        });
    }

    // ---- 19: leave

    static void p19_thereIsNone() {
        LateAlways x = Due.in(NO_MEETINGS);
        Due.is("which", x.leave(0), -2);
        Due.is("costs", x.leave(1), -2);
    }

    static void p19_theOnlyOne() {
        LateAlways x = Due.in(PAIR, "late person*9");
        Due.is("which", x.leave(0), 0);
        Due.is("costs", x.leave(1), 0);
    }

    static void p19_theLeastCostsOfSeveralTheLeast() {
        Due.is("all alike", Due.in(EIGHT).leave(0), 0);
        // 9 minutes are waited in 2 and in 3 each, 4 in 1
        LateAlways x = Due.in("town 0 60 99;person 20 20;person 20 20;meet 0 1 0 1;meet 0 1 100 1;meet 0 1 200 1;"
                + "meet 0 1 300 1", "late 4*person if meeting=1;late 9*person if meeting>1");
        Due.is("which", x.leave(0), 2);
        Due.is("costs", x.leave(1), 13);
        Due.is("the last of eight", Due.in(EIGHT, "late 9*person if meeting=7").leave(0), 7);
    }

    static void p19_withoutItOthersGoOtherwise() {
        // held up by 0, person 0 comes to 1 together with 2; without it it waits
        LateAlways x = Due.in("town 0 60 99;person 20 20;person 20 20;person 30 20;meet 0 1 100 10;meet 0 2 100 10");
        Due.is("which", x.leave(0), 1);
        Due.is("costs", x.leave(1), 0);
    }

    static void p19_otherWhatsOrWithoutATown() {
        LateAlways x = Due.in(PAIR);
        Due.is("what 2", x.leave(2), -1);
        for (int what : FAR) {
            Due.is("what " + what, x.leave(what), -1);
        }
        Due.is("without a town", new LateAlways().leave(0), -1);
    }

    static void p19_nothingChanges() {
        Due.nothingHappens("leave", EdgesOfTexts::busy, x -> x.leave(0));
    }

    // ---- 20: rests

    static void p20_from0To60By10() {
        // none is fined who means 60 alone
        LateAlways x = Due.in("town 59 60 99;person 20 20;person 20 20;meet 0 1 100 10");
        Due.is("how many", x.rests(0, 0), 1);
        Due.is("first", x.rests(0, 1), 60);
        Due.is("second", x.rests(0, 2), 60);
        // with nobody fined: where both come at once
        LateAlways y = Due.in("town 59 60 99;person 20 20;person 20 20;exempt 0;exempt 1;meet 0 1 100 10");
        Due.is("how many", y.rests(0, 0), 7);
        Due.is("first", y.rests(0, 1), 0);
        Due.is("second", y.rests(0, 2), 0);
    }

    static void p20_by0Too() {
        // who means 0 waits a minute at most, who means more is fined 9
        LateAlways x = Due.in("town 0 1 1;fine 9 9;person 20 20;person 20 20;meet 0 1 100 10");
        Due.is("how many", x.rests(0, 0), 1);
        Due.is("first", x.rests(0, 1), 0);
        Due.is("second", x.rests(0, 2), 0);
    }

    static void p20_whichIsTheFirstOnesAndWhichTheSecondOnes() {
        // the clock of 1 is fast by 10: (10, 20), (20, 30), .. (50, 60), and (60, 60), as 1 can't come later
        LateAlways x = Due.in("town 5 15 20;fine 2 3;person 20 20;person 20 30;meet 0 1 100 10");
        Due.is("how many", x.rests(0, 0), 6);
        Due.is("first", x.rests(0, 1), 10);
        Due.is("second", x.rests(0, 2), 20);
    }

    static void p20_thereIsNone() {
        LateAlways x = Due.in("town 10 31 2;person 20 20;person 20 26;meet 0 1 84 32");
        Due.is("how many", x.rests(0, 0), 0);
        Due.is("first", x.rests(0, 1), -2);
        Due.is("second", x.rests(0, 2), -2);
    }

    static void p20_allTwosRest() {
        // 0 is held up until 220: 2 waits 5 minutes in vain whatever both mean
        LateAlways x = Due.in("town 0 60 5;person 80 20;person 80 20;person 20 20;meet 0 1 100 60;meet 0 2 100 9");
        Due.is("how many", x.rests(1, 0), 49);
        Due.is("first", x.rests(1, 1), 0);
        Due.is("second", x.rests(1, 2), 0);
    }

    static void p20_theFirstByTheFirstOneThenTheSecond() {
        // a clock that is fast by 20: (20, 0), (30, 10), .. (60, 40); by 50 and 60 of the second one 60 is still best
        LateAlways x = Due.in("town 0 60 99;person 20 40;person 20 20;exempt 0;exempt 1;meet 0 1 100 10");
        Due.is("how many", x.rests(0, 0), 7);
        Due.is("first", x.rests(0, 1), 20);
        Due.is("second", x.rests(0, 2), 0);
    }

    static void p20_inThatMeetingAloneOthersAsEver() {
        // in meeting 0 they mean what the rule says, and it ends at 130; whoever means less comes then to 1
        LateAlways x = Due.in("town 0 60 99;person 20 20;person 20 20;exempt 0;exempt 1;meet 0 1 100 10;meet 0 1 100 10",
                "late 20");
        Due.is("how many", x.rests(1, 0), 16 + 3);
        Due.is("first", x.rests(1, 1), 0);
        Due.is("second", x.rests(1, 2), 0);
    }

    static void p20_theLeastAndTheMostMeetingAndWhat() {
        LateAlways x = Due.in(EIGHT);
        Due.is("rests(7, 0)", x.rests(7, 0) > 0 ? 1 : 0, 1);
        Due.is("rests(8, 0)", x.rests(8, 0), -1);
        Due.is("what 3", x.rests(0, 3), -1);
        for (int far : FAR) {
            Due.is("rests(" + far + ", 0)", x.rests(far, 0), -1);
            Due.is("rests(0, " + far + ")", x.rests(0, far), -1);
        }
    }

    static void p20_nothingChanges() {
        Due.nothingHappens("rests", EdgesOfTexts::busy, x -> x.rests(1, 0));
    }

    // ---- 21: again

    static void p21_atOnce() {
        LateAlways x = Due.in(NO_MEETINGS);
        Due.is("day", x.again(0), 1);
        Due.is("how many", x.again(1), 1);
        x.day();
        x.day();
        Due.is("from day 2 on", x.again(0), 3);
        Due.is("how many", x.again(1), 1);
        Due.is("nobody at all", Due.in("town 0 1 1").again(0), 1);
    }

    static void p21_100DaysAreLookedAt() {
        String town = "town 0 60 99;person 20 20;person 20 20;exempt 0;exempt 1;meet 0 1 0 1";
        LateAlways last = Due.in(town, "late day+1 if day<98;late 98");
        Due.is("day 99 is as day 98", last.again(0), 99);
        Due.is("how many", last.again(1), 1);
        LateAlways beyond = Due.in(town, "late day+1 if day<99;late 99");
        Due.is("day 100 is as day 99", beyond.again(0), -2);
        Due.is("how many", beyond.again(1), -2);
        beyond.day();
        Due.is("a day later it is looked at", beyond.again(0), 100);
        LateAlways round = Due.in(town, "late day+1 if day<98;late 1");
        Due.is("day 99 is as day 1", round.again(0), 99);
        Due.is("how many", round.again(1), 98);
    }

    static void p21_thisDayIsTheFirst() {
        // late 0 last ahead of day 0 by habit; each third day it is so once more
        String town = "town 0 60 99;person 20 20;person 20 20;exempt 0;exempt 1;meet 0 1 0 1";
        LateAlways x = Due.in(town, "late 1 if day%3=0;late 2 if day%3=1;late 0");
        Due.is("day", x.again(0), 3);
        Due.is("how many", x.again(1), 3);
        x.day();
        Due.is("day", x.again(0), 4);
        Due.is("how many", x.again(1), 3);
    }

    static void p21_allClocksCount() {
        // late 5 each day, which is early; the clock of 0 goes back until it is slow by 20, ahead of day 20
        LateAlways x = Due.in("town 10 20 99;person 25 20;person 25 20;exempt 1;meet 0 1 100 10", "late clock+5");
        Due.is("day", x.again(0), 21);
        Due.is("how many", x.again(1), 1);
        Due.is("day of the other one alone", Due.in("town 10 20 99;person 25 20;person 25 0;exempt 0;meet 0 1 100 10",
                "late clock+5").again(0), 1);
    }

    static void p21_allThatWasLateLastCounts() {
        // 1 is later by a minute each day, 0 is not
        LateAlways x = Due.in("town 0 60 99;person 20 20;person 20 20;meet 0 1 0 1", "late day/4*person");
        // ahead of days 0 to 4 both were late 0
        Due.is("day", x.again(0), 1);
        LateAlways y = Due.in("town 0 60 99;person 20 20;person 20 20;meet 0 1 0 1", "late person*day if day<9;late 8*person");
        Due.is("day, 0 ahead of days 0 and 1", y.again(0), 1);
        y.day();
        Due.is("from day 1 on: 8 ahead of days 9 and 10", y.again(0), 10);
    }

    static void p21_otherWhatsOrWithoutATown() {
        LateAlways x = Due.in(PAIR);
        Due.is("what 2", x.again(2), -1);
        for (int what : FAR) {
            Due.is("what " + what, x.again(what), -1);
        }
        Due.is("without a town", new LateAlways().again(0), -1);
    }

    static void p21_nothingChanges() {
        Due.nothingHappens("again", EdgesOfTexts::busy, x -> x.again(0));
    }

    // ---- 22: law

    static void p22_daysFrom1To20() {
        // 0 waits 3 minutes each day whatever the law, as both are exempt and no clock is set
        LateAlways x = Due.in(PAIR + ";exempt 0;exempt 1", "late 3*person");
        Due.is("1 day", x.law(1, 2), 3);
        Due.is("20 days", x.law(20, 2), 60);
        for (int n : NO_SPANS) {
            Due.is(n + " days", x.law(n, 2), -1);
        }
    }

    static void p22_theLeastAndTheMostLaw() {
        // by their words rules go by the law that is tried; all others are broken by 30
        String town = "town 0 60 99;fine 9 9;person 20 20;person 20 20;meet 0 1 100 10";
        int[][] laws = {{0, 10, 5}, {0, 60, 5}, {10, 10, 10}, {50, 50, 50}, {50, 60, 55}, {20, 40, 30}};
        for (int[] law : laws) {
            LateAlways x = Due.in(town, "late " + law[2] + " if least=" + law[0] + " and most=" + law[1] + ";late 0-30");
            Due.is("least of " + law[0] + " to " + law[1], x.law(1, 0), law[0]);
            Due.is("most of " + law[0] + " to " + law[1], x.law(1, 1), law[1]);
            Due.is("costs of " + law[0] + " to " + law[1], x.law(1, 2), 0);
        }
        int[][] noLaws = {{60, 60}, {5, 15}, {20, 10}, {0, 0}, {0, 70}};
        for (int[] law : noLaws) {
            LateAlways x = Due.in(town, "late 0-30 if not [least=" + law[0] + " and most=" + law[1] + "];late 60");
            Due.is(law[0] + " to " + law[1] + " is not looked at", x.law(1, 2), 18);
        }
    }

    static void p22_ofSeveralTheFirstByLeastThenMost() {
        LateAlways x = Due.in(PAIR);
        Due.is("least", x.law(5, 0), 0);
        Due.is("most", x.law(5, 1), 10);
        // late 20 is within 0 to 20 first, then 0 to 30, .., 10 to 20
        LateAlways y = Due.in("town 0 60 99;person 40 20;person 40 20;meet 0 1 100 10");
        Due.is("least", y.law(5, 0), 0);
        Due.is("most", y.law(5, 1), 20);
        LateAlways z = Due.in(NO_MEETINGS);
        Due.is("least", z.law(1, 0), 0);
        Due.is("most", z.law(1, 1), 10);
        Due.is("costs", z.law(1, 2), 0);
    }

    static void p22_otherWhatsOrWithoutATown() {
        LateAlways x = Due.in(PAIR);
        Due.is("what 3", x.law(1, 3), -1);
        for (int what : FAR) {
            Due.is("what " + what, x.law(1, what), -1);
        }
        Due.is("without a town", new LateAlways().law(1, 0), -1);
    }

    static void p22_nothingChanges() {
        Due.nothingHappens("law", EdgesOfTexts::busy, x -> x.law(20, 0));
    }

    // ---- 24: habit

    static void p24_withoutLogsAllNine() {
        LateAlways x = Due.in(PAIR);
        Due.is("how many", x.habit(0, 0), 9);
        Due.is("the first", x.habit(0, 1), -20);
    }

    static void p24_theLeastAndTheMostHabit() {
        int[] habits = {-20, -10, 0, 50, 60};
        for (int habit : habits) {
            LateAlways x = Due.in(PAIR);
            x.log(0, 0, habit);
            Due.is("how many of " + habit, x.habit(0, 0), 1);
            Due.is("the first of " + habit, x.habit(0, 1), habit);
        }
        int[] none = {-30, -19, 5, 70};
        for (int habit : none) {
            LateAlways x = Due.in(PAIR);
            x.log(0, 0, habit);
            Due.is("how many of " + habit, x.habit(0, 0), 0);
            Due.is("the first of " + habit, x.habit(0, 1), -100);
        }
    }

    static void p24_behindTheDay0To30() {
        // late by the habit on day n alone, else 0
        for (int n = 0; n <= 30; n += 10) {
            LateAlways x = Due.in("town 0 60 99;person 20 20;person 20 20;exempt 0;meet 0 1 100 10", "late habit if day=" + n);
            x.log(n, 0, 40);
            Due.is("behind day " + n, x.habit(0, 0), 1);
            Due.is("the first", x.habit(0, 1), 40);
            x.log(-1, 0, 0);
            x.log(n == 30 ? 29 : n + 1, 0, 0);
            Due.is("behind another day", x.habit(0, 0), 9);
        }
    }

    static void p24_allLogsOfTheirsMustBeSo() {
        LateAlways x = Due.in("town 0 60 99;person 20 20;person 20 20;exempt 0;exempt 1;meet 0 1 100 10", "late habit/20");
        x.log(0, 0, 1);
        Due.is("20 and 30", x.habit(0, 0), 2);
        Due.is("the first", x.habit(0, 1), 20);
        for (int i = 0; i < 8; i++) {
            x.log(i, 0, 1);
        }
        Due.is("ten logs, nine of theirs", x.log(3, 1, 77), 10);
        Due.is("20 and 30", x.habit(0, 0), 2);
        Due.is("of the other one none", x.habit(1, 0), 0);
        x.log(-1, 0, 0);
        x.log(0, 0, 1);
        x.log(1, 0, 2);
        Due.is("the second is not so", x.habit(0, 0), 0);
    }

    static void p24_theirHabitWithoutMeetings() {
        LateAlways x = Due.in(NO_MEETINGS);
        x.log(30, 1, 60);
        Due.is("how many", x.habit(1, 0), 1);
        Due.is("the first", x.habit(1, 1), 60);
    }

    static void p24_fromTheBeginAllElseAsTheTextToldIt() {
        LateAlways x = Due.in("town 0 60 99;person 20 20;person 20 20;meet 0 1 100 60;meet 0 1 200 10");
        x.log(2, 0, 30);
        Due.is("how many", x.habit(0, 0), 1);
        Due.is("the first", x.habit(0, 1), 30);
        x.set(0, 9);
        x.ask(1, 100);
        x.let(0);
        x.day();
        x.day();
        Due.is("how many", x.habit(0, 0), 1);
        Due.is("the first", x.habit(0, 1), 30);
        // the habit that is tried is what they were late last ahead of their first meeting, too
        LateAlways y = Due.in("town 0 60 99;person 20 20;person 20 20;meet 0 1 100 10", "late mine");
        y.log(3, 0, 50);
        Due.is("how many", y.habit(0, 0), 1);
        Due.is("the first", y.habit(0, 1), 50);
    }

    static void p24_theLeastAndTheMostPersonAndWhat() {
        LateAlways x = Due.in(PAIR);
        Due.is("habit(1, 0)", x.habit(1, 0), 9);
        Due.is("habit(2, 0)", x.habit(2, 0), -1000);
        Due.is("what 2", x.habit(0, 2), -1000);
        for (int far : FAR) {
            Due.is("habit(" + far + ", 0)", x.habit(far, 0), -1000);
            Due.is("habit(0, " + far + ")", x.habit(0, far), -1000);
        }
    }

    static void p24_nothingChanges() {
        Due.nothingHappens("habit", EdgesOfTexts::busy, x -> x.habit(1, 1));
    }

    // ---- 25: door

    static void p25_daysFrom0To30() {
        String town = "town 0 60 99;person 20 20;person 20 20;exempt 0;exempt 1;meet 0 1 100 10";
        int[] days = {0, 1, 29, 30};
        for (int day : days) {
            LateAlways x = Due.in(town, "late habit if day=" + day);
            Due.is("day " + day, x.door(0, 0), day);
            Due.is("all apart", x.door(0, 1), 1);
        }
        LateAlways y = Due.in(town, "late habit if day=31");
        Due.is("31 is not looked at: of several the least", y.door(0, 0), 0);
        Due.is("all alike", y.door(0, 1), 9);
    }

    static void p25_theMostAlikeAreFewest() {
        String town = "town 0 60 99;person 20 20;person 20 20;exempt 0;exempt 1;meet 0 1 100 10";
        LateAlways x = Due.in(town, "late habit/30 if day=2;late habit/20+50 if day=5;late 7");
        // habit/30: -10 to 20 are 0, 30 to 50 are 1, 60 is 2, and -20 is 0 as well: 5 alike
        // habit/20: -1 is -20 alone, -10 to 10 are 0, then twos: 3 alike
        Due.is("day", x.door(0, 0), 5);
        Due.is("how many", x.door(0, 1), 3);
    }

    static void p25_onlyThoseThatFit() {
        String town = "town 0 60 99;person 20 20;person 20 20;exempt 0;exempt 1;meet 0 1 100 10";
        LateAlways x = Due.in(town, "late habit/20 if day=0;late habit if day=4;late 0");
        x.log(0, 0, 2);
        Due.is("40 and 50", x.habit(0, 0), 2);
        Due.is("day", x.door(0, 0), 4);
        Due.is("how many", x.door(0, 1), 1);
        x.log(4, 0, 50);
        Due.is("50 alone", x.habit(0, 0), 1);
        Due.is("of several the least", x.door(0, 0), 0);
        Due.is("how many", x.door(0, 1), 1);
        x.log(4, 0, 51);
        Due.is("there are none", x.door(0, 0), -2);
        Due.is("there are none", x.door(0, 1), -2);
    }

    static void p25_theLeastHabitAlone() {
        LateAlways x = Due.in(PAIR);
        x.log(0, 0, -20);
        Due.is("day", x.door(0, 0), 0);
        Due.is("how many", x.door(0, 1), 1);
        LateAlways y = Due.in(PAIR);
        y.log(0, 0, 60);
        Due.is("the most alone", y.door(0, 1), 1);
    }

    static void p25_withoutMeetings() {
        LateAlways x = Due.in(NO_MEETINGS);
        Due.is("day", x.door(0, 0), 0);
        Due.is("how many", x.door(0, 1), 1);
    }

    static void p25_theLeastAndTheMostPersonAndWhat() {
        LateAlways x = Due.in(PAIR);
        Due.is("door(1, 0)", x.door(1, 0), 0);
        Due.is("door(2, 0)", x.door(2, 0), -1);
        Due.is("what 2", x.door(0, 2), -1);
        for (int far : FAR) {
            Due.is("door(" + far + ", 0)", x.door(far, 0), -1);
            Due.is("door(0, " + far + ")", x.door(0, far), -1);
        }
    }

    static void p25_nothingChanges() {
        Due.nothingHappens("door", EdgesOfTexts::busy, x -> x.door(1, 1));
    }

    // ---- 26: clocks

    static void p26_daysFrom1To20() {
        // 0 comes 4 minutes ahead of 1 each day, by its clock; nobody is fined
        LateAlways x = Due.in("town 0 60 99;person 30 24;person 30 20;meet 0 1 100 10");
        Due.is("who", x.clocks(1, 0), 0);
        Due.is("costs", x.clocks(1, 1), 0);
        Due.is("who", x.clocks(20, 0), 0);
        Due.is("costs", x.clocks(20, 1), 0);
        LateAlways y = Due.in(PAIR, "late 3*person");
        Due.is("1 day", y.clocks(1, 1), 3);
        Due.is("20 days", y.clocks(20, 1), 60);
        for (int n : NO_SPANS) {
            Due.is(n + " days", x.clocks(n, 0), -2);
            Due.is(n + " days", x.clocks(n, 1), -2);
        }
    }

    static void p26_ofSeveralNoneThenTheLeast() {
        LateAlways good = Due.in(PAIR);
        Due.is("all are 0", good.clocks(5, 0), -1);
        // both are fast by 2, so none waits; set to 0, one of them would
        LateAlways both = Due.in("town 0 60 99;person 30 22;person 30 22;meet 0 1 100 10");
        Due.is("none", both.clocks(5, 0), -1);
        // who has no meeting costs nothing either way
        LateAlways idle = Due.in("town 0 60 99;person 30 22;person 30 20;person 30 20;meet 1 2 100 10");
        Due.is("none", idle.clocks(5, 0), -1);
        // 1 and 2 are fast by 2 and wait for 0 and 3: to set one is as good as to set the other
        LateAlways x = Due.in("town 0 60 99;person 30 20;person 30 22;person 30 22;person 30 20;meet 0 1 100 1;"
                + "meet 2 3 100 1");
        Due.is("the least", x.clocks(1, 0), 1);
        Due.is("costs", x.clocks(1, 1), 2);
    }

    static void p26_theMostPerson() {
        LateAlways x = Due.in("town 0 60 99" + ";person 30 20".repeat(4) + ";person 30 0;meet 3 4 100 10");
        Due.is("who", x.clocks(3, 0), 4);
        Due.is("costs", x.clocks(3, 1), 0);
    }

    static void p26_onlyClocksOfPeopleThereAre() {
        // it would cost less if 0 had been late 0 last, which no clock can do
        LateAlways x = Due.in("town 0 60 99;person 30 20" + ";person 20 20".repeat(4) + ";meet 0 1 100 10", "late mine");
        Due.is("none", x.clocks(1, 0), -1);
        Due.is("costs", x.clocks(1, 1), 10);
    }

    static void p26_otherWhatsOrWithoutATown() {
        LateAlways x = Due.in(PAIR);
        Due.is("what 2", x.clocks(1, 2), -2);
        for (int what : FAR) {
            Due.is("what " + what, x.clocks(1, what), -2);
        }
        Due.is("without a town", new LateAlways().clocks(1, 0), -2);
        LateAlways y = Due.in("town 0 1 1");
        Due.is("nobody", y.clocks(1, 0), -1);
        Due.is("costs", y.clocks(1, 1), 0);
    }

    static void p26_nothingChanges() {
        Due.nothingHappens("clocks", EdgesOfTexts::busy, x -> x.clocks(20, 0));
    }

    // ---- 27: pardon

    static void p27_daysFrom1To20() {
        // 0 is over and comes earlier by a minute each day until it is in time; 1 is exempt and does not
        LateAlways x = Due.in("town 0 10 99;person 50 20;person 50 20;exempt 1;meet 0 1 100 10");
        Due.is("1 day: nobody", x.pardon(1, 0), -1);
        Due.is("minutes", x.pardon(1, 1), 0);
        Due.is("2 days", x.pardon(2, 0), 0);
        Due.is("minutes", x.pardon(2, 1), 0);
        Due.is("20 days", x.pardon(20, 0), 0);
        for (int n : NO_SPANS) {
            Due.is(n + " days", x.pardon(n, 0), -2);
            Due.is(n + " days", x.pardon(n, 1), -2);
        }
        x.let(0);
        Due.is("all are exempt: nobody", x.pardon(20, 0), -1);
        x.let(0);
        x.let(1);
        // both go the same way
        Due.is("nobody", x.pardon(20, 0), -1);
        Due.is("minutes", x.pardon(20, 1), 0);
    }

    static void p27_minutesWaitedNotFines() {
        // all are fined each day, none waits
        LateAlways x = Due.in("town 0 1 99;fine 9 9;person 80 40;person 80 40;meet 0 1 100 10");
        Due.is("nobody", x.pardon(5, 0), -1);
        Due.is("minutes", x.pardon(5, 1), 0);
    }

    static void p27_ofSeveralTheLeast() {
        // two pairs alike: 0 with 1, who is exempt, and 3 with 2, who is exempt
        LateAlways x = Due.in("town 0 10 99;person 50 20;person 50 20;person 50 20;person 50 20;exempt 1;exempt 2;"
                + "meet 0 1 100 10;meet 2 3 100 10");
        Due.is("who", x.pardon(2, 0), 0);
        Due.is("minutes", x.pardon(2, 1), 1);
        x.let(0);
        Due.is("who", x.pardon(2, 0), 3);
        Due.is("minutes", x.pardon(2, 1), 0);
    }

    static void p27_theMostPerson() {
        LateAlways x = Due.in("town 0 10 99" + ";person 50 20".repeat(5) + ";exempt 3;meet 3 4 100 10");
        Due.is("who", x.pardon(2, 0), 4);
    }

    static void p27_otherWhatsOrWithoutATown() {
        LateAlways x = Due.in(PAIR);
        Due.is("what 2", x.pardon(1, 2), -2);
        for (int what : FAR) {
            Due.is("what " + what, x.pardon(1, what), -2);
        }
        Due.is("without a town", new LateAlways().pardon(1, 0), -2);
        LateAlways y = Due.in("town 0 1 1");
        Due.is("nobody", y.pardon(1, 0), -1);
        Due.is("minutes", y.pardon(1, 1), 0);
    }

    static void p27_nothingChanges() {
        Due.nothingHappens("pardon", EdgesOfTexts::busy, x -> x.pardon(20, 0));
    }

    // ---- 28: worth

    static void p28_daysFrom1To20() {
        LateAlways x = Due.in(PAIR, "late 3*person");
        Due.is("1 day", x.worth(0, 1), 3);
        Due.is("20 days", x.worth(0, 20), 60);
        for (int n : NO_SPANS) {
            Due.is(n + " days", x.worth(0, n), -1000000);
        }
    }

    static void p28_below0And0() {
        // held up by it, person 0 comes to the other one together with 2; without it it waits 10
        LateAlways x = Due.in("town 0 60 99;person 20 20;person 20 20;person 30 20;meet 0 1 100 10;meet 0 2 100 10");
        Due.is("it spares ten minutes", x.worth(0, 1), -10);
        Due.is("nothing", x.worth(1, 1), 0);
    }

    static void p28_finesCountToo() {
        LateAlways x = Due.in("town 10 20 99;fine 4 7;person 20 20;person 80 20;meet 0 1 100 10");
        Due.is("4, 7 and 60", x.worth(0, 1), 71);
    }

    static void p28_theLeastAndTheMostMeeting() {
        LateAlways x = Due.in(EIGHT);
        Due.is("worth(7, 1)", x.worth(7, 1), 0);
        Due.is("worth(8, 1)", x.worth(8, 1), -1000000);
        for (int far : FAR) {
            Due.is("worth(" + far + ", 1)", x.worth(far, 1), -1000000);
        }
        Due.is("no meetings", Due.in(NO_MEETINGS).worth(0, 1), -1000000);
    }

    static void p28_nothingChanges() {
        Due.nothingHappens("worth", EdgesOfTexts::busy, x -> x.worth(1, 20));
    }

    // ---- 30: years

    static void p30_yearsFrom1To10DaysFrom1To60() {
        LateAlways x = Due.in(PAIR, "late 30");
        // from 0 on the draws less 5 are -5, 2, -5, 2, -5, 4, 2, 2: both wait 7, 7, 9, 0
        Due.is("1 of 1", x.years(1, 1, 1), 7);
        Due.is("1 of 4", x.years(1, 4, 1), 23);
        Due.is("4 of 1", x.years(4, 1, 1), 23);
        Due.is("10 of 60", x.years(10, 60, 0), 0);
        int[] noYears = {Integer.MIN_VALUE, -1, 0, 11, Integer.MAX_VALUE};
        for (int m : noYears) {
            Due.is(m + " of 1", x.years(m, 1, 0), -1);
        }
        int[] noDays = {Integer.MIN_VALUE, -1, 0, 61, Integer.MAX_VALUE};
        for (int n : noDays) {
            Due.is("1 of " + n, x.years(1, n, 0), -1);
        }
    }

    static void p30_eachFromNowOn() {
        // late 30 on day 0, else missed: 30 against 90
        LateAlways x = Due.in("town 0 60 30;person 20 20;person 20 20;meet 0 1 100 10", "late 30 if day=0;late 30+60*person");
        Due.is("3 of 1", x.years(3, 1, 0), 0);
        Due.is("1 of 3", x.years(1, 3, 0), 2);
        Due.is("3 of 3", x.years(3, 3, 0), 6);
    }

    static void p30_theFirstThenTheSecondOne() {
        // from 12345 on the draws less 5 are 2, -5: 0 comes at 132, over 31; 1 at 125
        LateAlways x = Due.in("town 0 31 99;fine 0 9;person 20 20;person 20 20;meet 0 1 100 10", "late 30");
        x.seed(12345);
        Due.is("9 and 7", x.years(1, 1, 1), 16);
        LateAlways y = Due.in("town 0 31 99;fine 0 9;person 20 20;person 20 20;exempt 1;meet 0 1 100 10", "late 30");
        y.seed(12345);
        Due.is("it was the first who was over", y.years(1, 1, 1), 16);
        LateAlways z = Due.in("town 0 31 99;fine 0 9;person 20 20;person 20 20;exempt 0;meet 0 1 100 10", "late 30");
        z.seed(12345);
        Due.is("the first is exempt", z.years(1, 1, 1), 7);
    }

    static void p30_forEachMeetingAsItIsComeTo() {
        // meeting 1 is come to first: -5, 2 are drawn for it, -5, 2 for 0; only it has patience for 7
        LateAlways x = Due.in("town 0 60 8;person 20 20;person 20 20;person 20 20;person 20 20;"
                + "meet 0 1 200 10;meet 2 3 100 10", "late 30+2*person-person if meeting=1;late 30");
        // in meeting 1: 2 at 100+32-5, 3 at 100+33+2: 8 apart; in meeting 0: 7 apart
        Due.is("none missed", x.years(1, 1, 0), 0);
        Due.is("costs", x.years(1, 1, 1), 15);
    }

    static void p30_heldToMinus30And120BehindTheDraw() {
        LateAlways most = Due.in(PAIR, "late 120");
        // 115 and 122, held to 120; both are over
        Due.is("most", most.years(1, 1, 1), 5 + 2);
        LateAlways beyond = Due.in(PAIR, "late 9999");
        Due.is("held ahead of it, too", beyond.years(1, 1, 1), 5 + 2);
        LateAlways least = Due.in(PAIR, "late 0-30");
        // -35, held to -30, and -28; both are early
        Due.is("least", least.years(1, 1, 1), 2 + 2);
        LateAlways below = Due.in(PAIR, "late 0-9999");
        Due.is("held ahead of it, too", below.years(1, 1, 1), 2 + 2);
    }

    static void p30_theMostDraws() {
        LateAlways x = Due.in(PAIR, "late 30");
        x.seed(86);
        Due.is("5 and 5", x.years(1, 1, 1), 0);
        x.seed(10);
        Due.is("-5 and 5", x.years(1, 1, 1), 10);
        x.seed(197);
        Due.is("5 and -5", x.years(1, 1, 1), 10);
        // 120 - 5 and 120 + 5, held
        LateAlways y = Due.in(PAIR, "late 120");
        y.seed(10);
        Due.is("5 apart, both over", y.years(1, 1, 1), 7);
    }

    static void p30_theMostX() {
        LateAlways x = Due.in(PAIR, "late 30");
        x.seed(Integer.MAX_VALUE);
        // -4, 4, 1, 5, -4, -5, 0, 4
        Due.is("a day", x.years(1, 1, 1), 8);
        Due.is("four days", x.years(1, 4, 1), 8 + 4 + 1 + 4);
        Due.is("x as it was", x.count(13), Integer.MAX_VALUE);
    }

    static void p30_withoutARuleToTheirHabit() {
        LateAlways x = Due.in("town 0 60 99;person 50 20;person 50 20;meet 0 1 100 10");
        Due.is("a day", x.years(1, 1, 1), 7);
    }

    static void p30_missedAndCostsOfAllTogether() {
        // 7, 7, 9 and 0 apart with a patience of 7, then 6
        LateAlways x = Due.in("town 0 60 7;person 50 20;person 50 20;meet 0 1 100 10");
        Due.is("missed", x.years(2, 2, 0), 1);
        Due.is("costs", x.years(2, 2, 1), 21);
        LateAlways y = Due.in("town 0 60 6;person 50 20;person 50 20;meet 0 1 100 10");
        Due.is("missed", y.years(2, 2, 0), 3);
        Due.is("costs", y.years(2, 2, 1), 18);
    }

    static void p30_otherWhatsOrWithoutATown() {
        LateAlways x = Due.in(PAIR);
        Due.is("what 2", x.years(1, 1, 2), -1);
        for (int what : FAR) {
            Due.is("what " + what, x.years(1, 1, what), -1);
        }
        Due.is("without a town", new LateAlways().years(1, 1, 0), -1);
        Due.is("without meetings", Due.in(NO_MEETINGS).years(10, 60, 1), 0);
    }

    static void p30_nothingChanges() {
        Due.nothingHappens("years", EdgesOfTexts::busy, x -> x.years(2, 3, 1));
    }
}
