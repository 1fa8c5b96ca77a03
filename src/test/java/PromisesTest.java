/** Each promise of the document by answers that were reckoned by hand. */
public final class PromisesTest {
    /**
     * Law 5 to 15, patience 20. Day 0: meeting 0: 0 comes at 70, 1 at 80 (over); it begins at 80, both end at 110.
     * Meeting 1: 1 comes at 110 (over), 2 at 93 (early); it begins at 110, both end at 130.
     */
    private static final String TOWN = "town 5 15 20;fine 2 3;person 30 20;person 40 20;person 25 22;"
            + "meet 0 1 60 30;meet 1 2 90 20";
    /** 0 is held up by meeting 0 until 150, so that 2 goes at 120. */
    private static final String CROWDED = "town 0 60 10;person 20 20;person 20 20;person 20 20;"
            + "meet 0 1 100 50;meet 0 2 110 10";
    private static final int[] WRONG = {-1, -2, Integer.MIN_VALUE, Integer.MAX_VALUE, 1000, 64, 32};

    private static int wrong = 0;

    private static void due(String call, int got, int want) {
        if (got != want) {
            wrong++;
            System.out.println(call + " answered " + got + ", due is " + want);
        }
    }

    private static LateAlways in(String town) {
        LateAlways x = new LateAlways();
        if (Texts.town(x, town) < 0) {
            wrong++;
            System.out.println("no town: " + town);
        }
        return x;
    }

    private static LateAlways in(String town, String rule) {
        LateAlways x = in(town);
        due("rule " + rule, Texts.rule(x, rule), 0);
        due("force", x.force(0), -1);
        return x;
    }

    /** The first call on a new object that has no town and no rule. */
    private static void faultOfTown(String text, int place, int kind) {
        due("town \"" + text + "\"", Texts.town(new LateAlways(), text), -2 - (1 + 8 * place + kind));
    }

    private static void faultOfRule(String text, int place, int kind) {
        due("rule \"" + text + "\"", Texts.rule(new LateAlways(), text), -2 - (1 + 8 * place + kind));
    }

    private static void goodRule(String text) {
        due("rule \"" + text + "\"", Texts.rule(new LateAlways(), text), 0);
    }

    /** How late 0 means to be by a sum, in a town whose law and clock leave it as it is. */
    private static void meant(String rule, int want) {
        LateAlways x = in("town 3 60 99;person 37 20;person 20 20;person 27 20;exempt 2;meet 0 2 100 10", rule);
        due("late by " + rule, x.today(0, 1), want);
    }

    private static void newObject() {
        LateAlways x = new LateAlways();
        int[] counts = {0, 0, 0, 0, 0, 0, -1, 0, 0, 0, 0, 0, 0, 0, 0};
        for (int what = 0; what < counts.length; what++) {
            due("count(" + what + ") anew", x.count(what), counts[what]);
        }
        due("day anew", x.day(), -1);
        due("undo anew", x.undo(), -2);
        due("chain anew", x.chain(1), -1000);
        due("leave anew", x.leave(1), -1);
        due("again anew", x.again(1), -1);
        due("force anew", x.force(0), -2);
        due("back anew", x.back(0), -1);
    }

    private static void feedAndEnd() {
        LateAlways x = new LateAlways();
        for (int i = 1; i <= 20; i++) {
            due("feed", x.feed(0, 0, 0, 0, 0), 20 * i);
        }
        due("feed beyond 400", x.feed(0, 0, 0, 0, 0), -1);
        due("tape stays", x.count(14), 400);
        due("end 401", x.end(401), -1);
        due("end -1", x.end(-1), -1);
        due("tape stays", x.count(14), 400);
        due("end 400", x.end(400), 400);
        due("end 381", x.end(381), 381);
        due("feed beyond 400 by one", x.feed(0, 0, 0, 0, 0), -1);
        due("end 380", x.end(380), 380);
        due("feed to 400", x.feed(0, 0, 0, 0, 0), 400);
        due("end 0", x.end(0), 0);
        due("end 1 of none", x.end(1), -1);
        // "late" " 5;l" "ate " "6   " "    ": the highest byte comes first
        due("feed", x.feed(1818326117, 540359532, 1635018016, 908075040, 538976288), 20);
        due("rule of it", x.rule(), 0);
        due("feed bytes above 127", x.feed(-1, -1, -1, -1, -1), 20);
        due("rule of them", x.rule(), -3);
    }

    private static void town() {
        LateAlways x = new LateAlways();
        due("town alone", Texts.town(x, "town 0 1 1"), 0);
        due("people", x.count(3), 0);
        due("chain of nobody", x.chain(0), -1);
        due("chain of nobody", x.chain(1), -1);
        due("leave of none", x.leave(0), -2);
        due("leave of none", x.leave(1), -2);
        due("again without meetings", x.again(0), 1);
        due("day without meetings", x.day(), 0);
        due("town of most", Texts.town(x, "  town59 60 99;person80 40;person 0 0 ; fine 9 9;exempt 00001;exempt1;"
                + "person 1 1;person 1 1;person 1 1;meet 4 0 600 60;meet 0 1 0 1;meet 0 1 0 1;meet 0 1 0 1;"
                + "meet 0 1 0 1;meet 0 1 0 1;meet 0 1 0 1;meet 0 1 0 1  "), 8);
        due("day 0", x.count(7), 0);
        due("habit", x.person(0, 0), 60);
        due("clock", x.person(0, 1), 20);
        due("habit", x.person(1, 0), -20);
        due("clock", x.person(1, 1), -20);
        due("exempt", x.count(8), 2);
        due("tape is empty", x.count(14), 0);
        Texts.rule(x, "late 7");
        x.force(0);
        x.seed(77);
        x.log(3, 0, 5);
        x.let(0);
        due("a fault", Texts.town(x, "town 0 0 1"), -2 - (1 + 8 * 7 + 1));
        due("tape is empty behind a fault", x.count(14), 0);
        due("town stays", x.count(4), 8);
        due("logs stay", x.count(11), 1);
        due("acts stay", x.count(12), 1);
        due("another town", Texts.town(x, TOWN), 2);
        due("rule in force stays", x.count(6), 0);
        due("x stays", x.count(13), 77);
        due("no logs", x.count(11), 0);
        due("no acts", x.count(12), 0);
        due("nobody exempt", x.count(8), 0);
        due("undo", x.undo(), -2);
    }

    private static void faultsOfTown() {
        faultOfTown("", 0, 0);
        faultOfTown("   ", 3, 0);
        faultOfTown("Town 0 1 1", 0, 0);
        faultOfTown("towns 0 1 1", 0, 0);
        faultOfTown("tow", 0, 0);
        faultOfTown(" person 0 0", 1, 4);
        faultOfTown("fine 0 0", 0, 4);
        faultOfTown("town", 4, 0);
        faultOfTown("town ;", 5, 0);
        faultOfTown("town 60 60 1", 5, 1);
        faultOfTown("town 000001 60 1", 5, 1);
        faultOfTown("town 9 8 1", 7, 1);
        faultOfTown("town 0 61 1", 7, 1);
        faultOfTown("town 0 1 0", 9, 1);
        faultOfTown("town 0 1 100", 9, 1);
        faultOfTown("town 0 1", 8, 0);
        faultOfTown("town 0 1 ", 9, 0);
        faultOfTown("town 0 1 1 1", 11, 0);
        faultOfTown("town 0 1 1;", 11, 0);
        faultOfTown("town 0 1 1; ;", 12, 0);
        faultOfTown("town 0 1 1;town 0 1 1", 11, 4);
        faultOfTown("town 0 1 1;rule", 11, 0);
        faultOfTown("town 0 1 1;person 81 0", 18, 1);
        faultOfTown("town 0 1 1;person 80 41", 21, 1);
        faultOfTown("town 0 1 1;person 80 -1", 21, 0);
        faultOfTown("town 0 1 1;exempt 0", 18, 1);
        faultOfTown("town 0 1 1;person 0 0;exempt 1", 29, 1);
        String two = "town 0 1 1;person 0 0;person 0 0;";
        faultOfTown(two + "meet 2 1 0 1", 38, 1);
        faultOfTown(two + "meet 1 2 0 1", 40, 1);
        faultOfTown(two + "meet 1 1 601 1", 40, 1);
        faultOfTown(two + "meet 1 0 601 1", 42, 1);
        faultOfTown(two + "meet 1 0 600 0", 46, 1);
        faultOfTown(two + "meet 1 0 600 61", 46, 1);
        faultOfTown(two + "fine 10 0", 38, 1);
        faultOfTown(two + "fine 0 10", 40, 1);
        faultOfTown(two + "fine 0 0;fine 0 x", 42, 4);
        faultOfTown(two + "person 0 0;person 0 0;person 0 0;person x", 66, 4);
        faultOfTown(two + "meet 0 1 0 1;".repeat(8) + "meet", 33 + 104, 4);
        String forty = "town 0 1 1;person 0 0" + ";exempt0".repeat(38);
        due("40 clauses", Texts.town(new LateAlways(), forty), 0);
        faultOfTown(forty + ";exempt9", forty.length() + 1, 4);
        faultOfTown(forty + ";exempts", forty.length() + 1, 0);
        faultOfTown(forty + ";town", forty.length() + 1, 4);
        faultOfTown(forty + ";", forty.length() + 1, 0);
    }

    private static void rule() {
        LateAlways x = new LateAlways();
        for (int i = 0; i < 6; i++) {
            due("rule", Texts.rule(x, "late " + i), i);
        }
        due("tape is empty", x.count(14), 0);
        due("a seventh", Texts.rule(x, "late 6"), -1);
        due("its tape stays", x.count(14), 6);
        due("a seventh with a fault", x.rule(), -1);
        due("rules", x.count(5), 6);
        LateAlways y = new LateAlways();
        due("a fault", Texts.rule(y, "late"), -2 - (1 + 8 * 4));
        due("tape is empty behind a fault", y.count(14), 0);
        due("no rule", y.count(5), 0);
    }

    private static void faultsOfRule() {
        faultOfRule("", 0, 0);
        faultOfRule("lat 1", 0, 0);
        faultOfRule("late", 4, 0);
        faultOfRule("late ;", 5, 0);
        faultOfRule("late -1", 5, 0);
        faultOfRule("late if", 5, 0);
        faultOfRule("late not", 5, 0);
        faultOfRule("late [1]", 5, 0);
        faultOfRule("late days", 5, 0);
        faultOfRule("late 1 1", 7, 0);
        faultOfRule("late 1 123456", 7, 0);
        faultOfRule("late 123456", 5, 1);
        faultOfRule("late 1+", 7, 0);
        faultOfRule("late 1 < 2", 7, 0);
        faultOfRule("late 1 iff 1 < 2", 7, 0);
        faultOfRule("late 1 if", 9, 0);
        faultOfRule("late 1 if 1", 11, 0);
        faultOfRule("late 1 if 1;", 11, 0);
        faultOfRule("late 1 if 1 and", 12, 0);
        faultOfRule("late 1 if 1 < < 1", 14, 0);
        faultOfRule("late 1 if 1 < = 1", 14, 0);
        faultOfRule("late 1 if 1 =< 1", 13, 0);
        faultOfRule("late 1 if 1 < 1 < 1", 16, 0);
        faultOfRule("late 1 if 1 < 1 andday", 16, 0);
        faultOfRule("late 1 if 1 < 1]", 15, 0);
        faultOfRule("late 1 if 1 < 1 and", 19, 0);
        faultOfRule("late 1 if [1 < 1", 16, 0);
        faultOfRule("late 1 if [1 < 1;", 16, 0);
        faultOfRule("late 1 if [1]", 12, 0);
        faultOfRule("late 1 if [1 < 1] < 1", 18, 0);
        faultOfRule("late 1 if [1 < 1] + 1", 18, 0);
        faultOfRule("late 1 if [1 < 1] [", 18, 0);
        faultOfRule("late 1 if []", 11, 0);
        faultOfRule("late 1 if 1 < 1 if 1 < 1", 16, 0);
        faultOfRule("late 1;", 7, 0);
        faultOfRule("late 1;if", 7, 0);
        goodRule("late1if1<1and[day>=clock or not1=1];late 00007%exempt/12345*most-least+mine");
        goodRule("late 1 if " + "[".repeat(10) + "1<1" + "]".repeat(10) + "and" + "[".repeat(10) + "1<1" + "]".repeat(10));
        goodRule("late 1 if " + "not ".repeat(10) + "1<1 and " + "not ".repeat(10) + "1<1");
        faultOfRule("late 1 if " + "[".repeat(11), 20, 2);
        faultOfRule("late 1 if " + "not ".repeat(11), 50, 2);
        faultOfRule("late 1 if " + "not[".repeat(5) + "1=1 or not 1<1", 37, 2);
        faultOfRule("late 1 if " + "not[".repeat(5) + "1=1]]]]] or not 1=1 or " + "[".repeat(11), 63, 2);
        goodRule("late 1" + "+1".repeat(59));
        faultOfRule("late 1" + "+1".repeat(60), 125, 3);
        faultOfRule("late 1" + "+1".repeat(59) + "+123456", 125, 1);
        faultOfRule("late 1" + "+1".repeat(59) + "+dayx", 125, 0);
        faultOfRule("late 1" + "+1".repeat(59) + "+", 125, 0);
        goodRule("late 1" + "+1".repeat(56) + " if 1<1");
        faultOfRule("late 1" + "+1".repeat(57) + " if 1<1", 126, 3);
        faultOfRule("late 1" + "+1".repeat(58) + " if 1<1", 127, 3);
        faultOfRule("late 1" + "+1".repeat(57) + ";late 1 if 1 <= 1", 133, 3);
        goodRule("late 1" + ";late 1".repeat(11));
        faultOfRule("late 1" + ";late 1".repeat(12), 84, 4);
        faultOfRule("late 1" + ";late 1".repeat(11) + ";lat", 84, 0);
    }

    private static void meanings() {
        meant("late 7", 7);
        meant("late 2+3*4", 14);
        meant("late 20-3-4", 13);
        meant("late 40/3/2", 6);
        meant("late 40%7*2", 10);
        meant("late 100/7*3%5", 2);
        meant("late 0-7/2", -3);
        meant("late 0-7%4", -3);
        meant("late 5/0+6%0+1", 1);
        meant("late 99999", 120);
        meant("late 0-99999", -30);
        meant("late 99999*99999*99999*99999", 120);
        meant("late 65536*65536*65536*65536+9", 9);
        // 2 to the 63 is the least number there is
        meant("late 65536*65536*65536*32768", -30);
        meant("late person", 0);
        meant("late other", 2);
        meant("late meeting+1", 1);
        meant("late asked", 100);
        meant("late habit", 17);
        meant("late mine", 17);
        meant("late theirs", 7);
        meant("late least", 3);
        meant("late most", 60);
        meant("late fined+waited+day+clock+exempt", 0);
        meant("late 5 if 1<1;late 6 if 1<=1;late 7", 6);
        meant("late 5 if 1<1;late 6 if 2<1", 0);
        meant("late 5 if 1>1;late 6 if 1>=1;late 7", 6);
        meant("late 5 if 1=2;late 6 if 2=2;late 7", 6);
        meant("late 5 if 1=1 or 1=1 and 1=2;late 6", 5);
        meant("late 5 if [1=1 or 1=1] and 1=2;late 6", 6);
        meant("late 5 if not 1=2 and 1=2;late 6", 6);
        meant("late 5 if not [1=2 and 1=2];late 6", 5);
        meant("late 5 if not not 1=1;late 6", 5);
        meant("late 5 if 1=2 and 1=2 or 1=1;late 6", 5);
        meant("late 5 if 1+1*2=3;late 6", 5);
        meant("late 1;late 2", 1);
        LateAlways x = in(TOWN, "late fined*10+waited if day=1 and meeting=1;late clock+day if person=2;late 20");
        due("second of meeting 1 on day 0", x.today(1, 2), 0);
        due("day", x.day(), 0);
        // day 0: 1 was over twice (3 each) and 2 waited from 90 to 130
        due("fines of 1", x.person(1, 4), 6);
        due("fines of 2", x.person(2, 4), 2);
        due("clock of 1", x.person(1, 1), 1);
        // by day 1 meeting 0 has fined 1 once more when meeting 1 is come to: 9 * 10 held by nothing
        due("late by fines so far", x.today(1, 1), 89);
        meantBySecond("late exempt*9", 9);
        meantBySecond("late mine+1", 8);
        meantBySecond("late theirs", 17);
        meantBySecond("late person*10+other", 20);
        meantBySecond("late 5 if not 1=1 or 1=1;late 6", 5);
        meantBySecond("late 5 if not 1=2 and not 1>=2 and not 2<=1 and 3-1<1+2 and 5>4;late 6", 5);
    }

    private static void meantBySecond(String rule, int want) {
        LateAlways x = in("town 3 60 99;person 37 20;person 20 20;person 27 20;exempt 2;meet 0 2 100 10", rule);
        due("second late by " + rule, x.today(0, 2), want);
    }

    private static void force() {
        LateAlways x = in(TOWN);
        due("no rule 0", x.force(0), -2);
        Texts.rule(x, "late 5");
        Texts.rule(x, "late 6");
        due("force 1", x.force(1), -1);
        due("late by it", x.today(0, 1), 6);
        due("force 0", x.force(0), 1);
        due("late by it", x.today(0, 1), 5);
        due("force 2", x.force(2), -2);
        due("force -2", x.force(-2), -2);
        due("stays", x.count(6), 0);
        due("force none", x.force(-1), 0);
        due("late by habit", x.today(0, 1), 10);
        due("no act", x.count(12), 0);
    }

    private static void personAndMeeting() {
        LateAlways x = in(TOWN);
        int[][] people = {{10, 0, 0, 10, 0, 0, 1}, {20, 0, 0, 20, 0, 0, 3}, {5, 2, 0, 5, 0, 0, 2}};
        int[][] later = {{10, 0, 0, 10, 0, 10, 1}, {20, 1, 0, 20, 6, 0, 3}, {5, 1, 0, 3, 2, 17, 2}};
        int[][] meetings = {{0, 1, 60, 30, 0, 0}, {1, 2, 90, 20, 0, 0}};
        for (int what = 0; what < 7; what++) {
            for (int p = 0; p < 3; p++) {
                due("person(" + p + ", " + what + ")", x.person(p, what), people[p][what]);
            }
        }
        for (int what = 0; what < 6; what++) {
            for (int m = 0; m < 2; m++) {
                due("meeting(" + m + ", " + what + ")", x.meeting(m, what), meetings[m][what]);
            }
        }
        x.day();
        for (int what = 0; what < 7; what++) {
            for (int p = 0; p < 3; p++) {
                due("person(" + p + ", " + what + ") on day 1", x.person(p, what), later[p][what]);
            }
        }
        due("held", x.meeting(0, 4), 1);
        due("missed", x.meeting(0, 5), 0);
        due("held", x.meeting(1, 4), 1);
        due("another minute", x.ask(1, 95), 90);
        due("another minute", x.meeting(1, 2), 95);
        due("this one stays", x.meeting(0, 2), 60);
        for (int w : WRONG) {
            due("person(0, " + w + ")", x.person(0, w), -1000);
            due("person(" + w + ", 0)", x.person(w, 0), -1000);
            due("meeting(0, " + w + ")", x.meeting(0, w), -1);
            due("meeting(" + w + ", 0)", x.meeting(w, 0), -1);
        }
        due("person(3, 0)", x.person(3, 0), -1000);
        due("person(0, 7)", x.person(0, 7), -1000);
        due("meeting(2, 0)", x.meeting(2, 0), -1);
        due("meeting(0, 6)", x.meeting(0, 6), -1);
    }

    private static void day() {
        LateAlways x = in(TOWN);
        due("day 0", x.day(), 0);
        due("day 1", x.day(), 0);
        due("fines of 1", x.person(1, 4), 12);
        due("fines of 2", x.person(2, 4), 4);
        due("waited by 0", x.person(0, 5), 19);
        due("waited by 2", x.person(2, 5), 32);
        due("clock of 1", x.person(1, 1), 2);
        due("clock of 2", x.person(2, 1), 0);
        due("count of days", x.count(7), 2);
        due("all fines", x.count(9), 16);
        due("all waited", x.count(10), 51);
        LateAlways y = in(CROWDED);
        due("missed", y.day(), 1);
        due("missed so far", y.meeting(1, 5), 1);
        due("held so far", y.meeting(1, 4), 0);
        due("waited by 2", y.person(2, 5), 10);
        due("late", y.person(0, 3), 40);
        // one minute more of patience than needed, just enough, one too few
        due("patience 41", in(CROWDED.replace("60 10;p", "60 41;p")).day(), 0);
        due("patience 40", in(CROWDED.replace("60 10;p", "60 40;p")).day(), 0);
        due("patience 39", in(CROWDED.replace("60 10;p", "60 39;p")).day(), 1);
        guilt();
    }

    private static void guilt() {
        // once early, once over: no guilt; fines of 0 are fines; who is exempt has none
        LateAlways x = in("town 10 10 9;person 29 20;person 31 20;person 30 20;fine 0 0;meet 0 1 0 1;meet 0 2 100 1");
        x.day();
        due("early by a fine of 0", x.person(0, 1), -1);
        due("over by a fine of 0", x.person(1, 1), 1);
        due("neither", x.person(2, 1), 0);
        due("no costs", x.count(9), 0);
        LateAlways y = in("town 10 10 9;person 29 20;person 31 20;exempt 0;exempt 1;meet 0 1 0 1");
        y.day();
        due("exempt", y.person(0, 1), 0);
        due("exempt", y.person(1, 1), 0);
        due("exempt", y.count(9), 0);
        LateAlways z = in("town 30 40 9;person 20 0;person 80 40;meet 0 1 0 1");
        z.day();
        due("held to -20", z.person(0, 1), -20);
        due("late 20 by a clock that is slow", z.person(0, 3), 20);
        due("not set", z.person(1, 1), 20);
        LateAlways v = in("town 0 10 9;person 20 20;person 80 40;meet 0 1 0 1");
        v.day();
        due("held to 20", v.person(1, 1), 20);
        due("late 40", v.person(1, 3), 40);
        // 0 is early at 0, held up until it is over at 5: as often
        LateAlways w = in("town 10 20 99;person 20 20;person 80 20;meet 0 1 0 10;meet 0 1 5 10");
        w.day();
        due("early as often as over", w.person(0, 1), 0);
        due("over twice is one step", w.person(1, 1), 1);
    }

    private static void acts() {
        LateAlways x = in(TOWN);
        due("ask as it is", x.ask(0, 60), -1);
        due("ask 601", x.ask(0, 601), -1);
        due("ask -1", x.ask(0, -1), -1);
        due("ask of none", x.ask(2, 0), -1);
        due("ask of none", x.ask(-1, 0), -1);
        due("set as it is", x.set(2, 2), -1000);
        due("set 21", x.set(2, 21), -1000);
        due("set -21", x.set(2, -21), -1000);
        due("set of nobody", x.set(3, 0), -1000);
        due("set of nobody", x.set(-1, 0), -1000);
        due("let of nobody", x.let(3), -1);
        due("let of nobody", x.let(-1), -1);
        due("no acts", x.count(12), 0);
        due("ask 600", x.ask(0, 600), 60);
        due("it is", x.meeting(0, 2), 600);
        due("ask 0", x.ask(0, 0), 600);
        due("set -20", x.set(2, -20), 2);
        due("set 20", x.set(2, 20), -20);
        due("it is", x.person(2, 1), 20);
        due("let", x.let(1), 1);
        due("exempt", x.count(8), 2);
        due("exempt", x.person(1, 2), 1);
        due("let again", x.let(1), 0);
        due("not exempt", x.count(8), 0);
        due("acts", x.count(12), 6);
        // asked for behind the other one, it is gone through behind it
        LateAlways y = in(CROWDED);
        y.ask(0, 111);
        due("first is meeting 1 now", y.today(1, 0), 110);
        due("then meeting 0", y.today(0, 0), 120);
        y.ask(0, 110);
        due("of one minute by numbers", y.today(1, 0), -1);
    }

    private static void undo() {
        LateAlways x = in(TOWN);
        for (int i = 1; i <= 25; i++) {
            x.ask(0, i);
        }
        due("20 can be undone", x.count(12), 20);
        for (int i = 19; i >= 0; i--) {
            due("undo", x.undo(), i);
            due("minute behind it", x.meeting(0, 2), i + 5);
        }
        due("no more", x.undo(), -2);
        due("stays", x.meeting(0, 2), 5);
        LateAlways y = in(TOWN);
        y.day();
        y.set(0, 9);
        y.let(2);
        y.day();
        y.seed(5);
        y.log(0, 0, 1);
        due("undo a day", y.undo(), 3);
        due("day", y.count(7), 1);
        due("x stays", y.count(13), 5);
        due("logs stay", y.count(11), 1);
        due("undo let", y.undo(), 2);
        due("exempt", y.count(8), 0);
        due("undo set", y.undo(), 1);
        due("clock", y.person(0, 1), 0);
        due("undo the first day", y.undo(), 0);
        due("none more", y.undo(), -2);
        LateAlways z = in(TOWN);
        z.day();
        due("undo a day", z.undo(), 0);
        due("day", z.count(7), 0);
        due("fines", z.count(9), 0);
        due("waited", z.count(10), 0);
        due("late last", z.person(2, 3), 5);
        due("clock", z.person(2, 1), 2);
        due("held", z.meeting(0, 4), 0);
    }

    private static void aheadAndToday() {
        LateAlways x = in(TOWN);
        int[][][] ahead = {{{0, 0, 0}, {0, 0, 0}, {2, 0, 0}}, {{0, 0, 10}, {1, 6, 0}, {1, 2, 17}},
            {{0, 0, 19}, {2, 12, 0}, {0, 4, 32}}};
        for (int n = 0; n < 3; n++) {
            for (int p = 0; p < 3; p++) {
                for (int what = 0; what < 3; what++) {
                    due("ahead(" + p + ", " + n + ", " + what + ")", x.ahead(p, n, what), ahead[n][p][what]);
                }
            }
        }
        due("ahead 100", x.ahead(1, 100, 0), 5);
        due("ahead 101", x.ahead(1, 101, 0), -1000);
        due("ahead -1", x.ahead(1, -1, 0), -1000);
        due("ahead of nobody", x.ahead(3, 1, 0), -1000);
        due("ahead what 3", x.ahead(0, 1, 3), -1000);
        due("ahead what -1", x.ahead(0, 1, -1), -1000);
        int[][] today = {{80, 10, 20, 10}, {110, 20, 3, 17}};
        for (int m = 0; m < 2; m++) {
            for (int what = 0; what < 4; what++) {
                due("today(" + m + ", " + what + ")", x.today(m, what), today[m][what]);
            }
        }
        due("today of none", x.today(2, 0), -1000);
        due("today what 4", x.today(0, 4), -1000);
        due("today what -1", x.today(0, -1), -1000);
        due("nothing changes", x.count(7) + x.count(9) + x.count(10) + x.count(12), 0);
        LateAlways y = in(CROWDED);
        due("missed", y.today(1, 0), -1);
        due("late by what was ahead", y.today(1, 1), 40);
        due("waits as long as patience", y.today(1, 3), 10);
    }

    private static void endsAndChain() {
        LateAlways x = in(TOWN + ";person 0 0");
        due("ends(0)", x.ends(0), 110);
        due("ends(1)", x.ends(1), 130);
        due("ends(2)", x.ends(2), 130);
        due("ends(3)", x.ends(3), -1);
        due("ends(4)", x.ends(4), -1000);
        due("ends(-1)", x.ends(-1), -1000);
        due("who", x.chain(0), 1);
        due("when", x.chain(1), 130);
        due("chain(2)", x.chain(2), -1000);
        due("chain(-1)", x.chain(-1), -1000);
        LateAlways y = in(CROWDED);
        due("who comes too late ends then", y.ends(0), 150);
        due("who waits in vain ends then", y.ends(2), 120);
        // ends ahead of minute 0 are ends
        LateAlways z = in("town 0 60 9;person 0 40;person 0 40;person 0 0;meet 0 1 0 1");
        due("ends before midnight", z.ends(0), -39);
        due("who", z.chain(0), 0);
        due("when", z.chain(1), -39);
    }

    private static void minute() {
        LateAlways x = in(CROWDED);
        due("which", x.minute(1, 0), 50);
        due("missed", x.minute(1, 1), 0);
        due("costs", x.minute(1, 2), 0);
        due("which", x.minute(0, 0), 40);
        due("none", x.minute(2, 0), -1);
        due("what 3", x.minute(0, 3), -1);
        due("what -1", x.minute(0, -1), -1);
        // by its rule nobody is missed from 595 on; by costs 600 is best
        LateAlways y = in("town 0 60 5;person 20 20;person 20 20;meet 0 1 590 5",
                "late 600-asked if person=1 and asked>0");
        due("up to 600", y.minute(0, 0), 600);
        due("costs there", y.minute(0, 2), 0);
        LateAlways z = in("town 0 60 5;person 20 20;person 20 20;meet 0 1 30 5", "late asked+3 if person=1");
        due("from 0 on", z.minute(0, 0), 0);
        due("missed there", z.minute(0, 1), 0);
        due("costs there", z.minute(0, 2), 3);
        String hundred = "town 0 60 99;person 20 20;person 20 20;meet 0 1 100 5";
        due("60 behind", in(hundred, "late 0 if asked=160;late 50 if person=1").minute(0, 0), 160);
        due("61 behind", in(hundred, "late 0 if asked=161;late 50 if person=1").minute(0, 0), 40);
        due("60 ahead", in(hundred, "late 0 if asked=40;late 0 if asked=50;late 50 if person=1").minute(0, 0), 40);
        due("61 ahead", in(hundred, "late 0 if asked=39;late 0 if asked=50;late 50 if person=1").minute(0, 0), 50);
        // costs would be 2 where it is missed (patience 2), 3 where it is not
        LateAlways v = in("town 0 9 2;fine 0 3;person 20 20;person 20 20;meet 0 1 60 5",
                "late 12 if asked=100 and person=0;late 11 if asked=100;late 60 if person=1 ;late 0");
        due("missed come first", v.minute(0, 0), 100);
        due("missed", v.minute(0, 1), 0);
        due("costs", v.minute(0, 2), 7);
    }

    private static void leaveAndWorth() {
        LateAlways x = in(TOWN);
        due("which", x.leave(0), 1);
        due("costs", x.leave(1), 13);
        due("leave(2)", x.leave(2), -1);
        due("leave(-1)", x.leave(-1), -1);
        due("worth(0, 1)", x.worth(0, 1), 13);
        due("worth(1, 1)", x.worth(1, 1), 22);
        // day 0: 35 with it, 13 without; day 1: 32 with it, 12 without
        due("worth(1, 2)", x.worth(1, 2), 42);
        due("worth(2, 1)", x.worth(2, 1), -1000000);
        due("worth(-1, 1)", x.worth(-1, 1), -1000000);
        due("worth(0, 0)", x.worth(0, 0), -1000000);
        due("worth(0, 21)", x.worth(0, 21), -1000000);
        LateAlways y = in(CROWDED);
        due("of several the least", y.leave(0), 0);
        due("costs", y.leave(1), 0);
    }

    private static void rests() {
        LateAlways x = in(TOWN);
        due("how many", x.rests(0, 0), 6);
        due("first", x.rests(0, 1), 10);
        due("second", x.rests(0, 2), 10);
        due("none", x.rests(2, 0), -1);
        due("what 3", x.rests(0, 3), -1);
        due("what -1", x.rests(0, -1), -1);
        LateAlways y = in("town 10 31 2;person 20 20;person 20 26;meet 0 1 84 32");
        due("how many", y.rests(0, 0), 0);
        due("first", y.rests(0, 1), -2);
        due("second", y.rests(0, 2), -2);
        // 0 is held up until 150 whatever they mean, up to 40: 1 means 40 then; of several the first
        LateAlways z = in(CROWDED);
        due("first", z.rests(1, 1), 0);
        due("second", z.rests(1, 2), 40);
    }

    private static void again() {
        LateAlways x = in(TOWN);
        due("day", x.again(0), 7);
        due("how many", x.again(1), 1);
        x.day();
        due("day from day 1 on", x.again(0), 7);
        due("again(2)", x.again(2), -1);
        due("again(-1)", x.again(-1), -1);
        // each day they are later by one minute: 99 days are ahead of none alike
        String town = "town 0 60 99;person 20 20;person 20 20;exempt 0;exempt 1;meet 0 1 0 1";
        due("none", in(town, "late day+1").again(0), -2);
        due("none", in(town, "late day+1").again(1), -2);
        due("one too far", in(town, "late day+1 if day<99;late 98").again(0), -2);
        due("the 100th", in(town, "late day+1 if day<98;late 98").again(0), 99);
        due("the one before", in(town, "late day+1 if day<98;late 98").again(1), 1);
        due("three ahead", in(town, "late 1+day%3").again(1), 3);
    }

    private static void law() {
        LateAlways x = in(TOWN);
        due("least", x.law(1, 0), 0);
        due("most", x.law(1, 1), 20);
        due("costs", x.law(1, 2), 27);
        due("law(0, 0)", x.law(0, 0), -1);
        due("law(21, 0)", x.law(21, 0), -1);
        due("law(1, 3)", x.law(1, 3), -1);
        due("law(1, -1)", x.law(1, -1), -1);
        due("stays", x.count(1), 15);
        // by its words a rule goes by the law that is tried: 50 60 is the only one by which none is fined
        LateAlways y = in("town 0 60 99;fine 9 9;person 20 20;person 20 20;meet 0 1 0 1",
                "late 55 if least=50 and most=60;late 0-30");
        due("least", y.law(20, 0), 50);
        due("most", y.law(20, 1), 60);
        due("costs", y.law(20, 2), 0);
        // late 10 both: the first by least, then most
        LateAlways z = in("town 0 60 99;person 30 20;person 30 20;meet 0 1 0 1");
        due("the first", z.law(1, 0), 0);
        due("the first", z.law(1, 1), 10);
    }

    private static void watch() {
        LateAlways x = in(TOWN);
        due("all habits", x.habit(0, 0), 9);
        due("the first", x.habit(0, 1), -20);
        due("part at once", x.door(0, 0), 0);
        due("all apart", x.door(0, 1), 1);
        due("three alike", x.door(1, 1), 3);
        due("log", x.log(0, 0, 10), 1);
        due("one habit", x.habit(0, 0), 1);
        due("the first", x.habit(0, 1), 10);
        due("log of 1", x.log(0, 1, 10), 2);
        due("habits of 1", x.habit(1, 0), 3);
        due("the first", x.habit(1, 1), -10);
        due("door of 1", x.door(1, 0), 0);
        due("door of 1", x.door(1, 1), 3);
        // what was done since the text does not count
        x.ask(0, 500);
        x.set(0, 9);
        x.day();
        due("one habit", x.habit(0, 0), 1);
        due("log 30", x.log(30, 0, 11), 3);
        due("none fits", x.habit(0, 0), 0);
        due("none fits", x.habit(0, 1), -100);
        due("no door", x.door(0, 0), -2);
        due("no door", x.door(0, 1), -2);
        due("logs", x.count(11), 3);
        due("no logs", x.log(-1, 99, 9999), 0);
        due("logs", x.count(11), 0);
        logsThatAreWrong(x);
        for (int i = 1; i <= 10; i++) {
            due("log", x.log(i, 2, i % 2 == 0 ? -100 : 1000), i);
        }
        due("an eleventh", x.log(0, 0, 0), -2);
        due("logs", x.count(11), 10);
        LateAlways y = in("town 0 60 99;person 20 20;person 20 20;person 33 20;meet 0 1 0 1", "late habit if day>=3");
        due("door", y.door(0, 0), 3);
        // -20 to 60 by tens; who is early or over comes by another clock then, but none as another
        due("alike there", y.door(0, 1), 1);
        due("without meetings by habit", y.door(2, 1), 1);
        String two = "town 0 60 99;person 20 20;person 20 20;meet 0 1 0 1";
        due("behind day 30", in(two, "late habit if day=30").door(0, 0), 30);
        due("never", in(two, "late habit if day=31").door(0, 0), 0);
        due("all alike", in(two, "late habit if day=31").door(0, 1), 9);
        due("three alike", in(two, "late habit/20*20 if day=4;late 0").door(0, 1), 3);
        y.log(7, 2, 30);
        due("without meetings by habit", y.habit(2, 1), 30);
        due("a log of another", y.habit(0, 0), 9);
    }

    private static void logsThatAreWrong(LateAlways x) {
        due("log -2", x.log(-2, 0, 0), -2);
        due("log 31", x.log(31, 0, 0), -2);
        due("log of nobody", x.log(0, 3, 0), -2);
        due("log of nobody", x.log(0, -1, 0), -2);
        due("late -101", x.log(0, 0, -101), -2);
        due("late 1001", x.log(0, 0, 1001), -2);
        due("habit(3, 0)", x.habit(3, 0), -1000);
        due("habit(-1, 0)", x.habit(-1, 0), -1000);
        due("habit(0, 2)", x.habit(0, 2), -1000);
        due("habit(0, -1)", x.habit(0, -1), -1000);
        due("door(3, 0)", x.door(3, 0), -1);
        due("door(-1, 0)", x.door(-1, 0), -1);
        due("door(0, 2)", x.door(0, 2), -1);
        due("door(0, -1)", x.door(0, -1), -1);
        due("logs", x.count(11), 0);
    }

    private static void clocksAndPardon() {
        LateAlways x = in(TOWN);
        due("whose clock", x.clocks(1, 0), 2);
        due("costs", x.clocks(1, 1), 31);
        due("nobody", x.pardon(1, 0), -1);
        due("minutes", x.pardon(1, 1), 27);
        due("nobody", x.pardon(2, 0), -1);
        due("minutes", x.pardon(2, 1), 51);
        x.set(2, 0);
        due("none", x.clocks(1, 0), -1);
        due("costs", x.clocks(1, 1), 31);
        for (int n : new int[] {0, -1, 21}) {
            due("clocks(" + n + ", 0)", x.clocks(n, 0), -2);
            due("pardon(" + n + ", 0)", x.pardon(n, 0), -2);
        }
        for (int what : new int[] {-1, 2}) {
            due("clocks(1, " + what + ")", x.clocks(1, what), -2);
            due("pardon(1, " + what + ")", x.pardon(1, what), -2);
        }
        // 0 is over and comes earlier from then on; 1 is exempt and does not
        LateAlways y = in("town 0 10 20;person 40 20;person 40 20;exempt 1;meet 0 1 0 1");
        due("nobody in a day", y.pardon(1, 0), -1);
        due("0 in two", y.pardon(2, 0), 0);
        due("minutes", y.pardon(2, 1), 0);
        y.let(0);
        due("all are", y.pardon(2, 0), -1);
        // both clocks are as good to set: the least
        LateAlways z = in("town 0 60 20;person 30 22;person 30 22;person 30 20;meet 0 2 0 1;meet 1 2 100 1");
        due("of several the least", z.clocks(1, 0), 0);
        due("costs", z.clocks(1, 1), 2);
    }

    private static void seedAndYears() {
        String town = "town 0 60 99;person 30 20;person 30 20;meet 0 1 100 10";
        LateAlways x = in(town);
        // from 0 on the draws, mod 11, less 5, are -5, 2, -5, 2, -5, 4, 2, 2
        due("a day", x.years(1, 1, 1), 7);
        due("four days", x.years(1, 4, 1), 23);
        due("twice two days", x.years(2, 2, 1), 23);
        due("none missed", x.years(2, 2, 0), 0);
        due("x stays", x.count(13), 0);
        LateAlways y = in(town.replace("99", "6"));
        due("missed", y.years(2, 2, 0), 3);
        due("costs", y.years(2, 2, 1), 18);
        due("held to 120 behind it", in(town, "late 999").years(1, 1, 1), 7);
        due("held to -30 behind it", in(town.replace("0 60", "0 1"), "late 0-999").years(1, 1, 1), 4);
        due("seed", x.seed(12345), 0);
        // the draws are 2, -5 now
        due("a day", x.years(1, 1, 1), 7);
        due("seed -1", x.seed(-1), -1);
        due("seed least", x.seed(Integer.MIN_VALUE), -1);
        due("seed most", x.seed(Integer.MAX_VALUE), 12345);
        due("x", x.count(13), Integer.MAX_VALUE);
        due("seed 0", x.seed(0), Integer.MAX_VALUE);
        due("no act", x.count(12), 0);
        int[][] none = {{0, 1, 0}, {11, 1, 0}, {1, 0, 0}, {1, 61, 0}, {1, 1, 2}, {1, 1, -1}, {-1, 1, 0}};
        for (int[] n : none) {
            due("years(" + n[0] + ", " + n[1] + ", " + n[2] + ")", x.years(n[0], n[1], n[2]), -1);
        }
        due("years begin from now", x.count(7), 0);
        due("most years", x.years(10, 60, 0), 0);
    }

    private static void count() {
        LateAlways x = in(TOWN, "late habit");
        x.day();
        x.let(0);
        x.let(2);
        x.log(1, 1, 1);
        x.seed(9);
        x.feed(1, 2, 3, 4, 5);
        int[] counts = {5, 15, 20, 3, 2, 1, 0, 1, 5, 8, 27, 1, 3, 9, 20};
        for (int what = 0; what < counts.length; what++) {
            due("count(" + what + ")", x.count(what), counts[what]);
        }
        for (int w : new int[] {-1, 15, Integer.MIN_VALUE, Integer.MAX_VALUE}) {
            due("count(" + w + ")", x.count(w), -1);
        }
    }

    private static void imageAndBack() {
        LateAlways x = new LateAlways();
        due("image of no town", x.image(3), 0);
        Texts.town(x, TOWN);
        Texts.rule(x, "late habit");
        x.force(0);
        x.day();
        x.let(1);
        x.seed(4);
        x.log(0, 0, 10);
        due("image", x.image(0), 1);
        Texts.rule(x, "late 3");
        x.force(1);
        x.day();
        x.day();
        x.undo();
        x.ask(0, 5);
        x.seed(8);
        x.log(-1, 0, 0);
        x.feed(0, 0, 0, 0, 0);
        due("image", x.image(1), 2);
        Texts.town(x, "town 0 1 1");
        due("back", x.back(0), 1);
        int[] counts = {5, 15, 20, 3, 2, 2, 0, 1, 2, 8, 27, 1, 2, 4};
        for (int what = 0; what < counts.length; what++) {
            due("count(" + what + ") back", x.count(what), counts[what]);
        }
        due("minute", x.meeting(0, 2), 60);
        due("late last", x.person(2, 3), 3);
        due("undo", x.undo(), 1);
        due("undo", x.undo(), 0);
        due("day 0", x.person(2, 3), 5);
        due("undo", x.undo(), -2);
        due("back to the other", x.back(1), 2);
        due("rule in force", x.count(6), 1);
        due("minute", x.meeting(0, 2), 5);
        due("acts", x.count(12), 4);
        due("back once more", x.back(0), 1);
        due("acts", x.count(12), 2);
        due("made anew", x.image(0), 1);
        due("never made", x.back(2), -1);
        for (int k : new int[] {-1, 4, Integer.MIN_VALUE, Integer.MAX_VALUE}) {
            due("image(" + k + ")", x.image(k), -1);
            due("back(" + k + ")", x.back(k), -1);
        }
        due("nothing happened", x.count(12), 2);
        due("back to no town", x.back(3), 0);
        due("no town", x.day(), -1);
        due("rules stay", x.count(5), 2);
        due("no rule in force", x.count(6), -1);
    }

    public static void main(String[] args) {
        due("NONE", LateAlways.NONE, -1);
        newObject();
        feedAndEnd();
        town();
        faultsOfTown();
        rule();
        faultsOfRule();
        meanings();
        force();
        personAndMeeting();
        day();
        acts();
        undo();
        aheadAndToday();
        endsAndChain();
        minute();
        leaveAndWorth();
        rests();
        again();
        law();
        watch();
        clocksAndPardon();
        seedAndYears();
        count();
        imageAndBack();
        System.out.println(wrong == 0 ? "all promises hold" : wrong + " answers are not as due");
        if (wrong != 0) {
            System.exit(1);
        }
    }
}
