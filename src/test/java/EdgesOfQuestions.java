/** Promises 14 to 17, 23, 29 and 31 to 33: days looked ahead at, logs, x, counts and images. */
final class EdgesOfQuestions {
    private static final int[] FAR = {Integer.MIN_VALUE, -1000, -2, -1, 64, 256, 1000, Integer.MAX_VALUE};
    private static final String PAIR = "town 0 60 99;person 20 20;person 20 20;meet 0 1 100 10";
    private static final String FIVE = "town 0 60 99" + ";person 20 20".repeat(5) + ";meet 3 4 100 10";
    private static final String EIGHT = "town 0 60 99;person 20 20;person 20 20" + ";meet 0 1 40 1".repeat(8);

    private EdgesOfQuestions() {
    }

    // ---- 14: ahead

    static void p14_daysFrom0To100() {
        // 0 waits a minute each day
        LateAlways x = Due.in(PAIR, "late person");
        int[] days = {0, 1, 2, 99, 100};
        for (int n : days) {
            Due.is("ahead " + n, x.ahead(0, n, 2), n);
        }
        x.day();
        Due.is("ahead 0 on day 1", x.ahead(0, 0, 2), 1);
        Due.is("ahead 100 on day 1", x.ahead(0, 100, 2), 101);
        int[] none = {-1, 101, Integer.MIN_VALUE, Integer.MAX_VALUE};
        for (int n : none) {
            Due.is("ahead " + n, x.ahead(0, n, 2), -1000);
        }
    }

    static void p14_theLeastAndTheMostWhat() {
        // early by one once, then the clock is slow by one
        LateAlways x = Due.in(PAIR, "late 0-1");
        int[][] ahead = {{0, 0, 0}, {-1, 1, 0}, {-1, 1, 0}};
        for (int n = 0; n < 3; n++) {
            for (int what = 0; what < 3; what++) {
                Due.is("ahead(0, " + n + ", " + what + ")", x.ahead(0, n, what), ahead[n][what]);
            }
        }
        Due.is("what 3", x.ahead(0, 1, 3), -1000);
        for (int what : FAR) {
            Due.is("what " + what, x.ahead(0, 1, what), -1000);
        }
    }

    static void p14_theLeastAndTheMostPerson() {
        LateAlways x = Due.in(FIVE, "late person");
        Due.is("ahead(0, ..)", x.ahead(0, 9, 2), 0);
        Due.is("ahead(3, ..)", x.ahead(3, 9, 2), 9);
        Due.is("ahead(4, ..)", x.ahead(4, 9, 2), 0);
        Due.is("ahead(5, ..)", x.ahead(5, 9, 2), -1000);
        for (int person : FAR) {
            Due.is("ahead(" + person + ", 9, 2)", x.ahead(person, 9, 2), -1000);
        }
    }

    static void p14_eachOfAPersonsOwn() {
        // early by a day's fine of 4 or over by 7; 0 waits; 2 has no meeting
        LateAlways x = Due.in("town 10 20 99;fine 4 7;person 20 20;person 60 20;person 20 23;meet 0 1 100 10");
        int[][] ahead = {{-1, 4, 40}, {1, 7, 0}, {3, 0, 0}};
        for (int p = 0; p < 3; p++) {
            for (int what = 0; what < 3; what++) {
                Due.is("ahead(" + p + ", 1, " + what + ")", x.ahead(p, 1, what), ahead[p][what]);
            }
        }
    }

    static void p14_nothingChanges() {
        Due.nothingHappens("ahead", EdgesOfTexts::busy, x -> {
            x.ahead(0, 100, 0);
            x.ahead(1, 7, 1);
            x.ahead(2, 1, 2);
        });
    }

    // ---- 15: today

    static void p15_theLeastAndTheMostMeeting() {
        LateAlways x = Due.in(EIGHT);
        Due.is("today(0, 0)", x.today(0, 0), 40);
        Due.is("today(7, 0)", x.today(7, 0), 47);
        Due.is("today(8, 0)", x.today(8, 0), -1000);
        for (int meeting : FAR) {
            Due.is("today(" + meeting + ", 0)", x.today(meeting, 0), -1000);
        }
    }

    static void p15_theLeastAndTheMostWhat() {
        LateAlways x = Due.in(PAIR, "late 3+person*4");
        int[] today = {107, 3, 7, 4};
        for (int what = 0; what < 4; what++) {
            Due.is("today(0, " + what + ")", x.today(0, what), today[what]);
        }
        Due.is("what 4", x.today(0, 4), -1000);
        for (int what : FAR) {
            Due.is("what " + what, x.today(0, what), -1000);
        }
    }

    static void p15_noneIfItIsMissed() {
        LateAlways x = Due.in("town 0 60 9;person 20 20;person 20 20;meet 0 1 100 10", "late 30-person*10");
        int[] today = {-1, 30, 20, 9};
        for (int what = 0; what < 4; what++) {
            Due.is("today(0, " + what + ")", x.today(0, what), today[what]);
        }
    }

    static void p15_nothingChanges() {
        Due.nothingHappens("today", EdgesOfTexts::busy, x -> {
            for (int what = 0; what < 4; what++) {
                x.today(0, what);
                x.today(1, what);
            }
        });
    }

    // ---- 16: ends

    static void p16_theLeastAndTheMostPerson() {
        LateAlways x = Due.in(FIVE);
        Due.is("ends(0), without a meeting", x.ends(0), -1);
        Due.is("ends(3)", x.ends(3), 110);
        Due.is("ends(4)", x.ends(4), 110);
        Due.is("ends(5)", x.ends(5), -1000);
        for (int person : FAR) {
            Due.is("ends(" + person + ")", x.ends(person), -1000);
        }
        Due.is("nobody", Due.in("town 0 1 1").ends(0), -1000);
    }

    static void p16_theEndOfTheirLastMeeting() {
        // the last by its minute, not by its number
        LateAlways x = Due.in("town 0 60 99;person 20 20;person 20 20;person 20 20;meet 0 1 300 7;meet 0 2 100 9");
        Due.is("ends(0)", x.ends(0), 307);
        Due.is("ends(1)", x.ends(1), 307);
        Due.is("ends(2)", x.ends(2), 109);
        x.ask(0, 50);
        Due.is("ends(0)", x.ends(0), 109);
        Due.is("ends(1)", x.ends(1), 57);
    }

    static void p16_nothingChanges() {
        Due.nothingHappens("ends", EdgesOfTexts::busy, x -> x.ends(1));
    }

    // ---- 17: chain

    static void p17_nobodyHasAMeeting() {
        LateAlways x = Due.in("town 0 60 99;person 20 20");
        Due.is("who", x.chain(0), -1);
        Due.is("when", x.chain(1), -1);
        LateAlways y = Due.in("town 0 60 99");
        Due.is("who", y.chain(0), -1);
        Due.is("when", y.chain(1), -1);
    }

    static void p17_theLeastAndTheMostPerson() {
        Due.is("who", Due.in(PAIR).chain(0), 0);
        Due.is("when", Due.in(PAIR).chain(1), 110);
        // 0 waits a minute in vain, 1 comes later
        LateAlways x = Due.in("town 0 60 1;person 20 20;person 80 20;meet 0 1 100 10");
        Due.is("who", x.chain(0), 1);
        Due.is("when", x.chain(1), 160);
        LateAlways y = Due.in("town 0 60 1" + ";person 20 20".repeat(4) + ";person 80 20;meet 4 3 100 10");
        Due.is("who", y.chain(0), 4);
        Due.is("when", y.chain(1), 160);
    }

    static void p17_ofSeveralTheLeast() {
        LateAlways x = Due.in(FIVE);
        Due.is("who", x.chain(0), 3);
        Due.is("when", x.chain(1), 110);
        LateAlways y = Due.in(FIVE + ";meet 0 1 200 10;meet 1 2 201 9");
        // 1 is held up until 210 and ends at 219 with 2
        Due.is("who", y.chain(0), 1);
        Due.is("when", y.chain(1), 219);
    }

    static void p17_endsAheadOfMinute0AreEnds() {
        LateAlways x = Due.in("town 0 60 99;person 20 20;person 20 20;person 20 20;meet 1 2 0 1", "late 0-2");
        Due.is("who", x.chain(0), 1);
        Due.is("when", x.chain(1), -1);
        x.set(1, 20);
        x.set(2, 20);
        Due.is("who", x.chain(0), 1);
        Due.is("when", x.chain(1), -21);
    }

    static void p17_otherWhatsOrWithoutATown() {
        LateAlways x = Due.in(PAIR);
        Due.is("what 2", x.chain(2), -1000);
        for (int what : FAR) {
            Due.is("what " + what, x.chain(what), -1000);
        }
        Due.is("without a town", new LateAlways().chain(0), -1000);
    }

    static void p17_nothingChanges() {
        Due.nothingHappens("chain", EdgesOfTexts::busy, x -> {
            x.chain(0);
            x.chain(1);
        });
    }

    // ---- 23: log

    static void p23_daysFrom0To30() {
        LateAlways x = Due.in(PAIR);
        Due.is("log 0", x.log(0, 0, 0), 1);
        Due.is("log 30", x.log(30, 0, 0), 2);
        int[] none = {31, -2, Integer.MIN_VALUE, Integer.MAX_VALUE};
        for (int n : none) {
            Due.is("log " + n, x.log(n, 0, 0), -2);
        }
        Due.is("logs", x.count(11), 2);
    }

    static void p23_lateFromMinus100To1000() {
        LateAlways x = Due.in(PAIR);
        Due.is("late -100", x.log(0, 0, -100), 1);
        Due.is("late 1000", x.log(0, 0, 1000), 2);
        int[] none = {-101, 1001, Integer.MIN_VALUE, Integer.MAX_VALUE};
        for (int late : none) {
            Due.is("late " + late, x.log(0, 0, late), -2);
        }
        Due.is("logs", x.count(11), 2);
    }

    static void p23_theLeastAndTheMostPerson() {
        LateAlways x = Due.in(FIVE);
        Due.is("of 4", x.log(0, 4, 0), 1);
        Due.is("of 5", x.log(0, 5, 0), -2);
        for (int person : FAR) {
            Due.is("of " + person, x.log(0, person, 0), -2);
        }
        Due.is("logs", x.count(11), 1);
    }

    static void p23_tenAtMost() {
        LateAlways x = Due.in(PAIR);
        for (int i = 1; i <= 10; i++) {
            Due.is("log", x.log(0, 0, 0), i);
        }
        Due.is("an eleventh", x.log(0, 0, 0), -2);
        Due.is("logs", x.count(11), 10);
        Due.is("none then", x.log(-1, 0, 0), 0);
        Due.is("logs", x.count(11), 0);
        Due.is("the first anew", x.log(0, 0, 0), 1);
    }

    static void p23_noneLooksAtNothingElse() {
        LateAlways x = Due.in(PAIR);
        x.log(0, 0, 0);
        Due.is("none", x.log(-1, -77, 99999), 0);
        Due.is("logs", x.count(11), 0);
        Due.is("none of none", x.log(-1, 0, 0), 0);
    }

    static void p23_nothingHappensWhenRefused() {
        Due.nothingHappens("log", EdgesOfTexts::busy, x -> {
            x.log(31, 0, 0);
            x.log(-2, 0, 0);
            x.log(0, 3, 0);
            x.log(0, 0, 1001);
        });
        Due.nothingHappens("log", x -> {
            EdgesOfTexts.busy(x);
            for (int i = 1; i < 10; i++) {
                x.log(0, 0, 10);
            }
        }, x -> x.log(0, 1, 7));
    }

    static void p23_isNoAct() {
        LateAlways x = Due.in(PAIR);
        x.log(0, 0, 0);
        Due.is("acts", x.count(12), 0);
        Due.is("undo", x.undo(), -2);
    }

    // ---- 29: seed

    static void p29_0AndTheMost() {
        LateAlways x = new LateAlways();
        Due.is("0 at first", x.seed(Integer.MAX_VALUE), 0);
        Due.is("x", x.count(13), Integer.MAX_VALUE);
        Due.is("seed 0", x.seed(0), Integer.MAX_VALUE);
        Due.is("x", x.count(13), 0);
        Due.is("seed 1", x.seed(1), 0);
        Due.is("as it is", x.seed(1), 1);
    }

    static void p29_below0IsRefused() {
        LateAlways x = new LateAlways();
        x.seed(7);
        Due.is("seed -1", x.seed(-1), -1);
        Due.is("seed least", x.seed(Integer.MIN_VALUE), -1);
        Due.is("x", x.count(13), 7);
        Due.nothingHappens("seed", EdgesOfTexts::busy, y -> y.seed(-1));
    }

    static void p29_isNoAct() {
        LateAlways x = Due.in(PAIR);
        x.day();
        x.seed(7);
        Due.is("acts", x.count(12), 1);
        x.undo();
        Due.is("x stays", x.count(13), 7);
    }

    // ---- 31: count

    static void p31_theLeastAndTheMostWhat() {
        LateAlways x = new LateAlways();
        EdgesOfTexts.busy(x);
        // day 0: 0 comes at 70, 1 at 80, over; 1 is held up until 110, over; 2 comes at 93 and is exempt
        x.undo();
        int[] counts = {5, 15, 20, 3, 2, 2, 0, 1, 6, 6, 27, 1, 4, 4711, 8};
        for (int what = 0; what < 15; what++) {
            Due.is("count(" + what + ")", x.count(what), counts[what]);
        }
        Due.is("count(15)", x.count(15), -1);
        for (int what : FAR) {
            Due.is("count(" + what + ")", x.count(what), -1);
        }
    }

    static void p31_whoIsExemptAsBits() {
        LateAlways x = Due.in(FIVE + ";exempt 4;exempt 0");
        Due.is("who", x.count(8), 17);
        for (int p = 1; p < 4; p++) {
            x.let(p);
        }
        Due.is("all", x.count(8), 31);
    }

    static void p31_finesAndWaitedOfAllFiveTogether() {
        // all are over, by 2 each; each first one waits 10; how late they were last is not among these
        LateAlways x = Due.in("town 0 5 99;fine 0 2;person 40 20;person 50 20;person 40 20;person 50 20;person 60 20;"
                + "meet 0 1 100 1;meet 2 3 100 1;meet 4 1 300 1");
        x.day();
        Due.is("fines", x.count(9), 6 * 2);
        Due.is("waited, with 10 of 1 for 4", x.count(10), 30);
    }

    static void p31_theMostOfEach() {
        LateAlways x = Due.in("town 59 60 99" + ";person 20 20".repeat(5) + ";meet 0 1 0 1".repeat(8));
        int[] counts = {59, 60, 99, 5, 8};
        for (int what = 0; what < 5; what++) {
            Due.is("count(" + what + ")", x.count(what), counts[what]);
        }
    }

    // ---- 32: image

    static void p32_numbersFrom0To3() {
        LateAlways x = Due.in(PAIR);
        for (int k = 0; k < 4; k++) {
            Due.is("image(" + k + ")", x.image(k), k);
            x.day();
        }
        Due.is("image(4)", x.image(4), -1);
        for (int k : FAR) {
            Due.is("image(" + k + ")", x.image(k), -1);
        }
        for (int k = 3; k >= 0; k--) {
            Due.is("back(" + k + ")", x.back(k), k);
            Due.is("day", x.count(7), k);
        }
    }

    static void p32_withoutATown() {
        LateAlways x = new LateAlways();
        Due.is("image", x.image(0), 0);
        Texts.town(x, PAIR);
        x.day();
        Due.is("back", x.back(0), 0);
        Due.is("no town", x.day(), -1);
        Due.is("nobody", x.count(3), 0);
        Due.is("without a town again", x.chain(0), -1000);
    }

    static void p32_madeAnewInPlaceOfTheOneThereWas() {
        LateAlways x = Due.in(PAIR);
        x.image(0);
        x.day();
        Due.is("anew", x.image(0), 1);
        x.day();
        Due.is("back", x.back(0), 1);
    }

    static void p32_nothingChangesByIt() {
        Due.nothingHappens("a refused image", EdgesOfTexts::busy, x -> {
            x.image(4);
            x.image(-1);
        });
        LateAlways x = Due.in(PAIR);
        x.day();
        x.image(0);
        Due.is("no act", x.count(12), 1);
        Due.is("undo", x.undo(), 0);
    }

    // ---- 33: back

    static void p33_neverMadeOrWithoutIt() {
        LateAlways x = Due.in(PAIR);
        x.image(1);
        x.day();
        Due.is("back(0)", x.back(0), -1);
        Due.is("back(2)", x.back(2), -1);
        Due.is("back(4)", x.back(4), -1);
        for (int k : FAR) {
            Due.is("back(" + k + ")", x.back(k), -1);
        }
        Due.is("day stays", x.count(7), 1);
        Due.nothingHappens("back", EdgesOfTexts::busy, y -> {
            y.back(0);
            y.back(3);
            y.back(4);
            y.back(-1);
        });
    }

    static void p33_rulesAndTapeStay() {
        LateAlways x = Due.in(PAIR);
        x.image(0);
        Texts.rule(x, "late 4");
        x.force(0);
        Texts.feed(x, "late 6");
        Due.is("back", x.back(0), 0);
        Due.is("rules", x.count(5), 1);
        Due.is("none in force, as it was", x.count(6), -1);
        Due.is("tape", x.count(14), 6);
        Due.is("rule of it", x.rule(), 1);
        x.force(1);
        Due.is("late by it", x.today(0, 1), 6);
        x.force(0);
        Due.is("late by the other one", x.today(0, 1), 4);
    }

    static void p33_theRuleInForceAndWhatCanBeUndoneToo() {
        LateAlways x = Due.in(PAIR, "late 4");
        for (int act = 1; act <= 23; act++) {
            x.ask(0, act);
        }
        x.image(0);
        x.force(-1);
        for (int left = 19; left >= 15; left--) {
            x.undo();
        }
        for (int act = 1; act <= 23; act++) {
            x.ask(0, 300 + act);
        }
        Due.is("back", x.back(0), 0);
        Due.is("in force", x.count(6), 0);
        Due.is("acts", x.count(12), 20);
        for (int left = 19; left >= 0; left--) {
            Due.is("undo", x.undo(), left);
            Due.is("minute", x.meeting(0, 2), left + 3);
        }
        Due.is("none more", x.undo(), -2);
    }

    static void p33_logsAndXAndTheTownToo() {
        LateAlways x = new LateAlways();
        EdgesOfTexts.busy(x);
        x.end(0);
        x.seed(1);
        x.log(-1, 0, 0);
        x.log(5, 1, 5);
        x.log(6, 1, 5);
        Texts.town(x, PAIR);
        Due.is("back", x.back(1), 1);
        int[] counts = {5, 15, 20, 3, 2, 2, 0, 1, 6, 6, 27, 1, 4, 4711, 0};
        for (int what = 0; what < 15; what++) {
            Due.is("count(" + what + ")", x.count(what), counts[what]);
        }
        // the log is that behind day 0 person 0 was late 10, by habit+day
        Due.is("habits", x.habit(0, 0), 1);
        Due.is("the first", x.habit(0, 1), 10);
        Due.is("length of a meeting", x.meeting(1, 3), 20);
        // a day goes by the fines of that town: over is 3
        x.let(1);
        x.day();
        Due.is("fines", x.person(1, 4), 6 + 6);
    }

    static void p33_allTenLogs() {
        // ten logs that 10 alone is so by, the last of which says it
        LateAlways x = Due.in(PAIR + ";exempt 0;exempt 1", "late habit if day=9;late 0");
        for (int n = 0; n < 10; n++) {
            x.log(n, 0, n == 9 ? 10 : 0);
        }
        x.image(0);
        Texts.town(x, PAIR);
        x.back(0);
        Due.is("logs", x.count(11), 10);
        Due.is("how many", x.habit(0, 0), 1);
        Due.is("the first", x.habit(0, 1), 10);
        x.log(-1, 0, 0);
        for (int n = 0; n < 10; n++) {
            x.log(30, 1, 60);
        }
        x.back(0);
        Due.is("how many", x.habit(0, 0), 1);
        Due.is("of the other one", x.habit(1, 0), 9);
    }

    static void p33_anImageStaysAsItWas() {
        LateAlways x = Due.in(PAIR);
        x.image(0);
        for (int i = 0; i < 3; i++) {
            x.day();
            x.set(0, 5 + i);
            x.ask(0, 7 + i);
            x.let(0);
            x.log(1, 1, 1);
            x.seed(9 + i);
            Due.is("back", x.back(0), 0);
            Due.is("clock", x.person(0, 1), 0);
            Due.is("minute", x.meeting(0, 2), 100);
            Due.is("exempt", x.count(8), 0);
            Due.is("logs", x.count(11), 0);
            Due.is("acts", x.count(12), 0);
            Due.is("x", x.count(13), 0);
        }
    }

    static void p33_backToOneAndToAnother() {
        LateAlways x = Due.in(PAIR);
        x.image(0);
        x.day();
        x.image(3);
        Due.is("back(0)", x.back(0), 0);
        Due.is("back(3)", x.back(3), 1);
        Due.is("undo", x.undo(), 0);
        Due.is("day", x.count(7), 0);
        Due.is("back(3)", x.back(3), 1);
        Due.is("acts", x.count(12), 1);
    }
}
