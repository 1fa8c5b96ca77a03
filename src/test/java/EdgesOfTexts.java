/** Promises 1 to 4: a new object, the tape, and the text of a town. */
final class EdgesOfTexts {
    private static final String TWO = "town 0 1 1;person 0 0;person 0 0;";
    /** Some of all there is: acts, logs, rules, images, a tape that is a rule. */
    static final String BUSY_TOWN = "town 5 15 20;fine 2 3;person 30 20;person 40 20;person 25 22;exempt 2;"
            + "meet 0 1 60 30;meet 1 2 90 20";

    private EdgesOfTexts() {
    }

    static void busy(LateAlways x) {
        Texts.town(x, BUSY_TOWN);
        Texts.rule(x, "late habit+day");
        Texts.rule(x, "late 9");
        x.force(0);
        x.image(2);
        x.seed(4711);
        x.day();
        x.ask(0, 70);
        x.set(0, 3);
        x.let(1);
        x.log(0, 0, 10);
        x.image(1);
        x.day();
        Texts.feed(x, "late 3*7");
    }

    private static void fault(String text, int place, int kind) {
        LateAlways x = new LateAlways();
        Due.is("town \"" + text + "\"", Texts.town(x, text), -2 - (1 + 8 * place + kind));
        Due.is("no town behind \"" + text + "\"", x.day(), -1);
    }

    private static LateAlways good(String text, int meetings) {
        LateAlways x = new LateAlways();
        Due.is("town \"" + text + "\"", Texts.town(x, text), meetings);
        return x;
    }

    // ---- 1: a new object: no town, no rules, none in force

    static void p01_noTownNoRulesNoneInForce() {
        LateAlways x = new LateAlways();
        for (int what = 0; what < 15; what++) {
            Due.is("count(" + what + ")", x.count(what), what == 6 ? -1 : 0);
        }
    }

    static void p01_nothingToUndoNoImages() {
        LateAlways x = new LateAlways();
        Due.is("undo()", x.undo(), -2);
        for (int k = 0; k < 4; k++) {
            Due.is("back(" + k + ")", x.back(k), -1);
        }
    }

    static void p01_eachCallWithoutATown() {
        LateAlways x = new LateAlways();
        Due.is("person", x.person(0, 0), -1000);
        Due.is("meeting", x.meeting(0, 0), -1);
        Due.is("day", x.day(), -1);
        Due.is("ask", x.ask(0, 1), -1);
        Due.is("set", x.set(0, 1), -1000);
        Due.is("let", x.let(0), -1);
        Due.is("ahead", x.ahead(0, 0, 0), -1000);
        Due.is("today", x.today(0, 0), -1000);
        Due.is("ends", x.ends(0), -1000);
        Due.is("chain 0", x.chain(0), -1000);
        Due.is("chain 1", x.chain(1), -1000);
        Due.is("minute", x.minute(0, 0), -1);
        Due.is("leave 0", x.leave(0), -1);
        Due.is("leave 1", x.leave(1), -1);
        Due.is("rests", x.rests(0, 0), -1);
        Due.is("again 0", x.again(0), -1);
        Due.is("again 1", x.again(1), -1);
        Due.is("law", x.law(1, 2), -1);
        Due.is("log", x.log(0, 0, 0), -2);
        Due.is("log none", x.log(-1, 0, 0), 0);
        Due.is("habit", x.habit(0, 0), -1000);
        Due.is("door", x.door(0, 0), -1);
        Due.is("clocks", x.clocks(1, 0), -2);
        Due.is("pardon", x.pardon(1, 0), -2);
        Due.is("worth", x.worth(0, 1), -1000000);
        Due.is("years", x.years(1, 1, 0), -1);
        Due.is("no act", x.count(12), 0);
        Due.is("day 0", x.count(7), 0);
    }

    static void p01_twoObjectsShareNothing() {
        LateAlways one = new LateAlways();
        LateAlways other = new LateAlways();
        busy(one);
        for (int what = 0; what < 15; what++) {
            Due.is("count(" + what + ") of the other one", other.count(what), what == 6 ? -1 : 0);
        }
        Due.is("image of the other one", other.back(1), -1);
    }

    // ---- 2: feed

    static void p02_twentyBytesEachTimeUpTo400() {
        LateAlways x = new LateAlways();
        for (int bytes = 20; bytes <= 400; bytes += 20) {
            Due.is("feed", x.feed(0, 0, 0, 0, 0), bytes);
        }
        Due.is("feed the full tape", x.feed(0, 0, 0, 0, 0), -1);
        Due.is("none came", x.count(14), 400);
    }

    static void p02_380AreNotTooMany381Are() {
        LateAlways x = new LateAlways();
        for (int i = 0; i < 20; i++) {
            x.feed(0, 0, 0, 0, 0);
        }
        x.end(381);
        Due.is("feed behind 381", x.feed(0, 0, 0, 0, 0), -1);
        Due.is("none came", x.count(14), 381);
        x.end(380);
        Due.is("feed behind 380", x.feed(0, 0, 0, 0, 0), 400);
        x.end(1);
        Due.is("feed behind 1", x.feed(0, 0, 0, 0, 0), 21);
    }

    static void p02_refusedBytesAreNotWritten() {
        LateAlways x = new LateAlways();
        Texts.feed(x, "late 7" + " ".repeat(390));
        Due.is("tape", x.count(14), 396);
        // were they written up to 400, a sign would stand behind the 7
        Due.is("feed", x.feed(-1, -1, -1, -1, -1), -1);
        Due.is("tape", x.count(14), 396);
        Due.is("rule", x.rule(), 0);
    }

    static void p02_highestByteOfEachNumberFirst() {
        LateAlways x = Due.in("town 0 60 99;person 20 20;person 20 20;meet 0 1 0 1");
        // "late 1+2+3+4+5+6+7+8", byte by byte
        Due.is("feed", x.feed(0x6c617465, 0x20312b32, 0x2b332b34, 0x2b352b36, 0x2b372b38), 20);
        Due.is("rule", x.rule(), 0);
        x.force(0);
        Due.is("late", x.today(0, 1), 36);
    }

    static void p02_bytesComeBehindThoseThereWere() {
        LateAlways x = Due.in("town 0 60 99;person 20 20;person 20 20;meet 0 1 0 1");
        Texts.feed(x, "late 1");
        Texts.feed(x, "2+3");
        Due.is("tape", x.count(14), 9);
        Due.is("rule", x.rule(), 0);
        x.force(0);
        Due.is("late", x.today(0, 1), 15);
    }

    static void p02_bytesOf128AndMoreStayApart() {
        LateAlways x = new LateAlways();
        Due.is("feed of 255", x.feed(-1, -1, -1, -1, -1), 20);
        Due.is("rule of 255", x.rule(), -3);
        Due.is("l with its highest bit", Texts.rule(x, (char) ('l' + 128) + "ate 1"), -3);
        Due.is("blank with its highest bit", Texts.rule(x, "late 1" + (char) (32 + 128)), -2 - (1 + 8 * 6));
        Due.is("digit with its highest bit", Texts.rule(x, "late " + (char) ('1' + 128)), -2 - (1 + 8 * 5));
    }

    // ---- 3: end

    static void p03_asManyAsItHasAndNone() {
        LateAlways x = new LateAlways();
        Due.is("end(0) of none", x.end(0), 0);
        x.feed(0, 0, 0, 0, 0);
        Due.is("end(20) of 20", x.end(20), 20);
        Due.is("tape", x.count(14), 20);
        Due.is("end(19)", x.end(19), 19);
        Due.is("tape", x.count(14), 19);
        Due.is("end(0)", x.end(0), 0);
        Due.is("tape", x.count(14), 0);
    }

    static void p03_oneMoreThanItHasIsRefused() {
        LateAlways x = new LateAlways();
        Due.is("end(1) of none", x.end(1), -1);
        x.feed(0, 0, 0, 0, 0);
        Due.is("end(21) of 20", x.end(21), -1);
        Due.is("end(400) of 20", x.end(400), -1);
        Due.is("end(most)", x.end(Integer.MAX_VALUE), -1);
        Due.is("tape", x.count(14), 20);
        x.end(7);
        Due.is("end(8) of 7, though 20 were fed", x.end(8), -1);
        Due.is("tape", x.count(14), 7);
    }

    static void p03_below0IsRefused() {
        LateAlways x = new LateAlways();
        x.feed(0, 0, 0, 0, 0);
        Due.is("end(-1)", x.end(-1), -1);
        Due.is("end(least)", x.end(Integer.MIN_VALUE), -1);
        Due.is("tape", x.count(14), 20);
    }

    static void p03_itsFirstBytesAlone() {
        LateAlways x = Due.in("town 0 60 99;person 20 20;person 20 20;meet 0 1 0 1");
        Texts.feed(x, "late 12345");
        x.end(7);
        Due.is("rule", x.rule(), 0);
        x.force(0);
        Due.is("late", x.today(0, 1), 12);
    }

    static void p03_whatWasCutOffDoesNotGoOn() {
        LateAlways x = new LateAlways();
        Texts.feed(x, "late dayday");
        x.end(8);
        Due.is("a word", x.rule(), 0);
        Texts.feed(x, "late 1 if 1<=1");
        x.end(12);
        Due.is("a sign", x.rule(), -2 - (1 + 8 * 12));
        Texts.feed(x, "late 123456");
        x.end(10);
        Due.is("a number", x.rule(), 1);
        Texts.feed(x, "town 0 1 12;person 99 99");
        x.end(10);
        Due.is("a town", x.town(), 0);
        Due.is("patience", x.count(2), 1);
    }

    static void p03_nothingHappensWhenRefused() {
        Due.nothingHappens("end", EdgesOfTexts::busy, x -> {
            x.end(-1);
            x.end(9);
        });
    }

    // ---- 4: town: its bounds

    static void p04_emptyTape() {
        fault("", 0, 0);
        fault(" ", 1, 0);
        fault(" ".repeat(400), 400, 0);
    }

    static void p04_aTextOf400Bytes() {
        String text = "town 3 4 5" + " ".repeat(390);
        LateAlways x = good(text, 0);
        Due.is("least", x.count(0), 3);
        Due.is("tape is empty then", x.count(14), 0);
        fault("town 3 4 5" + " ".repeat(389) + ";", 400, 0);
        fault("town 3 4" + " ".repeat(392), 400, 0);
        fault("town 3 4 5" + " ".repeat(389) + "6", 399, 0);
    }

    static void p04_leastFrom0To59() {
        Due.is("least 0", good("town 0 60 1", 0).count(0), 0);
        Due.is("least 59", good("town 59 60 1", 0).count(0), 59);
        fault("town 60 60 1", 5, 1);
        fault("town 99999 60 1", 5, 1);
        fault("town -1 60 1", 5, 0);
    }

    static void p04_mostFrom1To60NotBelowLeast() {
        Due.is("most 1", good("town 0 1 1", 0).count(1), 1);
        Due.is("most 60", good("town 0 60 1", 0).count(1), 60);
        Due.is("most as least", good("town 59 59 1", 0).count(1), 59);
        Due.is("most as least", good("town 1 1 1", 0).count(1), 1);
        fault("town 0 0 1", 7, 1);
        fault("town 0 61 1", 7, 1);
        fault("town 59 58 1", 8, 1);
        fault("town 2 1 1", 7, 1);
    }

    static void p04_patienceFrom1To99() {
        Due.is("patience 1", good("town 0 1 1", 0).count(2), 1);
        Due.is("patience 99", good("town 0 1 99", 0).count(2), 99);
        fault("town 0 1 0", 9, 1);
        fault("town 0 1 100", 9, 1);
    }

    static void p04_townOnceTheFirstClause() {
        fault("town 0 1 1;town 0 1 1", 11, 4);
        fault("town 0 1 1;person 0 0;town 0 1 1", 22, 4);
        fault("person 0 0;town 0 1 1", 0, 4);
        fault("exempt 0", 0, 4);
        fault("meet 0 1 0 1", 0, 4);
        fault("fine 1 1;town 0 1 1", 0, 4);
        fault("  fine", 2, 4);
        // a word that can't stand there is the least of its place
        fault("late 1", 0, 0);
        fault("5", 0, 0);
        fault(";town 0 1 1", 0, 0);
    }

    static void p04_habitFrom0To80() {
        Due.is("habit 0", good("town 0 1 1;person 0 20", 0).person(0, 0), -20);
        Due.is("habit 20", good("town 0 1 1;person 20 20", 0).person(0, 0), 0);
        Due.is("habit 80", good("town 0 1 1;person 80 20", 0).person(0, 0), 60);
        fault("town 0 1 1;person 81 20", 18, 1);
    }

    static void p04_clockFrom0To40() {
        Due.is("clock 0", good("town 0 1 1;person 20 0", 0).person(0, 1), -20);
        Due.is("clock 20", good("town 0 1 1;person 20 20", 0).person(0, 1), 0);
        Due.is("clock 40", good("town 0 1 1;person 20 40", 0).person(0, 1), 20);
        fault("town 0 1 1;person 20 41", 21, 1);
    }

    static void p04_exemptAPersonThatWasTold() {
        fault("town 0 1 1;exempt 0", 18, 1);
        fault("town 0 1 1;exempt 0;person 0 0", 18, 1);
        Due.is("exempt 0", good("town 0 1 1;person 0 0;exempt 0", 0).count(8), 1);
        fault("town 0 1 1;person 0 0;exempt 1", 29, 1);
        fault("town 0 1 1;person 0 0;exempt 1;person 0 0", 29, 1);
        String five = "town 0 1 1" + ";person 0 0".repeat(5);
        Due.is("exempt 4", good(five + ";exempt 4", 0).count(8), 16);
        Due.is("exempt all", good(five + ";exempt0;exempt1;exempt2;exempt3;exempt4", 0).count(8), 31);
        Due.is("exempt twice", good(five + ";exempt 3;exempt 3", 0).count(8), 8);
        fault(five + ";exempt 5", five.length() + 8, 1);
    }

    static void p04_meetTwoPeopleThatWereTold() {
        fault("town 0 1 1;meet 0 1 0 1", 16, 1);
        fault("town 0 1 1;person 0 0;meet 0 1 0 1", 29, 1);
        fault("town 0 1 1;person 0 0;meet 0 1 0 1;person 0 0", 29, 1);
        fault("town 0 1 1;person 0 0;meet 1 0 0 1", 27, 1);
        Due.is("first", good(TWO + "meet 1 0 0 1", 1).meeting(0, 0), 1);
        Due.is("second", good(TWO + "meet 1 0 0 1", 1).meeting(0, 1), 0);
        fault(TWO + "meet 2 0 0 1", 38, 1);
        fault(TWO + "meet 0 2 0 1", 40, 1);
    }

    static void p04_meetTheSecondPersonIsNotTheFirst() {
        fault(TWO + "meet 0 0 0 1", 40, 1);
        fault(TWO + "meet 1 1 0 1", 40, 1);
        fault(TWO + "meet 1 00001 999 99", 40, 1);
        // where no number stands it is that, not the person
        fault(TWO + "meet 0 ;", 40, 0);
        fault(TWO + "meet 0", 39, 0);
    }

    static void p04_minuteFrom0To600() {
        Due.is("minute 0", good(TWO + "meet 0 1 0 1", 1).meeting(0, 2), 0);
        Due.is("minute 600", good(TWO + "meet 0 1 600 1", 1).meeting(0, 2), 600);
        fault(TWO + "meet 0 1 601 1", 42, 1);
        fault(TWO + "meet 0 1 -1 1", 42, 0);
    }

    static void p04_lengthFrom1To60() {
        Due.is("length 1", good(TWO + "meet 0 1 0 1", 1).meeting(0, 3), 1);
        Due.is("length 60", good(TWO + "meet 0 1 0 60", 1).meeting(0, 3), 60);
        fault(TWO + "meet 0 1 0 0", 44, 1);
        fault(TWO + "meet 0 1 0 61", 44, 1);
    }

    static void p04_finesFrom0To9() {
        // 0 is early, 1 is over
        String town = "town 10 10 99;person 20 20;person 40 20;meet 0 1 0 1;fine ";
        int[][] fines = {{0, 0}, {9, 9}, {0, 9}, {9, 0}};
        for (int[] fine : fines) {
            LateAlways x = good(town + fine[0] + " " + fine[1], 1);
            x.day();
            Due.is("early", x.person(0, 4), fine[0]);
            Due.is("over", x.person(1, 4), fine[1]);
        }
        fault(TWO + "fine 10 0", 38, 1);
        fault(TWO + "fine 0 10", 40, 1);
    }

    static void p04_fineOnceAtMost() {
        fault(TWO + "fine 1 1;fine 1 1", 42, 4);
        fault(TWO + "fine 1 1;person 0 0;fine 99 99", 53, 4);
    }

    static void p04_fines1And1Without() {
        String town = "town 10 10 99;person 20 20;person 40 20;meet 0 1 0 1";
        LateAlways x = good(town, 1);
        x.day();
        Due.is("early", x.person(0, 4), 1);
        Due.is("over", x.person(1, 4), 1);
        // fines, who is exempt and how many there are of a town, or of a fault, before do not stay
        LateAlways y = good(town + ";exempt 0;fine 7 8", 1);
        Texts.town(y, town + ";exempt 1;fine 5 99");
        Due.is("town", Texts.town(y, town), 1);
        y.day();
        Due.is("early", y.person(0, 4), 1);
        Due.is("over", y.person(1, 4), 1);
        Due.is("people", y.count(3), 2);
    }

    static void p04_40ClausesAtMost() {
        String forty = "town 0 1 1;person 0 0" + ";exempt0".repeat(38);
        good(forty, 0);
        int place = forty.length() + 1;
        fault(forty + ";exempt0", place, 4);
        fault(forty + ";person 0 0", place, 4);
        fault(forty + ";fine", place, 4);
        fault(forty + ";meet", place, 4);
        fault(forty + ";late", place, 0);
        fault(forty + ";", place, 0);
        fault(forty + ";;", place, 0);
        // the one before it has its fault first
        fault("town 0 1 1;person 0 0" + ";exempt0".repeat(37) + ";exempt1;exempt0", place - 2, 1);
    }

    static void p04_fivePeopleAtMost() {
        String five = "town 0 1 1" + ";person 0 0".repeat(5);
        Due.is("people", good(five, 0).count(3), 5);
        fault(five + ";person 0 0", five.length() + 1, 4);
        fault(five + "; person", five.length() + 2, 4);
        fault(five + ";persons", five.length() + 1, 0);
    }

    static void p04_eightMeetingsAtMost() {
        String eight = "town 0 1 1;person 0 0;person 0 0" + ";meet 0 1 5 1".repeat(8);
        Due.is("meetings", good(eight, 8).count(4), 8);
        fault(eight + ";meet 0 1 5 1", eight.length() + 1, 4);
        fault(eight + ";meet", eight.length() + 1, 4);
        fault(eight + ";meeting", eight.length() + 1, 0);
    }

    static void p04_peopleAndMeetingsInTheOrderTold() {
        LateAlways x = good("town 0 1 1;person 1 1;person 2 2;meet 1 0 9 9;person 3 3;fine 1 1;meet 0 2 8 8", 2);
        for (int p = 0; p < 3; p++) {
            Due.is("habit " + p, x.person(p, 0), p - 19);
            Due.is("clock " + p, x.person(p, 1), p - 19);
        }
        Due.is("minute 0", x.meeting(0, 2), 9);
        Due.is("minute 1", x.meeting(1, 2), 8);
    }

    static void p04_itIsDay0() {
        LateAlways x = good(BUSY_TOWN, 2);
        x.day();
        x.day();
        Texts.town(x, BUSY_TOWN);
        Due.is("day", x.count(7), 0);
        Due.is("fines", x.count(9), 0);
        Due.is("waited", x.count(10), 0);
        Due.is("held", x.meeting(0, 4), 0);
        Due.is("late last", x.person(2, 3), 5);
        Due.is("clock", x.person(2, 1), 2);
    }

    // ---- 4: town: numbers, words, blanks, faults

    static void p04_numbersOf1To5Digits() {
        Due.is("00001", good("town 00000 00001 00099", 0).count(1), 1);
        fault("town 000000 1 1", 5, 1);
        fault("town 0 000001 1", 7, 1);
        fault("town 0 1 000001", 9, 1);
        fault("town 0 1 11111111111111111111", 9, 1);
        // 4294967297 is 1 more than 2 to the 32
        fault("town 0 4294967297 1", 7, 1);
        // the bytes beside the digits
        fault("town /1 1 1", 5, 0);
        fault("town 1:1 1", 6, 0);
        fault("town 0 1 1 000001", 11, 0);
    }

    static void p04_wordsAsFarAsLettersGoOn() {
        fault("townx 0 1 1", 0, 0);
        fault("townz 0 1 1", 0, 0);
        fault("towna 0 1 1", 0, 0);
        fault("town`0 1 1", 4, 0);
        fault("town{0 1 1", 4, 0);
        fault("to wn 0 1 1", 0, 0);
        fault("TOWN 0 1 1", 0, 0);
        fault("town 0 1 1person 0 0", 10, 0);
        fault("town 0 1 1;personexempt 0 0", 11, 0);
        fault("town 0 1 1;p 0 0", 11, 0);
    }

    static void p04_blanksAsOneLikes() {
        good("town0 1 1", 0);
        good("   town   0   1   1   ;   person   0   0   ", 0);
        good("town0 1 1;person0 0;person0 0;meet0 1 0 1;exempt1;fine1 1", 1);
        fault("town 01 1", 9, 0);
        fault("town\t0 1 1", 4, 0);
        fault("town 0 1 1\n", 10, 0);
        fault("town 0 1 1" + (char) 0, 10, 0);
        fault((char) 160 + "town 0 1 1", 0, 0);
    }

    static void p04_aByteThatCantStandThereOrTheEnd() {
        fault("town", 4, 0);
        fault("town  ", 6, 0);
        fault("town 0", 6, 0);
        fault("town 0 1", 8, 0);
        fault("town 0 1,1", 8, 0);
        fault("town 0 1 1,", 10, 0);
        fault("town 0 1 1 1", 11, 0);
        fault("town 0 1 1 person 0 0", 11, 0);
        fault("town 0 1 1;", 11, 0);
        fault("town 0 1 1; ", 12, 0);
        fault("town 0 1 1;;person 0 0", 11, 0);
        fault("town 0 1 1;person", 17, 0);
        fault("town 0 1 1;person 0", 19, 0);
        fault("town 0 1 1;person 0;", 19, 0);
        fault("town 0 1 1;person 0 x", 20, 0);
        fault("town 0 1 1;exempt", 17, 0);
        fault("town 0 1 1;fine 1", 17, 0);
        fault(TWO + "meet 0 1 0", 43, 0);
        fault(TWO + "meet 0 1 0;", 43, 0);
    }

    static void p04_theFirstFaultAlongTheText() {
        fault("town 60 0 0;late", 5, 1);
        fault("town 0 1 1;person 81 41", 18, 1);
        fault("town 0 1 1;late;town 0 1 1", 11, 0);
        fault("town 0 1 1;town 99 99 99", 11, 4);
    }

    // ---- 4: town: what stays and what does not

    static void p04_noLogsNothingToUndoRuleInForceAndXStay() {
        LateAlways x = new LateAlways();
        busy(x);
        x.end(0);
        Due.is("town", Texts.town(x, "town 1 2 3;person 30 20;person 40 20;meet 0 1 7 8"), 1);
        int[] counts = {1, 2, 3, 2, 1, 2, 0, 0, 0, 0, 0, 0, 0, 4711, 0};
        for (int what = 0; what < 15; what++) {
            Due.is("count(" + what + ")", x.count(what), counts[what]);
        }
        Due.is("undo", x.undo(), -2);
        Due.is("late by the rule in force, habit+day", x.today(0, 1), 10);
        Due.is("images stay", x.back(1), 1);
        Due.is("its logs", x.count(11), 1);
        Due.is("its acts", x.count(12), 4);
    }

    static void p04_actsBehindATownCanBeUndoneUpToIt() {
        LateAlways x = good(BUSY_TOWN, 2);
        x.day();
        Texts.town(x, BUSY_TOWN);
        x.day();
        Due.is("undo", x.undo(), 0);
        Due.is("undo once more", x.undo(), -2);
        Due.is("day", x.count(7), 0);
    }

    static void p04_allStaysBehindAFault() {
        // the tape is empty then in both ways
        Due.nothingHappens("a town with a fault", x -> {
            busy(x);
            x.end(0);
        }, x -> {
            Texts.town(x, "town 1 2 3;person 1 1;person 2 2;meet 0 1 5 5;fine 9 9;exempt 0;meet 0 0 5 5");
            Texts.town(x, "");
            Texts.town(x, "town 7 7 7;person 80 40;");
        });
    }

    static void p04_tapeIsEmptyBehindAFault() {
        LateAlways x = new LateAlways();
        Texts.town(x, "town 0 0 0");
        Due.is("tape", x.count(14), 0);
        Due.is("a rule of it", x.rule(), -3);
    }
}
