/** Promises 5 and 6: the text of a rule, what it says, and which is in force. */
final class EdgesOfRules {
    /** Nobody is held up, and no clock is wrong: one is as late as they mean to be. */
    private static final String PLAIN = "town 3 60 99;person 37 20;person 20 20;person 27 20;exempt 2;meet 0 2 100 10";

    private EdgesOfRules() {
    }

    private static void fault(String text, int place, int kind) {
        LateAlways x = new LateAlways();
        Due.is("rule \"" + text + "\"", Texts.rule(x, text), -2 - (1 + 8 * place + kind));
        Due.is("no rule behind \"" + text + "\"", x.count(5), 0);
    }

    private static void good(String text) {
        Due.is("rule \"" + text + "\"", Texts.rule(new LateAlways(), text), 0);
    }

    /** How late the first of a meeting, person 0, means to be. */
    private static void meant(String rule, int want) {
        Due.is("late by " + rule, Due.in(PLAIN, rule).today(0, 1), want);
    }

    private static void holds(String test, boolean want) {
        meant("late 5 if " + test + ";late 6", want ? 5 : 6);
    }

    // ---- 5: how many rules, which numbers

    static void p05_numbers0To5ThenNone() {
        LateAlways x = new LateAlways();
        for (int rule = 0; rule < 6; rule++) {
            Due.is("rule", Texts.rule(x, "late " + rule), rule);
            Due.is("rules", x.count(5), rule + 1);
            Due.is("tape is empty then", x.count(14), 0);
        }
        Due.is("a seventh", Texts.rule(x, "late 6"), -1);
        Due.is("rules", x.count(5), 6);
        Due.is("its tape stays", x.count(14), 6);
    }

    static void p05_nothingHappensByASeventh() {
        Due.nothingHappens("a seventh rule", x -> {
            EdgesOfTexts.busy(x);
            x.end(0);
            for (int rule = 2; rule < 6; rule++) {
                Texts.rule(x, "late " + rule);
            }
            Texts.feed(x, "town 7 8 9;person 1 1");
        }, LateAlways::rule);
    }

    static void p05_aFaultTakesNoNumber() {
        LateAlways x = new LateAlways();
        Due.is("fault", Texts.rule(x, "late"), -2 - (1 + 8 * 4));
        Due.is("tape is empty then", x.count(14), 0);
        Due.is("rules", x.count(5), 0);
        Due.is("the first", Texts.rule(x, "late 1"), 0);
        Due.is("fault", Texts.rule(x, "late 1 if"), -2 - (1 + 8 * 9));
        Due.is("the second", Texts.rule(x, "late 2"), 1);
    }

    static void p05_nothingElseHappensByAFault() {
        Due.nothingHappens("a rule with a fault", x -> {
            EdgesOfTexts.busy(x);
            x.end(0);
        }, x -> {
            Texts.rule(x, "late 1 if 1<2;late 2+3*4 if not [1");
            Texts.rule(x, "");
        });
    }

    static void p05_aRuleIsReadAnewEachTime() {
        // what a rule, or a fault, left behind within the reader must not show
        LateAlways x = Due.in(PLAIN);
        Due.is("fault", Texts.rule(x, "late 9 if not not [[[1<2 and 1+2*"), -2 - (1 + 8 * 33));
        Due.is("rule", Texts.rule(x, "late 1" + "+1".repeat(55) + " if " + "[".repeat(10) + "1=1" + "]".repeat(10)), 0);
        Due.is("rule", Texts.rule(x, "late 2" + "+1".repeat(59)), 1);
        x.force(0);
        Due.is("late by the first", x.today(0, 1), 56);
        x.force(1);
        Due.is("late by the second", x.today(0, 1), 61);
        x.force(0);
        Due.is("late by the first once more", x.today(0, 1), 56);
    }

    static void p05_signsThatAFaultLeftWaitingAreGone() {
        LateAlways x = Due.in(PLAIN);
        Due.is("fault", Texts.rule(x, "late 9 if not [[[1<2 and 1+2*"), -2 - (1 + 8 * 29));
        Due.is("rule", Texts.rule(x, "late 8+1"), 0);
        x.force(0);
        Due.is("late", x.today(0, 1), 9);
    }

    static void p05_clausesOfARuleBeforeAreGone() {
        LateAlways x = Due.in(PLAIN);
        Due.is("rule", Texts.rule(x, "late 1;late 2"), 0);
        Due.is("rule", Texts.rule(x, "late 7+1"), 1);
        Due.is("rule of twelve", Texts.rule(x, "late 1" + ";late 2".repeat(11)), 2);
        Due.is("rule of twelve", Texts.rule(x, "late 3 if 1=2" + ";late 4".repeat(11)), 3);
        int[] late = {1, 8, 1, 4};
        for (int rule = 0; rule < 4; rule++) {
            x.force(rule);
            Due.is("late by " + rule, x.today(0, 1), late[rule]);
        }
    }

    static void p05_sixRulesOfSixtyValues() {
        LateAlways x = Due.in(PLAIN);
        for (int rule = 0; rule < 6; rule++) {
            Due.is("rule", Texts.rule(x, "late " + rule + "+1".repeat(59)), rule);
        }
        for (int rule = 0; rule < 6; rule++) {
            x.force(rule);
            Due.is("late by " + rule, x.today(0, 1), 59 + rule);
        }
    }

    static void p05_needsNoTown() {
        LateAlways x = new LateAlways();
        Due.is("rule", Texts.rule(x, "late 8"), 0);
        Due.is("force", x.force(0), -1);
        Due.is("town", Texts.town(x, PLAIN), 1);
        Due.is("late by it", x.today(0, 1), 8);
    }

    // ---- 5: the bounds of its text

    static void p05_emptyTape() {
        fault("", 0, 0);
        fault("  ", 2, 0);
        fault(" ".repeat(400), 400, 0);
    }

    static void p05_aTextOf400Bytes() {
        good("late 1" + " ".repeat(394));
        good("late" + " ".repeat(395) + "1");
        fault("late 1" + " ".repeat(393) + "+", 400, 0);
        fault("late" + " ".repeat(396), 400, 0);
    }

    static void p05_12ClausesAtMost() {
        String twelve = "late 1 if 1=2" + ";late 1 if 1=2".repeat(11);
        good(twelve);
        int place = twelve.length() + 1;
        fault(twelve + ";late 1", place, 4);
        fault(twelve + ";late", place, 4);
        fault(twelve + ";lat", place, 0);
        fault(twelve + ";", place, 0);
        fault(twelve + ";;", place, 0);
        // the last of twelve is asked
        meant("late 1 if 1=2" + ";late 1 if 1=2".repeat(10) + ";late 77", 77);
    }

    static void p05_numbersOf1To5Digits() {
        meant("late 0", 0);
        meant("late 00007", 7);
        meant("late 99999/1000", 99);
        fault("late 100000", 5, 1);
        fault("late 000007", 5, 1);
        fault("late 1+999999", 7, 1);
        fault("late 1 if 1=222222", 12, 1);
        fault("late 1 if 222222", 10, 1);
        fault("late 4294967297", 5, 1);
    }

    static void p05_wordsAsFarAsLettersGoOn() {
        String[] words = {"person", "meeting", "asked", "habit", "least", "most", "other", "theirs", "mine", "fined",
            "waited", "day", "clock", "exempt"};
        for (String word : words) {
            good("late " + word);
            good("late 1 if " + word + "<" + word);
            fault("late " + word + "s", 5, 0);
            fault("late " + word + "z", 5, 0);
            fault("late " + word + "a", 5, 0);
            fault("late " + word.substring(1), 5, 0);
            fault("late " + word.substring(0, word.length() - 1), 5, 0);
            fault("late " + word + word, 5, 0);
        }
        fault("late Day", 5, 0);
        fault("late dAy", 5, 0);
        fault("late day2", 8, 0);
        fault("late late", 5, 0);
        fault("late 1 if if", 10, 0);
        fault("late 1 if and", 10, 0);
        fault("late 1 if or", 10, 0);
        fault("lateday", 0, 0);
        fault("late 1 if 1=1 notday=1", 14, 0);
    }

    static void p05_blanksAsOneLikes() {
        good("late1");
        good("late1if1<1");
        good("   late   1   if   not   [   1   <=   1   ]   ;   late   2   ");
        good("late day%day");
        fault("late 1 if 1 < = 1", 14, 0);
        fault("late 1 if 1 > = 1", 14, 0);
        fault("late\t1", 4, 0);
        fault("la te 1", 0, 0);
        fault("late 1 2", 7, 0);
    }

    static void p05_eachSignOfAFact() {
        holds("1<2", true);
        holds("2<2", false);
        holds("2<=2", true);
        holds("3<=2", false);
        holds("2=2", true);
        holds("1=2", false);
        holds("2>=2", true);
        holds("1>=2", false);
        holds("3>2", true);
        holds("2>2", false);
        fault("late 1 if 1<>2", 12, 0);
        fault("late 1 if 1==2", 12, 0);
        fault("late 1 if 1!2", 11, 0);
        fault("late 1 if 1=>2", 12, 0);
    }

    static void p05_10DeepAtMost() {
        good("late 1 if " + "[".repeat(10) + "1<1" + "]".repeat(10));
        fault("late 1 if " + "[".repeat(11) + "1<1" + "]".repeat(11), 20, 2);
        good("late 1 if " + "not ".repeat(10) + "1<1");
        fault("late 1 if " + "not ".repeat(11) + "1<1", 50, 2);
        good("late 1 if " + "not[".repeat(5) + "1<1" + "]".repeat(5));
        fault("late 1 if " + "not[".repeat(5) + "[1<1", 30, 2);
        fault("late 1 if " + "not[".repeat(5) + "not 1<1", 30, 2);
        // those that lie beside one another are not within one another
        good("late 1 if " + "not[".repeat(5) + "1<1" + "]".repeat(5) + "and " + "not[".repeat(5) + "1<1" + "]".repeat(5));
        good("late 1 if " + "[not ".repeat(5) + "1<1]and not 1<1" + "]".repeat(4));
        fault("late 1 if " + "[not ".repeat(5) + "1<1]and not not not not 1<1", 55, 2);
        good("late 1 if " + "not ".repeat(10) + "1<1;late 1 if " + "not ".repeat(10) + "1<1");
        // a sign that can't stand there is the least of its place
        fault("late 1 if " + "[".repeat(10) + "1[", 21, 0);
        fault("late 1 if " + "[".repeat(10) + "nott", 20, 0);
    }

    static void p05_60ValuesAndFactsAtMost() {
        good("late 1" + "+1".repeat(59));
        fault("late 1" + "+1".repeat(60), 125, 3);
        fault("late 1" + "+1".repeat(59) + "+day", 125, 3);
        // 57 values, then two and a fact are 60; 58 leave none for the second one, 59 none for the fact
        good("late 1" + "+1".repeat(56) + " if 1<1");
        fault("late 1" + "+1".repeat(57) + " if 1 < 1", 128, 3);
        fault("late 1" + "+1".repeat(58) + " if 1 < 1", 128, 3);
        fault("late 1" + "+1".repeat(59) + " if 1 < 1", 128, 3);
        // three clauses of 16 each and one of 12: all together, not by clause
        String sixteen = "late 1 if 1=1 and 1=1 and 1=1 and 1=1 and 1=1;";
        String sixty = sixteen.repeat(3) + "late 1+1+1+1+1+1 if 1=1 and 1=1";
        good(sixty);
        fault(sixty + ";late 1", 175, 3);
    }

    static void p05_ofAFactTooManyAtItsSign() {
        // the 60th is the value ahead of the sign
        fault("late 1" + "+1".repeat(58) + " if 1 <= 1", 128, 3);
        fault("late 1" + "+1".repeat(58) + " if 1 1", 128, 0);
        fault("late 1" + "+1".repeat(58) + " if 1 ]", 128, 0);
        fault("late 1" + "+1".repeat(58) + " if 1", 127, 0);
    }

    static void p05_ofOnePlaceTheLeastFault() {
        String sixty = "late 1" + "+1".repeat(59);
        fault(sixty + "+123456", 125, 1);
        fault(sixty + "+days", 125, 0);
        fault(sixty + "+", 125, 0);
        fault(sixty + "+[", 125, 0);
    }

    static void p05_theEndAndBytesThatCantStandThere() {
        fault("late", 4, 0);
        fault("late ", 5, 0);
        fault("late ;late 1", 5, 0);
        fault("late -1", 5, 0);
        fault("late +1", 5, 0);
        fault("late [1]", 5, 0);
        fault("late (1)", 5, 0);
        fault("late 1+", 7, 0);
        fault("late 1+;", 7, 0);
        fault("late 1*-1", 7, 0);
        fault("late 1<2", 6, 0);
        fault("late 1 and 1", 7, 0);
        fault("late 1]", 6, 0);
        fault("late 1 if", 9, 0);
        fault("late 1 if;", 9, 0);
        fault("late 1 if 1", 11, 0);
        fault("late 1 if 1]", 11, 0);
        fault("late 1 if 1 and 1<2", 12, 0);
        fault("late 1 if 1<", 12, 0);
        fault("late 1 if 1<[1<2]", 12, 0);
        fault("late 1 if 1<not", 12, 0);
        fault("late 1 if 1<2<3", 13, 0);
        fault("late 1 if 1<2]", 13, 0);
        fault("late 1 if 1<2 and", 17, 0);
        fault("late 1 if 1<2 or", 16, 0);
        fault("late 1 if 1<2 or;", 16, 0);
        fault("late 1 if 1<2 not 1<2", 14, 0);
        fault("late 1 if 1<2[", 13, 0);
        fault("late 1 if not", 13, 0);
        fault("late 1 if not;", 13, 0);
        fault("late 1 if []", 11, 0);
        fault("late 1 if [1]<2", 12, 0);
        fault("late 1 if [1<2", 14, 0);
        fault("late 1 if [1<2;", 14, 0);
        fault("late 1 if [1<2]]", 15, 0);
        fault("late 1 if [1<2]+1", 15, 0);
        fault("late 1 if [1<2]=1", 15, 0);
        fault("late 1 if [1<2]1", 15, 0);
        fault("late 1 if 1<2 if 1<2", 14, 0);
        fault("late 1 if 1<2,late 2", 13, 0);
        fault("late 1;", 7, 0);
        fault("late 1; ", 8, 0);
        fault("late 1;;late 2", 7, 0);
        fault("late 1;town 0 1 1", 7, 0);
        fault(";late 1", 0, 0);
        fault("late 1" + (char) 0, 6, 0);
    }

    static void p05_theFirstFaultAlongTheText() {
        fault("late 1 if 1<123456 and " + "[".repeat(11), 12, 1);
        fault("late 1 if " + "[".repeat(11) + "123456", 20, 2);
        fault("late 1 2;late 123456", 7, 0);
    }

    // ---- 5: what its sums say

    static void p05_divisionIsTowards0AndRestItsRest() {
        meant("late 7/2", 3);
        meant("late 7%2", 1);
        meant("late 0-7/2", -3);
        meant("late 0-7%2", -1);
        // (0-7) is not to be written at once: person is 0, so 20-least*9 is -7
        meant("late 20 if 20-least*9=0-7;late 1", 20);
        LateAlways x = Due.in("town 0 60 99;person 13 20;person 20 20;meet 0 1 0 1", "late habit/2");
        Due.is("-7/2", x.today(0, 1), -3);
        LateAlways y = Due.in("town 0 60 99;person 13 20;person 20 20;meet 0 1 0 1", "late habit%4");
        Due.is("-7%4", y.today(0, 1), -3);
        LateAlways z = Due.in("town 0 60 99;person 13 20;person 20 20;meet 0 1 0 1", "late 9%habit");
        Due.is("9%-7", z.today(0, 1), 2);
        LateAlways v = Due.in("town 0 60 99;person 13 20;person 20 20;meet 0 1 0 1", "late 15/habit");
        Due.is("15/-7", v.today(0, 1), -2);
    }

    static void p05_by0BothAre0() {
        meant("late 5/0+1", 1);
        meant("late 5%0+1", 1);
        meant("late 0/0+1", 1);
        meant("late 0%0+1", 1);
        meant("late 5/person+5%person+2", 2);
        holds("5/0=0 and 5%0=0", true);
    }

    static void p05_allGoesRoundIn64Bits() {
        String most = "65536*65536*65536*32768-1";
        String least = "65536*65536*65536*32768";
        meant("late " + most, 120);
        meant("late " + least, -30);
        meant("late " + most + "+1", -30);
        meant("late " + least + "-1", 120);
        meant("late 65536*65536*65536*65536", 0);
        meant("late 65536*65536*65536*65536+9", 9);
        // 32 bits are not where it goes round
        meant("late 65536*65536/65536/65536", 1);
        meant("late 65536*32768/65536/32768+3", 4);
        holds("65536*65536>1", true);
        holds(least + "<0", true);
        // the least number by -1 is itself, and leaves no rest; clock is -1 here
        String town = "town 0 60 99;person 20 19;person 20 20;meet 0 1 0 1";
        Due.is("least/-1", Due.in(town, "late " + least + "/clock").today(0, 1), -30 + 1);
        Due.is("least%-1", Due.in(town, "late " + least + "%clock+5").today(0, 1), 5 + 1);
    }

    static void p05_tightnessAndSides() {
        meant("late 2+3*4", 14);
        meant("late 20-3-4", 13);
        meant("late 20-3+4", 21);
        meant("late 60/3/2", 10);
        meant("late 60/3*2", 40);
        meant("late 60%7%3", 1);
        meant("late 17%5*3", 6);
        meant("late 5*7%4", 3);
        meant("late 5*7/2", 17);
        meant("late 60%7/2", 2);
        meant("late 60/7%3", 2);
        meant("late 2*3+4*5", 26);
        holds("1+1*2=3", true);
        holds("3<1+2", false);
        holds("3<5-2", false);
        holds("4<=1+2", false);
        holds("2=1+2", false);
        holds("2>=1+2", false);
        holds("3>1+2", false);
        holds("3-5<0-1", true);
        holds("not 1<2", false);
        holds("not 1<=1", false);
        holds("not 1>=2", true);
        holds("not 1>2", true);
        holds("not 2>=1", false);
        holds("not 2>1", false);
        holds("1<2 and 1<=2 and 2=2 and 2>=1 and 2>1", true);
        holds("1<2 and 1<=2 and 2=2 and 2>=1 and 1>2", false);
        holds("1=1 or 1=1 and 1=2", true);
        holds("1=2 and 1=1 or 1=1", true);
        holds("[1=1 or 1=1] and 1=2", false);
        holds("1=2 and [1=1 or 1=1]", false);
        holds("not 1=2 and 1=2", false);
        holds("not [1=2 and 1=2]", true);
        holds("not 1=1 or 1=1", true);
        holds("not not 1=1", true);
        holds("not not not 1=1", false);
    }

    static void p05_theWordsOfAPersonAndAMeeting() {
        meant("late person", 0);
        meant("late meeting+1", 1);
        meant("late asked", 100);
        meant("late habit", 17);
        meant("late least", 3);
        meant("late most", 60);
        meant("late other", 2);
        meant("late theirs", 7);
        meant("late mine", 17);
        meant("late fined+1", 1);
        meant("late waited+1", 1);
        meant("late day+1", 1);
        meant("late clock+1", 1);
        meant("late exempt+1", 1);
        // the second one, person 2, in the second meeting, a day later: 2 waited and was fined then, 0 was not
        String two = "town 30 60 99;fine 4 0;person 80 20;person 20 20;person 25 20;meet 0 1 50 10;meet 0 2 200 10";
        String[] words = {"person", "meeting", "asked/2", "habit+9", "other", "theirs", "mine", "fined", "waited", "day", "clock"};
        // day 0: 0 comes at 110, then at 260; 2 comes at 205, early, and waits 55; its clock is slow by 1 then;
        // day 1: 0 comes to meeting 0 at 110, as by its habit
        int[] due = {2, 1, 100, 14, 0, 60, 5, 4, 55, 1, -1};
        for (int i = 0; i < words.length; i++) {
            LateAlways y = Due.in(two, "late " + words[i] + " if day=1 and meeting=1;late habit");
            y.day();
            // one minute later by the clock
            Due.is(words[i], y.today(1, 2), due[i] + 1);
        }
        LateAlways x = Due.in(PLAIN, "late exempt*10+person");
        Due.is("the second is exempt, and 2", x.today(0, 2), 12);
    }

    static void p05_habitAndClockAtTheirBounds() {
        String town = "town 0 60 99;person 0 0;person 80 40;meet 0 1 0 1";
        LateAlways x = Due.in(town, "late habit");
        // less what the clock is fast
        Due.is("habit -20, clock -20", x.today(0, 1), -20 + 20);
        Due.is("habit 60, clock 20", x.today(0, 2), 60 - 20);
        LateAlways y = Due.in(town, "late clock");
        Due.is("clock -20", y.today(0, 1), -20 + 20);
        Due.is("clock 20", y.today(0, 2), 20 - 20);
    }

    // ---- 6: force

    static void p06_noneAtFirst() {
        LateAlways x = new LateAlways();
        Due.is("in force", x.count(6), -1);
        Due.is("force none, none was", x.force(-1), -1);
        Due.is("in force", x.count(6), -1);
    }

    static void p06_theLeastAndTheMostRule() {
        LateAlways x = new LateAlways();
        for (int rule = 0; rule < 6; rule++) {
            Due.is("force ahead of it", x.force(rule), -2);
            Texts.rule(x, "late " + rule);
        }
        Due.is("force(0)", x.force(0), -1);
        Due.is("force(5)", x.force(5), 0);
        Due.is("force(5) once more", x.force(5), 5);
        Due.is("in force", x.count(6), 5);
        Due.is("force(6)", x.force(6), -2);
        Due.is("force(-2)", x.force(-2), -2);
        Due.is("force(most)", x.force(Integer.MAX_VALUE), -2);
        Due.is("force(least)", x.force(Integer.MIN_VALUE), -2);
        Due.is("in force", x.count(6), 5);
        Due.is("force none", x.force(-1), 5);
        Due.is("in force", x.count(6), -1);
    }

    static void p06_nothingHappensIfThereIsNoneSuch() {
        Due.nothingHappens("force", EdgesOfTexts::busy, x -> {
            x.force(2);
            x.force(6);
            x.force(-2);
        });
    }

    static void p06_whatIsMeantByTheRuleInForce() {
        LateAlways x = Due.in(PLAIN);
        Texts.rule(x, "late 8");
        Texts.rule(x, "late 9");
        Due.is("by habit", x.today(0, 1), 17);
        x.force(1);
        Due.is("by rule 1", x.today(0, 1), 9);
        x.force(0);
        Due.is("by rule 0", x.today(0, 1), 8);
        x.force(-1);
        Due.is("by habit", x.today(0, 1), 17);
    }

    static void p06_isNoAct() {
        LateAlways x = Due.in(PLAIN, "late 8");
        Due.is("acts", x.count(12), 0);
        x.day();
        x.force(-1);
        Due.is("undo", x.undo(), 0);
        Due.is("none stays in force", x.count(6), -1);
    }
}
