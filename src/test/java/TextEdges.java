/** The edges of 'Terms', I: the texts of a CROSSING and of RULES, and their FAULTS. */
final class TextEdges {
    private static final String BOAT = "ferry 1 1 1";

    private final Sentences says;

    TextEdges(Sentences says) {
        this.says = says;
    }

    void all() {
        bytes();
        clauses();
        boat();
        people();
        beside();
        fog();
        begin();
        rules();
        numbersAndWords();
        signs();
        wordsOfWhom();
        words();
        sums();
        blanks();
        depth();
        parts();
        faultOfSign();
        faultOfNumber();
        faultOfDepth();
        faultOfParts();
        faultOfClause();
        faultOfSeveral();
    }

    private void ferryDue(String text, int want) {
        says.due("ferry of '" + text + "'", Check.feed(new AimFerry(), text).ferry(), want);
    }

    private void ruleDue(String text, int want) {
        says.due("rule of '" + text + "'", Check.feed(new AimFerry(), text).rule(), want);
    }

    /** A NUMBER between two texts: its least and most are taken, one beyond either is FAULT 1 at its first byte. */
    private void rangeDue(String ahead, int least, int most, String behind, int people) {
        ferryDue(ahead + least + behind, people);
        ferryDue(ahead + most + behind, people);
        ferryDue(ahead + (most + 1) + behind, Check.fault(ahead.length(), 1));
        if (least > 0) {
            ferryDue(ahead + (least - 1) + behind, Check.fault(ahead.length(), 1));
        }
        ferryDue(ahead + "-1" + behind, Check.fault(ahead.length(), 0));
    }

    private void bytes() {
        says.terms("A CROSSING is a text of at most 400 bytes");
        ferryDue(BOAT + " ".repeat(389), 0);
        ferryDue(" ".repeat(389) + BOAT, 0);
        ferryDue(" ".repeat(388) + BOAT + ";", Check.fault(400, 0));
        ferryDue(" ".repeat(390) + "ferry 1 1 ", Check.fault(400, 0));
        ferryDue(" ".repeat(400), Check.fault(400, 0));
        ferryDue("", Check.fault(0, 0));
        AimFerry f = Check.feed(new AimFerry(), BOAT + " ".repeat(389));
        says.due("bytes beyond 400", f.feed(0, 0, 0, 0, 0), -1);
        says.due("the 400 are as they were", f.ferry(), 0);
    }

    private void clauses() {
        says.terms("CLAUSE { ; CLAUSE }, 40 at most");
        ferryDue(BOAT, 0);
        ferryDue(BOAT + ";fog 7".repeat(39), 0);
        ferryDue(BOAT + ";fog 7".repeat(38) + ";cork 1", 1);
        ferryDue(BOAT + ";fog 7".repeat(40), Check.fault(11 + 39 * 6 + 1, 4));
        ferryDue(BOAT + ";", Check.fault(12, 0));
        ferryDue(";" + BOAT, Check.fault(0, 0));
    }

    private void boat() {
        says.terms("LOAD 0 to 99");
        rangeDue("ferry ", 0, 99, " 1 1", 0);
        says.due("LOAD 0", Check.crossing("ferry 0 1 1").count(0), 0);
        says.due("LOAD 99", Check.crossing("ferry 99 1 1").count(0), 99);
        says.terms("SEATS 1 to 7");
        rangeDue("ferry 1 ", 1, 7, " 1", 0);
        says.due("SEATS 1", Check.crossing("ferry 0 1 1").count(1), 1);
        says.due("SEATS 7", Check.crossing("ferry 0 7 1").count(1), 7);
        says.terms("FOG 0 to 20, what fog weighs");
        rangeDue("ferry 1 1 ", 0, 20, "", 0);
        says.due("FOG 0", Check.crossing("ferry 1 1 0;fog 0").weight(0), 0);
        says.due("FOG 20", Check.crossing("ferry 1 1 20;fog 0").weight(0), 20);
        says.terms("once, the first CLAUSE");
        ferryDue(BOAT + ";" + BOAT, Check.fault(12, 4));
        ferryDue("person 1 1;" + BOAT, Check.fault(0, 4));
        ferryDue("cork 1", Check.fault(0, 4));
        ferryDue("beside 0 1 1", Check.fault(0, 4));
        ferryDue("fog 1", Check.fault(0, 4));
    }

    private void people() {
        says.terms("AIM 0 to 40");
        rangeDue(BOAT + ";person ", 0, 40, " 1", 1);
        says.due("AIM 0", Check.crossing(BOAT + ";person 0 1").person(0, 0), 0);
        says.due("AIM 40", Check.crossing(BOAT + ";person 40 1").person(0, 0), 40);
        says.terms("GROWS 0 to 9");
        rangeDue(BOAT + ";person 1 ", 0, 9, "", 1);
        says.due("GROWS 0", Check.crossing(BOAT + ";person 1 0").person(0, 1), 0);
        says.due("GROWS 9", Check.crossing(BOAT + ";person 1 9").person(0, 1), 9);
        says.terms("one more PERSON, of AIM 0, GROWS 0, who LIGHTENS by 1 to 20");
        rangeDue(BOAT + ";cork ", 1, 20, "", 1);
        AimFerry f = Check.crossing(BOAT + ";person 40 9;cork 1;cork 20");
        says.due("more PEOPLE", f.count(3), 3);
        says.due("AIM", f.person(1, 0), 0);
        says.due("GROWS", f.person(1, 1), 0);
        says.due("LIGHTENS by 1", f.person(1, 2), 1);
        says.due("LIGHTENS by 20", f.person(2, 2), 20);
        says.terms("PEOPLE 0 to 6, in the order told");
        f = Check.crossing(BOAT + ";person 1 7;cork 12;person 3 6;person 4 5;cork 15;person 6 3;person 7 2");
        int[] aims = {1, 0, 3, 4, 0, 6, 7};
        for (int person = 0; person <= 6; person++) {
            says.due("PERSON " + person, f.person(person, 0), aims[person]);
        }
        says.due("PERSON 7", f.person(7, 0), -1);
        says.due("PERSON -1", f.person(-1, 0), -1);
        ferryDue(BOAT + ";cork 1".repeat(7), 7);
        ferryDue(BOAT + ";cork 1".repeat(8), Check.fault(11 + 7 * 7 + 1, 4));
        says.due("no PEOPLE", Check.crossing(BOAT).person(0, 0), -1);
    }

    private void beside() {
        says.terms("two PEOPLE that were told");
        ferryDue(BOAT + ";cork 1;cork 1;beside 0 1 1", 2);
        ferryDue(BOAT + ";cork 1;cork 1;beside 1 0 1", 2);
        ferryDue(BOAT + ";cork 1;cork 1;beside 2 0 1", Check.fault(33, 1));
        ferryDue(BOAT + ";cork 1;cork 1;beside 0 2 1", Check.fault(35, 1));
        ferryDue(BOAT + ";cork 1;beside 0 1 1;cork 1", Check.fault(28, 1));
        ferryDue(BOAT + ";beside 0 1 1;cork 1;cork 1", Check.fault(19, 1));
        ferryDue(BOAT + ";cork 1".repeat(7) + ";beside 6 5 1", 7);
        ferryDue(BOAT + ";cork 1".repeat(7) + ";beside 6 7 1", Check.fault(70, 1));
        says.terms("how much more they weigh, if both are aboard, 0 to 9");
        rangeDue(BOAT + ";cork 1;cork 1;beside 0 1 ", 0, 9, "", 2);
        AimFerry f = Check.crossing(BOAT + ";person 2 0;person 3 0;person 4 0;beside 0 1 9;beside 1 2 0");
        says.due("both", f.weight(3), 14);
        says.due("both, by 0", f.weight(6), 7);
        says.due("one alone", f.weight(1), 2);
        says.due("the other alone", f.weight(2), 3);
        says.due("one with a third", f.weight(5), 6);
        says.terms("of the same two, either way round, the last told");
        f = Check.crossing(BOAT + ";cork 1;cork 1;cork 1;beside 0 1 9;beside 1 0 4;beside 1 2 3;beside 1 2 0");
        says.due("the other way round", f.beside(0, 1), 4);
        says.due("the other way round", f.beside(1, 0), 4);
        says.due("the same way, by 0", f.beside(1, 2), 0);
    }

    private void fog() {
        says.terms("an HOUR, 0 to 60; told already: nothing new");
        rangeDue(BOAT + ";fog ", 0, 60, "", 0);
        AimFerry f = Check.crossing("ferry 9 1 3;fog 60;fog 0;fog 0;fog 60");
        says.due("HOUR 0, told twice", f.weight(0), 3);
        f.trip();
        says.due("HOUR 1", f.count(11), 0);
        for (int hour = 1; hour < 59; hour++) {
            f.trip();
        }
        says.due("HOUR 59", f.count(11), 0);
        f.trip();
        says.due("HOUR 60", f.count(11), 1);
        says.due("HOUR 60, told twice", f.weight(0), 3);
        f.trip();
        says.due("HOUR 61", f.count(11), 0);
        for (int hour = 61; hour < 64; hour++) {
            f.trip();
        }
        says.due("HOUR 64 is not HOUR 0", f.count(11), 0);
    }

    private void begin() {
        says.terms("It is HOUR 0; the boat and all are on SIDE 0, nothing has been thrown over.");
        AimFerry f = Check.crossing("ferry 9 2 0;person 3 0;person 4 0");
        f.toss(0, 1);
        f.cross(3);
        Check.crossing(f, "ferry 9 2 0;person 9 1;person 4 0");
        says.due("SHIPPED once", f.cross(1) + f.count(9), 1);
        Check.crossing(f, "ferry 9 2 0;person 3 0;person 4 0");
        says.due("HOUR", f.count(6), 0);
        says.due("the boat", f.count(7), 0);
        says.due("all", f.count(8), 0);
        says.due("SHIPPED", f.count(9), 0);
        says.due("the bottom", f.count(10), 0);
        says.due("AIM", f.person(0, 0), 3);
    }

    private void rules() {
        says.terms("RULES 0 to 5: texts likewise, 12 CLAUSES at most");
        ruleDue("board 1", 0);
        ruleDue("board 1" + ";board 1".repeat(11), 0);
        ruleDue("board 1" + ";board 1".repeat(12), Check.fault(7 + 11 * 8 + 1, 4));
        ruleDue("board 1" + " ".repeat(393), 0);
        ruleDue("board 1;" + " ".repeat(392), Check.fault(400, 0));
        ruleDue(" ".repeat(400), Check.fault(400, 0));
        ruleDue("board 1;", Check.fault(8, 0));
        ruleDue("", Check.fault(0, 0));
        AimFerry f = new AimFerry();
        for (int rule = 0; rule <= 5; rule++) {
            says.due("RULE " + rule, Check.feed(f, "board 1").rule(), rule);
        }
        says.due("a seventh", Check.feed(f, "board 1").rule(), -1);
    }

    private void numbersAndWords() {
        says.terms("NUMBER (1 to 5 digits, as far as digits go on)");
        ruleDue("board 0", 0);
        ruleDue("board 99999", 0);
        ruleDue("board 00000", 0);
        ruleDue("board 000000", Check.fault(6, 1));
        ruleDue("board 100000", Check.fault(6, 1));
        ruleDue("board " + "9".repeat(300), Check.fault(6, 1));
        ruleDue("board", Check.fault(5, 0));
        ruleDue("board 1 2", Check.fault(8, 0));
        ferryDue("ferry 00001 00001 00000", 0);
        ferryDue("ferry 1 000001 1", Check.fault(8, 1));
        ferryDue("ferry 4294967297 1 1", Check.fault(6, 1));
        ferryDue("ferry 99720", Check.fault(6, 1));
        AimFerry f = Check.rule(Check.crossing("ferry 9 1 0;person 1 0"), "board 1 if 99999=99998+1 and 00010=10");
        says.due("all digits count", f.trip(), 1);
        says.terms("WORDS (small letters, as far as these go on)");
        ruleDue("board aim", 0);
        ruleDue("board aims", Check.fault(6, 0));
        ruleDue("board ai", Check.fault(6, 0));
        ruleDue("board Aim", Check.fault(6, 0));
        ruleDue("board aiM", Check.fault(6, 0));
        ruleDue("board aim2", Check.fault(9, 0));
        ruleDue("boardaim", Check.fault(0, 0));
        ruleDue("board aim if aim>1andaim<2", Check.fault(18, 0));
        ruleDue("board aim if aim>1and 1<aim", 0);
        ruleDue("board 1if1=1or2=2", 0);
        ruleDue("board aim`", Check.fault(9, 0));
        ruleDue("board aim{", Check.fault(9, 0));
        ferryDue("ferry1 1 1;cork1;person0 0;beside0 1 1;fog1", 2);
        ferryDue("ferryz 1 1 1", Check.fault(0, 0));
        ferryDue("ferr 1 1 1", Check.fault(0, 0));
    }

    /** Whether one comes aboard, of AIM 1, if a TEST is so. */
    private void testDue(String test, int want) {
        AimFerry f = Check.rule(Check.crossing("ferry 9 1 0;person 1 0"), "board 1 if " + test);
        says.due("whether " + test, f.ahead(0, 1, 0), want);
    }

    private void signs() {
        says.terms("SIGN one of < <= = >= >");
        String[] signs = {"<", "<=", "=", ">=", ">"};
        int[][] want = {{1, 0, 0}, {1, 1, 0}, {0, 1, 0}, {0, 1, 1}, {0, 0, 1}};
        for (int k = 0; k < signs.length; k++) {
            for (int left = 1; left <= 3; left++) {
                testDue(left + signs[k] + 2, want[k][left - 1]);
                testDue("not " + left + signs[k] + 2, 1 - want[k][left - 1]);
                testDue(left + signs[k] + 2 + " and 1=1", want[k][left - 1]);
            }
        }
        says.terms("TEST: PART { or PART }. PART: FACT { and FACT }. FACT: not FACT | [ TEST ] (these brackets are signs)");
        testDue("1=1 and 1=2", 0);
        testDue("1=2 and 1=1", 0);
        testDue("1=1 and 2=2 and 3=4", 0);
        testDue("1=1 or 1=2", 1);
        testDue("1=2 or 2=3 or 3=3", 1);
        testDue("1=1 or 1=1 and 1=2", 1);
        testDue("[1=1 or 1=1] and 1=2", 0);
        testDue("not 1=2 or 1=1", 1);
        testDue("not [1=2 or 1=1]", 0);
        testDue("not 1=1 and 1=2", 0);
        testDue("not [1=1 and 1=2]", 1);
        says.terms("SUM: TERM { (+ or -) TERM }. TERM: VALUE { (* or / or %) VALUE }. VALUE: ");
        testDue("7-2-1=4", 1);
        testDue("7-2+1=6", 1);
        testDue("1+2*3=7", 1);
        testDue("2*3+1=7", 1);
        testDue("9-8/2*3-1=0-4", 1);
        testDue("17%10/2*3=9", 1);
        testDue("1-2<0", 1);
    }

    private void wordsOfWhom() {
        says.terms("of a PERSON on the boat's SIDE who is not aboard");
        AimFerry f = Check.crossing("ferry 9 2 0;person 1 0;person 2 0;person 3 0");
        f.cross(1);
        f.cross(0);
        says.due("who is on the other SIDE is not asked", Check.rule(f, "board 9-aim*2 if waits<3").trip(), 6);
        f = Check.rule(Check.crossing("ferry 9 3 0;person 1 0;person 2 0"), "board 1 if aboard=0 or person=0");
        says.due("who is aboard is not asked again", f.trip(), 1);
        says.due("over alone", f.count(8), 1);
        says.due("on SIDE 1 one waits", Check.rule(f, "board 1 if waits=1 and side=1").trip(), 1);
    }

    private void words() {
        says.terms("person, aim, grows, light, side (the boat's), hour, weight (of all aboard so far), room (LOAD less that), "
            + "aboard (how many are), waits (how many are on this SIDE and not aboard), more (by how much WEIGHT grows with "
            + "them), fog (1 in this HOUR, else 0)");
        testDue("person=0 and aim=1 and grows=0 and light=0 and side=0 and hour=0", 1);
        testDue("weight=0 and room=9 and aboard=0 and waits=1 and more=1 and fog=0", 1);
        // nobody weighs 5 in fog, so room is below 0; the cork makes it 1
        AimFerry f = Check.crossing("ferry 4 2 5;cork 4;person 3 2;beside 0 1 1;fog 0");
        says.due("a cork", Check.rule(f, "board 1 if light=4 and weight=5 and room=0-1 and more=0-4 and waits=2").ahead(0, 1, 0), 1);
        says.due("fog", Check.rule(f, "board 1 if fog=1").ahead(0, 1, 0), 1);
        Check.rule(f, "board 1 if light=4;board 1 if more=4 and grows=2 and weight=1 and room=3 and aboard=1 and waits=1");
        says.due("with 3 and 1 more", f.waits(1), -2);
        f = Check.crossing("ferry 5 2 5;cork 4;person 3 2;beside 0 1 1;fog 0");
        Check.rule(f, "board 1 if light=4;board 1 if more=4 and grows=2 and weight=1 and room=4 and aboard=1 and waits=1");
        says.due("of 5", f.waits(1), 0);
        f = Check.crossing("ferry 9 2 5;person 3 0;person 6 0;fog 1");
        f.cross(1);
        says.due("on SIDE 1, in fog", Check.rule(f, "board 1 if side=1 and hour=1 and more=1 and weight=5 and waits=1 and fog=1")
            .ahead(0, 1, 0), 0);
        f = Check.crossing("ferry 9 2 9;cork 2;cork 3;person 1 0;fog 3");
        says.due("more is 0, where WEIGHT is 0", Check.rule(f, "board 1 if more=0").trip(), 3);
    }

    private void sums() {
        says.terms("/ is towards 0, % its rest, both 0 by 0");
        // in fog room is 2 - 9 with nobody aboard; the cork may board
        AimFerry f = Check.crossing("ferry 2 2 9;cork 9;fog 0");
        says.due("by 2", Check.rule(f, "board 1 if room=0-7 and room/2=0-3 and room%2=0-1").ahead(0, 1, 0), 1);
        says.due("by room", Check.rule(f, "board 1 if 15/room=0-2 and 15%room=1").ahead(0, 1, 0), 1);
        says.due("both below 0", Check.rule(f, "board 1 if room/room=1 and room%room=0").ahead(0, 1, 0), 1);
        says.due("by 0", Check.rule(f, "board 1 if room/0=0 and room%0=0 and 7/hour=0 and 7%hour=0").ahead(0, 1, 0), 1);
        says.due("0 by 0", Check.rule(f, "board 1 if 0/0=0 and 0%0=0 and 5+7/0*3=5").ahead(0, 1, 0), 1);
        says.terms("all goes round in 64 bits");
        // room is -1; 2 to the 63rd is the least of all, and by -1 it goes round to itself
        f = Check.crossing("ferry 0 1 1;cork 1;fog 0");
        String least = "65536*32768*65536*65536";
        says.due("the most and 1", Check.rule(f, "board 1 if " + least + "<0").ahead(0, 1, 0), 1);
        says.due("the least less 1", Check.rule(f, "board " + least + "-1").ahead(0, 1, 0), 1);
        says.due("the least is not above 0", Check.rule(f, "board " + least).ahead(0, 1, 0), 0);
        says.due("twice the least", Check.rule(f, "board 1 if " + least + "*2=0 and " + least + "+" + least + "=0")
            .ahead(0, 1, 0), 1);
        says.due("the least by -1", Check.rule(f, "board 1 if " + least + "/room<0 and " + least + "%room=0")
            .ahead(0, 1, 0), 1);
        says.due("0 less the least", Check.rule(f, "board 1 if 0-" + least + "<0").ahead(0, 1, 0), 1);
    }

    private void blanks() {
        says.terms("Blanks (32) stand between as one likes");
        ferryDue("  ferry   1  1 1  ;  cork  1  ", 1);
        ferryDue("ferry1 1 1;cork1", 1);
        ferryDue("ferry\t1 1 1", Check.fault(5, 0));
        ferryDue("ferry 1\n1 1", Check.fault(7, 0));
        ferryDue("ferry\u00a01 1 1", Check.fault(5, 0));
        ferryDue("ferry 1 1 1\0", Check.fault(11, 0));
        ferryDue("fer ry 1 1 1", Check.fault(0, 0));
        ruleDue("  board  aim  +  1  if  [  not  aim  <=  2  ]  ", 0);
        ruleDue("board aim+1if[not aim<=2]", 0);
        ruleDue("board 1 if aim< =2", Check.fault(16, 0));
        ruleDue("board\t1", Check.fault(5, 0));
    }

    private void depth() {
        says.terms("[ and not lie within one another 10 deep at most");
        String test = "board 1 if ";
        ruleDue(test + "[".repeat(10) + "1=1" + "]".repeat(10), 0);
        ruleDue(test + "[".repeat(11) + "1=1" + "]".repeat(11), Check.fault(21, 2));
        ruleDue(test + "not ".repeat(10) + "1=1", 0);
        ruleDue(test + "not ".repeat(11) + "1=1", Check.fault(51, 2));
        ruleDue(test + "not[".repeat(5) + "1=1" + "]".repeat(5), 0);
        ruleDue(test + "not[".repeat(5) + "not 1=1" + "]".repeat(5), Check.fault(31, 2));
        ruleDue(test + "not[".repeat(5) + "[1=1]" + "]".repeat(5), Check.fault(31, 2));
        ruleDue(test + "[".repeat(10) + "1=1" + "]".repeat(10) + "and " + "not ".repeat(10) + "1=1", 0);
        ruleDue(test + "[".repeat(9) + "[1=1]or[1=1]and not 1=1" + "]".repeat(9), 0);
        ruleDue(test + "[".repeat(10) + "1=1]and[1=1" + "]".repeat(10), 0);
        AimFerry f = Check.crossing("ferry 9 1 0;person 1 0");
        says.due("10 deep", Check.rule(f, test + "not [".repeat(5) + "1=1" + "]".repeat(5)).ahead(0, 1, 0), 0);
        says.due("10 deep", Check.rule(f, test + "not ".repeat(10) + "1=1").ahead(0, 1, 0), 1);
        // as much as can wait at once: an or and an and of each level
        String waiting = test + "1=2 or 1=1 and[".repeat(9);
        says.due("9 deep", Check.rule(f, waiting + "1+2*3=7" + "]".repeat(9)).ahead(0, 1, 0), 1);
        says.due("9 deep", Check.rule(f, waiting + "1=1+1*1" + "]".repeat(9)).ahead(0, 1, 0), 0);
    }

    private void parts() {
        says.terms("at most 60 VALUES (of SUMS) and FACTS made of a SIGN, together");
        ruleDue("board " + "1+".repeat(59) + "1", 0);
        ruleDue("board " + "1+".repeat(60) + "1", Check.fault(126, 3));
        ruleDue("board " + "fog*".repeat(59) + "aim", 0);
        ruleDue("board " + "fog*".repeat(60) + "aim", Check.fault(246, 3));
        // 57 VALUES, two more and a SIGN are 60
        ruleDue("board " + "1+".repeat(56) + "1 if 1=1", 0);
        ruleDue("board " + "1+".repeat(57) + "1 if 1=1", Check.fault(6 + 57 * 2 + 7, 3));
        // not, [ and ] count nothing; 3 each: 19 FACTS and 3 VALUES are 60
        ruleDue("board 1+1+1 if 1=1" + " or not[1=1]".repeat(18), 0);
        ruleDue("board 1+1+1 if 1=1" + " or not[1=1]".repeat(19), Check.fault(18 + 18 * 12 + 8, 3));
        ruleDue("board 1+1+1+1+1" + ";board 1+1+1+1+1".repeat(11), 0);
        ruleDue("board 1+1+1+1+1" + ";board 1+1+1+1+1".repeat(10) + ";board 1+1+1+1+1+1", Check.fault(192, 3));
        AimFerry f = Check.crossing("ferry 9 1 0;person 1 0;person 1 0");
        says.due("60 are reckoned", Check.rule(f, "board " + "0+".repeat(59) + "person").ahead(1, 1, 0), 1);
        says.due("each text has 60", Check.feed(f, "board " + "1+".repeat(59) + "1").rule(), 1);
    }

    private void faultOfSign() {
        says.terms("FAULTS, the first along the text, 1 + 8 * its place and: 0 a byte or WORD that can't stand there, "
            + "or the end (behind the last byte)");
        ferryDue("\u00ff", -2 - (1 + 8 * 0));
        ferryDue(" x", -2 - (1 + 8 * 1));
        ferryDue("\0" + BOAT, Check.fault(0, 0));
        ferryDue("board 1", Check.fault(0, 0));
        ferryDue("ferry 1 1", Check.fault(9, 0));
        ferryDue("ferry 1 1  ", Check.fault(11, 0));
        ferryDue("ferry 1 1;cork 1", Check.fault(9, 0));
        ferryDue("ferry 1 1 1 1", Check.fault(12, 0));
        ferryDue("ferry 1 1 1 cork 1", Check.fault(12, 0));
        ferryDue(BOAT + ";cork", Check.fault(16, 0));
        ferryDue(BOAT + ";cork x", Check.fault(17, 0));
        ferryDue(BOAT + ";cork 1 1", Check.fault(19, 0));
        ferryDue(BOAT + ";person 1", Check.fault(20, 0));
        ferryDue(BOAT + ";fog;fog", Check.fault(15, 0));
        ferryDue(BOAT + ";cork 1;cork 1;beside 0 1", Check.fault(36, 0));
        ferryDue("ferry 1 x 100", Check.fault(8, 0));
        ruleDue("ferry 1 1 1", Check.fault(0, 0));
        ruleDue("board 1+", Check.fault(8, 0));
        ruleDue("board 1 if", Check.fault(10, 0));
        ruleDue("board if", Check.fault(6, 0));
        ruleDue("board 1 if 1", Check.fault(12, 0));
        ruleDue("board 1 if 1=", Check.fault(13, 0));
        ruleDue("board 1 if 1=1=1", Check.fault(14, 0));
        ruleDue("board 1 if [1=1", Check.fault(15, 0));
        ruleDue("board 1 if 1=1]", Check.fault(14, 0));
        ruleDue("board 1 if []", Check.fault(12, 0));
        ruleDue("board 1 if [1]=1", Check.fault(13, 0));
        ruleDue("board 1 or 1", Check.fault(8, 0));
        ruleDue("board not", Check.fault(6, 0));
        ruleDue("board 1 if 1=1 not 1=1", Check.fault(15, 0));
        ruleDue("board 1 if 1=>1", Check.fault(13, 0));
        ruleDue("board 1 if 1!1", Check.fault(12, 0));
    }

    private void faultOfNumber() {
        says.terms("1 a NUMBER of more digits, or not as told (of beside the second PERSON, if it is the first)");
        ferryDue("ferry 100000 1 1", Check.fault(6, 1));
        ferryDue("ferry  000001 1 1", Check.fault(7, 1));
        ferryDue("ferry 1 9 99", Check.fault(8, 1));
        ferryDue("ferry 1 9 x", Check.fault(8, 1));
        ferryDue(BOAT + ";cork 1;beside 0 0 1", Check.fault(28, 1));
        ferryDue(BOAT + ";cork 1;beside 1 1 1", Check.fault(26, 1));
        ferryDue(BOAT + ";cork 1;cork 1;beside 1   1 99", Check.fault(37, 1));
        ferryDue(BOAT + ";cork 1;cork 1;beside 1 01 1", Check.fault(35, 1));
        ferryDue(BOAT + ";cork 1;cork 1;beside 0 000001 1", Check.fault(35, 1));
        ruleDue("board 100000", Check.fault(6, 1));
        ruleDue("board 1+ 000000", Check.fault(9, 1));
    }

    private void faultOfDepth() {
        says.terms("2 too deep (at the sign that opens, or the word not)");
        ruleDue("board 1 if " + "[".repeat(10) + "  [1=1", Check.fault(23, 2));
        ruleDue("board 1 if " + "[".repeat(10) + "  not 1=1", Check.fault(23, 2));
        ruleDue("board 1 if " + "[".repeat(10) + "nots 1=1", Check.fault(21, 0));
        ruleDue("board 1 if " + "[".repeat(400 - 11), Check.fault(21, 2));
        ruleDue("board 1 if " + "not ".repeat(97), Check.fault(51, 2));
        ruleDue("board 1 if " + "[".repeat(10) + "1=1]]and[[[not 1=1", Check.fault(31, 2));
    }

    private void faultOfParts() {
        says.terms("3 one VALUE or FACT too many (at its first byte; of a FACT at its SIGN)");
        ruleDue("board " + "1+".repeat(60) + "  12345", Check.fault(128, 3));
        ruleDue("board " + "1+".repeat(60) + " weight", Check.fault(127, 3));
        // 59 VALUES and one of a TEST are 60: the SIGN is one too many
        ruleDue("board " + "1+".repeat(58) + "1 if 1 <= 1", Check.fault(6 + 58 * 2 + 1 + 6, 3));
        ruleDue("board " + "1+".repeat(57) + "1 if 1 <= 1", Check.fault(6 + 57 * 2 + 1 + 9, 3));
        ruleDue("board " + "1+".repeat(59) + "1 if 1 <= 1", Check.fault(6 + 59 * 2 + 1 + 4, 3));
        ruleDue("board " + "1+".repeat(60) + "1 x", Check.fault(126, 3));
    }

    private void faultOfClause() {
        says.terms("4 one CLAUSE too many, a second ferry, another CLAUSE ahead of it, an eighth PERSON, a cork too "
            + "(at its first byte)");
        String forty = BOAT + ";fog 7".repeat(39);
        ferryDue(forty + ";  fog 7", Check.fault(forty.length() + 3, 4));
        ferryDue(forty + ";cork 1", Check.fault(forty.length() + 1, 4));
        ferryDue(BOAT + ";  " + BOAT, Check.fault(14, 4));
        ferryDue(BOAT + ";fog 1;ferry 1 1 1", Check.fault(18, 4));
        ferryDue("  person 1 1", Check.fault(2, 4));
        String seven = BOAT + ";cork 1".repeat(7);
        ferryDue(seven + "; person 1 1", Check.fault(seven.length() + 2, 4));
        ferryDue(seven + ";cork 1", Check.fault(seven.length() + 1, 4));
        ferryDue(seven + ";fog 1;beside 0 6 1", 7);
        String twelve = "board 1" + ";board 1".repeat(11);
        ruleDue(twelve + ";  board 1", Check.fault(twelve.length() + 3, 4));
    }

    private void faultOfSeveral() {
        says.terms("Of one place the least.");
        String forty = BOAT + ";fog 7".repeat(39);
        ferryDue(forty + ";fogs 7", Check.fault(forty.length() + 1, 0));
        ferryDue(forty + ";", Check.fault(forty.length() + 1, 0));
        ferryDue(forty + ";7", Check.fault(forty.length() + 1, 0));
        String seven = BOAT + ";cork 1".repeat(7);
        ferryDue(seven + ";corks 1", Check.fault(seven.length() + 1, 0));
        ferryDue(BOAT + ";ferrys", Check.fault(12, 0));
        ferryDue("fogs 1", Check.fault(0, 0));
        String twelve = "board 1" + ";board 1".repeat(11);
        ruleDue(twelve + ";boards 1", Check.fault(twelve.length() + 1, 0));
        ruleDue("board " + "1+".repeat(60) + "100000", Check.fault(126, 1));
        ruleDue("board " + "1+".repeat(60) + "weights", Check.fault(126, 0));
        ruleDue("board " + "1+".repeat(60), Check.fault(126, 0));
        ruleDue("board " + "1+".repeat(58) + "1 if 1!1", Check.fault(6 + 58 * 2 + 1 + 5, 0));
    }
}
