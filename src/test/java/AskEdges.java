/** The edges of 'Terms', III: what is asked, NOTES, DRAWS, IMAGES. */
final class AskEdges {
    /** In HOUR 0 fog keeps the boat, so that from then on it is on SIDE 0 in odd HOURS, if nobody comes aboard. */
    private static final String LATE = "ferry 5 2 6;person 6 0;person 1 0;fog 0";

    private final Sentences says;

    AskEdges(Sentences says) {
        this.says = says;
    }

    void all() {
        nothingChanges();
        ahead();
        over();
        weight();
        most();
        lighten();
        fewest();
        fewestFirst();
        row();
        fare();
        fareLeft();
        stay();
        lies();
        waits();
        soothe();
        never();
        notes();
        ruled();
        look();
        draws();
        fogs();
        images();
    }

    private void nothingChanges() {
        says.terms("(By what is asked nothing changes; TRIPS go on by the RULE IN FORCE.)");
        AimFerry f = Check.rule(Check.crossing("ferry 20 3 5;person 12 3;person 6 2;cork 4;beside 0 1 2;fog 1"), "board 1");
        f.seed(5);
        f.note(3, 0, 1);
        f.toss(0, 2);
        f.trip();
        String before = Sentences.picture(f);
        f.ahead(0, 100, 0);
        f.over();
        f.weight(7);
        f.most(1);
        f.lighten(f.count(8));
        f.fewest(1);
        f.row(0);
        f.fare(7, 99, 0);
        f.stay(0);
        f.lies(0, 1, 20, 0);
        f.waits(0);
        f.soothe(30, 0);
        f.never();
        f.ruled(0);
        f.look(60, 0);
        f.fogs(10, 60, 50, 0);
        says.due("nothing changes", Sentences.picture(f).equals(before) ? 1 : 0, 1);
        says.due("what can be UNDONE is as it was", f.undo(), 1);
        says.due("AIM", f.person(0, 0), 10);
        f = Check.crossing("ferry 9 1 0;person 1 0;person 2 0");
        says.due("without a RULE", f.ahead(0, 1, 0), 1);
        says.due("by a RULE", Check.rule(f, "board aim").ahead(0, 1, 0), 0);
        f.force(-1);
        says.due("without one again", f.ahead(0, 1, 0), 1);
    }

    private void ahead() {
        says.terms("AHEAD n TRIPS (0 to 100): on which SIDE a PERSON is; their AIM; how often it has SHIPPED.");
        AimFerry f = Check.rule(Check.crossing("ferry 99 1 0;person 1 1"), "board 1");
        says.due("0 TRIPS", f.ahead(0, 0, 0), 0);
        says.due("1 TRIP", f.ahead(0, 1, 0), 1);
        says.due("99 TRIPS", f.ahead(0, 99, 0), 1);
        says.due("100 TRIPS", f.ahead(0, 100, 0), 0);
        says.due("101 TRIPS", f.ahead(0, 101, 0), -1);
        says.due("-1 TRIPS", f.ahead(0, -1, 0), -1);
        says.due("AIM now", f.ahead(0, 0, 1), 1);
        says.due("AIM", f.ahead(0, 97, 1), 98);
        says.due("AIM of 99 at most", f.ahead(0, 100, 1), 99);
        f = Check.crossing("ferry 5 1 0;person 5 1;person 5 1");
        int[] shipped = {0, 1, 2, 2};
        for (int n = 0; n < shipped.length; n++) {
            says.due("SHIPPED behind " + n, f.ahead(0, n, 2), shipped[n]);
        }
        says.due("SHIPPED behind 100", f.ahead(0, 100, 2), 2);
        f.trip();
        says.due("SHIPPED before, too", f.ahead(0, 0, 2), 1);
        says.due("SHIPPED before, too", f.ahead(0, 1, 2), 2);
    }

    private void over() {
        says.terms("OVER: the first HOUR, this one the first, of 100, at whose begin all PEOPLE are on SIDE 1.");
        AimFerry f = Check.rule(Check.crossing("ferry 5 1 0;person 2 0"), "board 1 if hour=98");
        says.due("the 100th HOUR", f.over(), 99);
        says.due("aboard in HOUR 100", Check.rule(f, "board 1 if hour=100").over(), -2);
        f.cross(0);
        says.due("HOUR 101 is the 101st from HOUR 1 on", f.over(), -2);
        f.cross(0);
        says.due("HOUR 101 is the 100th from HOUR 2 on", f.over(), 101);
        f = Check.crossing("ferry 5 1 0;person 2 0;person 2 0");
        says.due("all, not one", f.over(), 3);
        f.trip();
        f.trip();
        f.trip();
        says.due("this one the first", f.over(), 3);
        says.due("no fog that is not told", Check.crossing("ferry 5 1 6;person 2 0").over(), 1);
        says.due("no PEOPLE", Check.crossing("ferry 5 1 0").over(), 0);
    }

    private void weight() {
        says.terms("WEIGHT of a set, wherever they are, as if the boat were where it is, now.");
        AimFerry f = Check.crossing("ferry 20 1 3;person 7 0;person 4 0;fog 1");
        f.cross(1);
        says.due("of both SIDES, half, in fog", f.weight(3), 8);
        says.due("of SIDE 0, half, in fog", f.weight(2), 5);
        says.due("nobody, in fog", f.weight(0), 3);
        f.cross(0);
        says.due("of SIDE 1, whole", f.weight(1), 7);
        says.due("beyond SEATS", f.weight(3), 11);
        f.talk(0, 20);
        says.due("beyond LOAD", f.weight(3), 31);
    }

    private void most() {
        says.terms("MOST: the largest set that CAN BOARD and would not turn back; of several the least as bits: how many.");
        says.due("10 of LOAD 10 in mid stream", Check.crossing("ferry 10 2 0;person 5 6;person 5 5").most(1), 2);
        says.due("11 of LOAD 10 in mid stream", Check.crossing("ferry 10 2 0;person 5 6;person 6 5").most(1), 0);
        says.due("of several the least", Check.crossing("ferry 10 2 0;person 9 0;person 5 0;person 5 0;person 5 0")
            .most(1), 6);
        says.due("SEATS", Check.crossing("ferry 10 2 0;person 1 0;person 1 0;person 1 0").most(0), 2);
        says.due("seven", Check.crossing("ferry 10 7 0" + ";person 1 0".repeat(7)).most(0), 7);
        says.due("seven", Check.crossing("ferry 10 7 0" + ";person 1 0".repeat(7)).most(1), 127);
        says.due("nobody", Check.crossing("ferry 10 7 0").most(0), 0);
        says.due("with corks alone", Check.crossing("ferry 0 2 2;person 0 0;cork 1;cork 1;fog 0").most(1), 6);
        AimFerry f = Check.crossing("ferry 10 2 0;person 1 0;person 1 0");
        f.cross(2);
        says.due("of the boat's SIDE", f.most(1), 2);
    }

    private void lighten() {
        says.terms("LIGHTEN for a set (of PEOPLE on the boat's SIDE, SEATS at most): the least to be THROWN of their AIMS");
        AimFerry f = Check.crossing("ferry 10 2 0;person 10 0;person 12 0;person 3 0");
        says.due("10 of LOAD 10", f.lighten(1), 0);
        says.due("12 of LOAD 10", f.lighten(2), 2);
        says.due("two of SEATS 2", f.lighten(3), 12);
        says.due("three of SEATS 2", f.lighten(7), -1);
        says.due("nobody", f.lighten(0), 0);
        f.cross(4);
        says.due("who is on the other SIDE", f.lighten(1), -1);
        says.due("who is here", f.lighten(4), 0);
        says.due("of theirs alone", Check.crossing("ferry 5 2 0;person 9 0;person 1 9").lighten(1), 4);
        says.due("seven", Check.crossing("ferry 5 7 0" + ";person 1 0".repeat(7)).lighten(127), 2);
        says.due("with a cork", Check.crossing("ferry 5 2 0;person 9 0;cork 3").lighten(3), 1);
        says.due("with a cork, in fog", Check.crossing("ferry 5 2 4;person 9 0;cork 3;fog 0").lighten(3), 5);
        says.due("one of each", f.lighten(5), -1);
        says.terms("so that they could CROSS and would not turn back (an AIM that is 0 then does not grow)");
        says.due("10 in mid stream", Check.crossing("ferry 10 1 0;person 5 5").lighten(1), 0);
        says.due("11 in mid stream", Check.crossing("ferry 10 1 0;person 5 6").lighten(1), 1);
        says.due("1 and 9", Check.crossing("ferry 10 1 0;person 5 9").lighten(1), 4);
        says.due("1 and 9 are too much, 0 is not", Check.crossing("ferry 9 1 0;person 5 9").lighten(1), 5);
        says.due("an AIM of 0 at first", Check.crossing("ferry 0 1 0;person 0 9").lighten(1), 0);
        says.due("LOAD 0", Check.crossing("ferry 0 1 0;person 1 9").lighten(1), 1);
        says.due("2 thrown whole lighten by 9", Check.crossing("ferry 9 2 0;person 9 0;person 2 7").lighten(3), 2);
        f = Check.crossing("ferry 98 1 0;person 40 5");
        f.talk(0, 20);
        f.talk(0, 20);
        f.talk(0, 19);
        says.due("of 99, which grows to 99, 6", f.lighten(1), 6);
        f.toss(0, 5);
        says.due("of 94 one", f.lighten(1), 1);
    }

    private void fewest() {
        says.terms("if no AIM grew, and each HOUR had fog as this one has or has not");
        says.due("5 does not grow", Check.crossing("ferry 5 1 0;person 5 9;person 5 9").fewest(0), 3);
        AimFerry f = Check.crossing("ferry 5 1 6;person 1 0;person 1 0;fog 0;fog 2");
        says.due("ever fog", f.fewest(0), -2);
        f.trip();
        says.due("never fog", f.fewest(0), 3);
        f.cross(1);
        says.due("ever fog again", f.fewest(0), -2);
        says.terms("the fewest CROSSINGS of sets that CAN BOARD (nobody, too), the boat to and fro, by which all PEOPLE "
            + "are on SIDE 1");
        says.due("5 of LOAD 5, two of SEATS 2", Check.crossing("ferry 5 2 0;person 2 0;person 3 0").fewest(0), 1);
        says.due("6 of LOAD 5", Check.crossing("ferry 5 2 0;person 3 0;person 3 0").fewest(0), 3);
        says.due("three of SEATS 2", Check.crossing("ferry 5 2 0;cork 1;cork 1;cork 1").fewest(0), 3);
        says.due("seven of SEATS 1", Check.crossing("ferry 5 1 0" + ";cork 1".repeat(7)).fewest(0), 13);
        says.due("seven of SEATS 7", Check.crossing("ferry 5 7 0" + ";cork 1".repeat(7)).fewest(0), 1);
        says.due("one of 6 and LOAD 5", Check.crossing("ferry 5 2 0;person 0 0;person 6 0").fewest(0), -2);
        says.due("no PEOPLE", Check.crossing("ferry 5 1 0").fewest(0), 0);
        // in fog nobody, and no cork alone, may go home; both are 1 / 2 and 7 less 2
        f = Check.crossing("ferry 5 3 7;cork 1;cork 1;cork 20;beside 0 1 1;fog 1");
        f.cross(3);
        says.due("home with 5 of LOAD 5", f.fewest(0) * 10 + f.fewest(1), 23);
        f = Check.crossing("ferry 5 3 7;cork 1;cork 1;cork 20;beside 0 1 2;fog 1");
        f.cross(3);
        says.due("home with 6 of LOAD 5", f.fewest(0), -2);
        f = Check.crossing("ferry 5 1 7;cork 1;cork 1;cork 20;beside 0 1 1;fog 3");
        f.cross(1);
        f.cross(0);
        f.cross(2);
        says.due("home with two of SEATS 1", f.fewest(0), -2);
        f = Check.crossing("ferry 9 1 0;person 1 0");
        f.cross(0);
        says.due("nobody goes home first", f.fewest(0), 2);
        says.due("nobody", f.fewest(1), 0);
        f = Check.crossing("ferry 9 1 0;person 1 0");
        f.cross(1);
        says.due("all are over", f.fewest(0), 0);
        f.cross(0);
        says.due("all are over, and the boat is not", f.fewest(0), 0);
        f = Check.crossing("ferry 5 1 0;person 5 0");
        f.cross(1);
        f.talk(0, 1);
        says.due("all are over, who could go home and not come back", f.fewest(0) * 10 + f.fewest(1), 0);
    }

    private void fewestFirst() {
        says.terms("the first set as bits (of several the least)");
        says.due("one of two", Check.crossing("ferry 9 1 0;person 1 0;person 1 0").fewest(1), 1);
        says.due("one or two of three", Check.crossing("ferry 9 2 0;person 1 0;person 1 0;person 1 0").fewest(1), 1);
        says.due("4 and 5 of 9, then 9", Check.crossing("ferry 9 2 0;person 9 0;person 4 0;person 5 0").fewest(1), 1);
        says.due("all of seven", Check.crossing("ferry 9 7 0" + ";person 1 0".repeat(7)).fewest(1), 127);
    }

    private void row() {
        says.terms("of several the first row (least numbers first)");
        AimFerry f = Check.crossing("ferry 9 7 0" + ";person 1 0".repeat(7));
        for (int place = 0; place <= 6; place++) {
            says.due("place " + place, f.row(place), place);
        }
        says.due("how much", f.row(-1), 0);
        // 0 2 1 and 1 2 0 weigh 5; 0 1 2 weighs 6
        f = Check.crossing("ferry 9 3 0;person 1 0;person 1 0;person 1 0;beside 0 1 4;beside 0 2 3;beside 1 2 2");
        says.due("how much", f.row(-1), 5);
        says.due("place 0", f.row(0), 0);
        says.due("place 1", f.row(1), 2);
        says.due("place 2", f.row(2), 1);
        f = Check.crossing("ferry 9 7 0" + ";cork 1".repeat(7) + ";beside 0 1 9;beside 0 2 9;beside 0 3 9;beside 0 4 9"
            + ";beside 0 5 9;beside 0 6 8");
        says.due("by the only cheap one", f.row(-1), 8);
        says.due("the first row has 0 first", f.row(0) * 10 + f.row(1), 6);
    }

    private void fare() {
        says.terms("FARE of so much (0 to 9999) among a set (not nobody's)");
        AimFerry f = Check.crossing("ferry 9 1 0;person 5 0;person 5 0;person 0 0;cork 3");
        says.due("0", f.fare(3, 0, 0), 0);
        says.due("9999", f.fare(3, 9999, 0), 5000);
        says.due("9999", f.fare(3, 9999, 1), 4999);
        says.due("10000", f.fare(3, 10000, 0), -1);
        says.due("-1", f.fare(3, -1, 0), -1);
        says.due("nobody's", f.fare(0, 5, 0), -1);
        says.due("one alone", f.fare(1, 9999, 0), 9999);
        says.terms("each by AIM (corks 0; all AIMS 0: alike) the part downwards");
        says.due("a cork", f.fare(9, 100, 3), 0);
        says.due("beside a cork", f.fare(9, 100, 0), 100);
        says.due("an AIM of 0", f.fare(7, 100, 2), 0);
        says.due("all AIMS 0", f.fare(12, 100, 2), 50);
        says.due("all AIMS 0", f.fare(12, 100, 3), 50);
        says.due("a cork alone", f.fare(8, 100, 3), 100);
    }

    private void fareLeft() {
        says.terms("what is left, one each, to those whose part lost most by that, of several the least first");
        AimFerry f = Check.crossing("ferry 9 1 0;person 5 0;person 5 0;person 5 0;person 1 0;person 2 0");
        int[] of5 = {2, 2, 1};
        int[] of4 = {2, 1, 1};
        int[] of3 = {1, 1, 1};
        for (int person = 0; person <= 2; person++) {
            says.due("5 of three alike", f.fare(7, 5, person), of5[person]);
            says.due("4 of three alike", f.fare(7, 4, person), of4[person]);
            says.due("3 of three alike", f.fare(7, 3, person), of3[person]);
        }
        // AIMS 5, 1, 2 of 8: of 5 they lose 1/8, 5/8 and 2/8
        says.due("lost most", f.fare(25, 5, 3), 1);
        says.due("lost less", f.fare(25, 5, 0), 3);
        says.due("lost less", f.fare(25, 5, 4), 1);
        // of 7: 4 and 3/8, 0 and 7/8, 1 and 6/8
        says.due("7 of these", f.fare(25, 7, 0) * 100 + f.fare(25, 7, 3) * 10 + f.fare(25, 7, 4), 412);
        f = Check.crossing("ferry 9 1 0;person 2 0;person 1 0");
        says.due("2/3 is more than 1/3", f.fare(3, 5, 0) * 10 + f.fare(3, 5, 1), 32);
        f = Check.crossing("ferry 9 1 0" + ";cork 1".repeat(7));
        for (int person = 0; person <= 6; person++) {
            says.due("13 of seven alike", f.fare(127, 13, person), person < 6 ? 2 : 1);
        }
    }

    private void stay() {
        says.terms("of several the least; that WEIGHT (SEATS and LOAD are not looked at)");
        AimFerry f = Check.crossing("ferry 0 1 0;person 7 0;person 9 0;person 9 0;person 8 0");
        says.due("of 9 and 9", f.stay(0), 1);
        says.due("7 + 9 + 8, of LOAD 0 and SEATS 1", f.stay(1), 24);
        f = Check.crossing("ferry 9 1 3;person 7 0;fog 0");
        says.due("who is alone", f.stay(0), 0);
        says.due("nobody's WEIGHT, in fog", f.stay(1), 3);
        says.due("of corks 0", Check.crossing("ferry 9 1 0;cork 3;cork 4").stay(0), 0);
        says.due("of corks 0", Check.crossing("ferry 9 1 0;cork 3;cork 4").stay(1), 0);
        says.due("seven", Check.crossing("ferry 9 1 0" + ";person 1 0".repeat(6) + ";person 2 0").stay(0), 6);
        f.trip();
        says.due("nobody is on the boat's SIDE", f.stay(0), -2);
    }

    private void lies() {
        says.terms("LIES of two PEOPLE for n TRIPS (1 to 20)");
        AimFerry f = Check.rule(Check.crossing(LATE), "board 1 if hour=19");
        says.due("19 TRIPS", f.lies(0, 1, 19, 1), 0);
        says.due("the 20th", f.lies(0, 1, 20, 1), 2);
        says.due("21 TRIPS", f.lies(0, 1, 21, 1), -1);
        says.due("0 TRIPS", f.lies(0, 1, 0, 1), -1);
        f = Check.crossing("ferry 5 2 0;person 6 0;person 1 0");
        says.due("1 TRIP", f.lies(0, 1, 1, 1), 2);
        says.terms("each says truly, or an AIM of half, downwards, from now on (and has it)");
        says.due("11 / 2 is 5", Check.crossing("ferry 5 1 0;person 11 0;person 40 0").lies(0, 1, 1, 1), 2);
        says.due("12 / 2 is 6", Check.crossing("ferry 5 1 0;person 12 0;person 40 0").lies(0, 1, 1, 1), 0);
        says.due("1 / 2 is 0", Check.crossing("ferry 0 1 0;person 1 0;person 40 0").lies(0, 1, 1, 1), 2);
        says.due("0, which does not grow", Check.crossing("ferry 1 1 0;person 1 1;person 40 0").lies(0, 1, 1, 1), 2);
        says.due("a cork's", Check.crossing("ferry 0 2 0;cork 1;cork 1").lies(0, 1, 1, 0), 1);
        says.due("what they have later", Check.crossing("ferry 4 1 0;person 8 1;person 40 0").lies(0, 1, 1, 1), 0);
        says.terms("each has 3, if on SIDE 1 then, less 1, if they lied: of the four ways (the first's, then the "
            + "second's; true ahead of a lie) those of which neither would have more by the other one");
        // both cross only if both lie, else both turn back: true and true, and lie and lie
        f = Check.crossing("ferry 8 2 0;person 4 2;person 4 2");
        says.due("ways", f.lies(0, 1, 1, 0), 2);
        says.due("true ahead of a lie", f.lies(0, 1, 1, 1), 0);
        f = Check.rule(Check.crossing("ferry 10 1 0;person 8 0;person 6 0"),
            "board 4 if aim=3;board 3 if aim=4;board 2 if aim=6;board 1");
        says.due("no way", f.lies(0, 1, 1, 0), 0);
        // both cross if one lies, else both turn back: true and lie, and lie and true
        f = Check.crossing("ferry 16 2 0;person 8 2;person 8 2");
        says.due("ways", f.lies(0, 1, 1, 0), 2);
        says.due("the first's, then the second's", f.lies(0, 1, 1, 1), 1);
        f = Check.crossing("ferry 99 2 0;person 7 0;person 7 0");
        says.due("all true", f.lies(0, 1, 1, 0) * 10 + f.lies(0, 1, 1, 1), 10);
    }

    private void waits() {
        says.terms("WAITS of a PERSON: the first HOUR, this one the first, in which they are aboard on a TRIP, over or "
            + "turned back, in 100 TRIPS.");
        AimFerry f = Check.crossing("ferry 5 1 0;person 5 0;person 5 1;person 6 0");
        says.due("this HOUR", f.waits(0), 0);
        says.due("turned back", f.waits(1), 2);
        says.due("never", f.waits(2), -2);
        f.trip();
        says.due("over already", f.waits(0), -2);
        f = Check.rule(Check.crossing(LATE), "board 1 if hour=99");
        says.due("the 100th", f.waits(1), 99);
        f = Check.rule(Check.crossing("ferry 5 2 6;person 1 0"), "board 1 if hour=100");
        says.due("the 101st", f.waits(0), -2);
        f.cross(0);
        says.due("the 100th from HOUR 1 on", f.waits(0), 100);
    }

    private void soothe() {
        says.terms("SOOTHE for n TRIPS (1 to 30)");
        AimFerry f = Check.rule(Check.crossing(LATE), "board 1 if hour=29");
        says.due("29 TRIPS", f.soothe(29, 0), -1);
        says.due("29 TRIPS", f.soothe(29, 1), 0);
        says.due("the 30th", f.soothe(30, 0), 0);
        says.due("the 30th", f.soothe(30, 1), 2);
        says.due("29 TRIPS again", f.soothe(29, 0), -1);
        says.due("29 TRIPS again", f.soothe(29, 1), 0);
        says.due("31 TRIPS", f.soothe(31, 1), -2);
        says.due("0 TRIPS", f.soothe(0, 1), -2);
        f = Check.crossing("ferry 5 2 0;person 6 0;person 1 0");
        says.due("1 TRIP", f.soothe(1, 0), 0);
        says.due("1 TRIP", f.soothe(1, 1), 2);
        says.terms("whose AIM were best 0 now, or nobody's, so that most PEOPLE are on SIDE 1 then");
        says.due("now: an AIM of 0 does not grow", Check.crossing("ferry 5 1 0;person 5 1").soothe(1, 0), 0);
        says.due("one", Check.crossing("ferry 5 1 0;person 5 1").soothe(1, 1), 1);
        says.due("then: not on the way there", Check.rule(Check.crossing("ferry 5 1 0;person 5 0"), "board 1").soothe(2, 1), 0);
        f = Check.crossing("ferry 5 1 0;person 5 0;person 6 0");
        f.cross(1);
        f.cross(0);
        says.due("0, not less", Check.crossing("ferry 9 2 0;person 9 0;person 10 0").soothe(1, 0), 1);
        says.due("with those who are over already", f.soothe(1, 0) * 10 + f.soothe(1, 1), 12);
        says.terms("of several nobody, then the least");
        says.due("nobody", Check.crossing("ferry 9 2 0;person 1 0;person 1 0").soothe(1, 0), -1);
        says.due("nobody, if nothing helps", Check.crossing("ferry 9 1 0;person 9 0;person 9 0").soothe(1, 0), -1);
        f = Check.crossing("ferry 10 3 0;person 3 0;person 7 0;person 7 0");
        says.due("the least of two", f.soothe(1, 0), 1);
        says.due("three", f.soothe(1, 1), 3);
        says.due("no PEOPLE", Check.crossing("ferry 9 1 0").soothe(1, 0), -1);
    }

    private void never() {
        says.terms("NEVER: PEOPLE who can't be in any set that CAN BOARD now and would not turn back, of those on the "
            + "boat's SIDE.");
        AimFerry f = Check.crossing("ferry 10 2 0;person 10 0;person 11 0;person 5 5;person 5 6");
        says.due("11, and 11 in mid stream", f.never(), 10);
        f.cross(1);
        says.due("there none", f.never(), 0);
        f.cross(0);
        says.due("of those here", f.never(), 10);
        says.due("with a cork", Check.crossing("ferry 10 2 0;person 11 0;cork 1").never(), 0);
        says.due("with a cork, of SEATS 1", Check.crossing("ferry 10 1 0;person 11 0;cork 1").never(), 1);
        says.due("nobody without a cork", Check.crossing("ferry 4 7 5;person 0 0;cork 1;fog 0").never(), 0);
        says.due("not even a cork", Check.crossing("ferry 3 7 5;person 0 0;cork 1;fog 0").never(), 3);
        says.due("no PEOPLE", Check.crossing("ferry 4 7 5;fog 0").never(), 0);
        says.due("seven", Check.crossing("ferry 0 7 0" + ";person 1 0".repeat(7)).never(), 127);
    }

    private void notes() {
        says.terms("NOTES 0 to 9, told: behind the n-th TRIP of all (0 to 60) a PERSON was on a SIDE.");
        AimFerry f = Check.rule(Check.crossing("ferry 9 1 0;person 1 0"), "board 1");
        for (int k = 1; k <= 10; k++) {
            says.due("NOTE " + (k - 1), f.note(60, 0, 1), k);
        }
        says.refused(f, "an eleventh", () -> f.note(60, 0, 1), -2);
        says.due("10 that are so", f.ruled(0), 2);
        AimFerry g = Check.rule(Check.crossing("ferry 9 1 0;person 1 0"), "board 1");
        says.refused(g, "TRIP 61", () -> g.note(61, 0, 1), -2);
        says.refused(g, "TRIP -2", () -> g.note(-2, 0, 1), -2);
        g.note(0, 0, 0);
        says.due("behind TRIP 0 over by both", g.ruled(0), 0);
        g.note(-1, 0, 0);
        g.note(60, 0, 0);
        says.due("behind TRIP 60 over by both", g.ruled(0), 0);
        g.note(-1, 0, 0);
        g.note(59, 0, 0);
        says.due("behind TRIP 59 home by RULE 0", g.ruled(0) * 10 + g.ruled(1), 10);
        for (int k = 0; k < 8; k++) {
            g.note(59, 0, 0);
        }
        g.note(60, 0, 0);
        says.due("the tenth is not so", g.ruled(0), 0);
        AimFerry seven = Check.crossing("ferry 3 7 5" + ";person 1 0".repeat(7));
        for (int person = 0; person <= 6; person++) {
            seven.note(-1, 0, 0);
            seven.note(0, person, 1);
            says.due("PERSON " + person + " on SIDE 1", seven.ruled(0), person < 3 ? 1 : 0);
            seven.note(-1, 0, 0);
            seven.note(0, person, 0);
            says.due("PERSON " + person + " on SIDE 0", seven.ruled(0), person < 3 ? 0 : 1);
        }
    }

    private void ruled() {
        says.terms("RULED: which of the RULES, and of none, so that from the begin on, all as the text told it, all NOTES "
            + "are so: how many; the first (none ahead of 0, told as NONE).");
        AimFerry f = Check.crossing("ferry 9 1 0;person 1 0;person 2 0");
        for (int rule = 0; rule <= 5; rule++) {
            Check.rule(f, rule < 5 ? "board 1" : "board aim");
        }
        says.due("all", f.ruled(0), 7);
        says.due("none is the first", f.ruled(1), -1);
        f.note(1, 0, 0);
        says.due("RULES alone", f.ruled(0), 6);
        says.due("RULE 0 is the first", f.ruled(1), 0);
        f.note(0, 1, 1);
        says.due("RULE 5 alone", f.ruled(0) * 10 + f.ruled(1), 15);
        f.toss(1, 2);
        f.trip();
        says.due("as the text told it", f.ruled(0) * 10 + f.ruled(1), 15);
        f.note(0, 0, 1);
        says.due("none such", f.ruled(0), 0);
    }

    private void look() {
        says.terms("LOOK behind the n-th TRIP: the PERSON by whose SIDE these part best: the most alike are fewest, of "
            + "several the least; how many.");
        AimFerry f = Check.crossing("ferry 9 1 0;person 1 0;person 2 0;person 3 0");
        says.due("one alone is alike", f.look(0, 0) * 10 + f.look(0, 1), 1);
        Check.rule(f, "board aim");
        // behind TRIP 0: PERSON 0 over by none, PERSON 2 by RULE 0
        says.due("of 0 and 2 the least", f.look(0, 0), 0);
        says.due("one each", f.look(0, 1), 1);
        Check.rule(f, "board aim");
        // PERSON 0 by none, PERSON 2 by both RULES: two alike each; PERSON 1 never: three alike
        says.due("of 0 and 2 the least", f.look(0, 0) * 10 + f.look(0, 1), 2);
        Check.rule(f, "board 1 if person=1");
        Check.rule(f, "board 1 if person=1");
        // of five: PERSON 0 once, PERSON 1 twice, PERSON 2 twice
        says.due("of 1 and 2 the least", f.look(0, 0), 1);
        says.due("three alike", f.look(0, 1), 3);
        f.note(0, 0, 0);
        says.due("of four two each", f.look(0, 0) * 10 + f.look(0, 1), 12);
        says.due("behind TRIP 60", f.look(60, 1), 2);
        Check.rule(f, "board 1 if person=1");
        Check.rule(f, "board 1 if person=0");
        f.note(-1, 0, 0);
        // of seven, the sixth RULE too: PERSON 0 twice, PERSON 1 three times, PERSON 2 twice
        says.due("of seven", f.look(0, 0) * 10 + f.look(0, 1), 14);
        f.note(0, 0, 1);
        says.due("none and RULE 5", f.look(0, 1), 2);
        AimFerry seven = Check.rule(Check.crossing("ferry 9 6 0" + ";person 1 0".repeat(7)), "board person");
        // by none 0 to 5 are over, by RULE 0 1 to 6
        says.due("of seven", seven.look(0, 0) * 10 + seven.look(0, 1), 1);
        Check.crossing(seven, "ferry 9 6 0" + ";person 0 0".repeat(6) + ";person 9 0");
        Check.rule(seven, "board 7-aim");
        seven.note(0, 0, 1);
        says.due("all of seven alike, of none and RULE 1", seven.look(0, 0) * 10 + seven.look(0, 1), 2);
        says.due("behind TRIP 61", f.look(61, 1), -1);
        says.due("behind TRIP -1", f.look(-1, 1), -1);
    }

    private void draws() {
        says.terms("DRAWS: x (0 to 2147483647; 0 at first) becomes x * 1103515245 + 12345, of 2147483648 the rest; a DRAW is "
            + "x / 65536.");
        // in fog the boat stays: SIDE 1 only without
        AimFerry f = Check.crossing("ferry 5 1 6;person 3 0");
        says.due("0 at first", f.count(14), 0);
        says.due("of 0 the DRAW is 0", f.fogs(1, 1, 0, 0) * 10 + f.fogs(1, 1, 1, 0), 10);
        // 2147483647 becomes 1043980748, of which the DRAW is 15929
        says.due("the most", f.seed(2147483647), 0);
        says.due("the DRAW is 15929", f.fogs(1, 1, 29, 0) * 10 + f.fogs(1, 1, 30, 0), 10);
        // 1 becomes 1103527590, of which the DRAW is 16838
        f.seed(1);
        says.due("the DRAW is 16838", f.fogs(1, 1, 38, 0) * 10 + f.fogs(1, 1, 39, 0), 10);
        // 2 becomes 2207042835 - 2147483648, which is 59559187, of which the DRAW is 908
        f.seed(2);
        says.due("the DRAW is 908", f.fogs(1, 1, 8, 0) * 10 + f.fogs(1, 1, 9, 0), 10);
        // these become 65535, 65536, 2147483647 and 0
        int[] from = {2032319262, 1742513795, 230538014, 2088216195};
        int[] draw = {0, 1, 67, 0};
        for (int k = 0; k < from.length; k++) {
            f.seed(from[k]);
            says.due("the DRAW mod 100 is " + draw[k], f.fogs(1, 1, draw[k], 0) * 10 + f.fogs(1, 1, draw[k] + 1, 0), 10);
        }
    }

    private void fogs() {
        says.terms("FOGS m times (1 to 10) n TRIPS (1 to 60) from now on");
        AimFerry f = Check.rule(Check.crossing("ferry 5 1 6;person 1 0;fog 0"), "board 1 if hour=59");
        says.due("59 TRIPS", f.fogs(1, 59, 0, 0), 0);
        says.due("the 60th", f.fogs(1, 60, 0, 0), 1);
        says.due("10 times", f.fogs(10, 60, 0, 0), 10);
        says.due("61 TRIPS", f.fogs(1, 61, 0, 0), -1);
        says.due("0 TRIPS", f.fogs(1, 0, 0, 0), -1);
        says.due("11 times", f.fogs(11, 60, 0, 0), -1);
        says.due("0 times", f.fogs(0, 60, 0, 0), -1);
        says.terms("ahead of each a DRAW mod 100: below p (0 to 100) there is fog in its HOUR (as told, too)");
        f = Check.crossing("ferry 5 1 6;person 3 0");
        // DRAWS from 0 on, mod 100: 0 68 88 17 98 27 45 41 22 10
        says.due("below 0 none", f.fogs(10, 1, 0, 0), 10);
        says.due("below 1 one", f.fogs(10, 1, 1, 0), 9);
        says.due("below 98 nine", f.fogs(10, 1, 98, 0), 1);
        says.due("below 99 ten", f.fogs(10, 1, 99, 0), 0);
        says.due("below 100 ten", f.fogs(10, 1, 100, 0), 0);
        says.due("p 101", f.fogs(10, 1, 101, 0), -1);
        says.due("p -1", f.fogs(10, 1, -1, 0), -1);
        says.due("told, and not drawn", Check.crossing("ferry 5 1 6;person 3 0;fog 0").fogs(10, 1, 0, 0), 0);
        says.due("told, and drawn", Check.crossing("ferry 11 1 6;person 3 0;fog 0").fogs(10, 1, 100, 0), 10);
        says.terms("how many are on SIDE 1 then; how often it SHIPPED in these, all together (nothing stays; x as it was)");
        AimFerry g = Check.crossing("ferry 5 1 6;person 5 0;person 5 1");
        says.due("SHIPPED in these", g.fogs(10, 3, 0, 1), 10);
        says.due("on SIDE 1", g.fogs(10, 3, 0, 0), 10);
        says.refused(g, "nothing stays", () -> g.fogs(10, 60, 50, 0), 10);
        g.cross(2);
        says.due("SHIPPED before", g.count(9), 1);
        says.due("in these not", g.fogs(10, 3, 0, 1), 0);
    }

    private void images() {
        says.terms("IMAGES 0 to 3: all but the TAPE and the RULES, as it is (the RULE IN FORCE, too)");
        AimFerry f = Check.rule(Check.crossing("ferry 9 2 0;person 4 1;person 5 1"), "board 1");
        f.seed(3);
        f.note(0, 0, 1);
        f.toss(0, 1);
        f.trip();
        says.due("IMAGE 0", f.image(0), 1);
        says.due("IMAGE 3", f.image(3), 1);
        says.due("IMAGE 4", f.image(4), -1);
        says.due("IMAGE -1", f.image(-1), -1);
        Check.rule(f, "board 2");
        f.seed(4);
        f.note(1, 0, 1);
        f.talk(1, 9);
        Check.crossing(f, "ferry 1 1 1");
        Check.feed(f, "board 3");
        says.due("gone back to", f.back(3), 1);
        int[] want = {9, 2, 0, 2, 2, 0, 1, 0, 0, 1, 1, 0, 1, 0, 3, 7};
        for (int what = 0; what < want.length; what++) {
            says.due("count(" + what + ")", f.count(what), want[what]);
        }
        says.due("AIM", f.person(0, 0) * 100 + f.person(1, 0), 406);
        says.terms("gone back to, it is as it was (these stay; nothing can be UNDONE then)");
        says.refused(f, "undo", f::undo, -1);
        f.toss(1, 6);
        says.due("an ACT", f.count(13), 1);
        says.due("it stays", f.back(3), 1);
        says.due("as it was", f.person(1, 0), 6);
        says.due("nothing can be UNDONE", f.count(13), 0);
        says.due("another stays", f.back(0), 1);
        f.note(-1, 0, 0);
        f.note(0, 0, 0);
        says.due("another NOTE", f.ruled(0), 3);
        f.back(0);
        says.due("the NOTE is as it was", f.ruled(0), 0);
    }
}
