/** Promises 14 to 31: what is asked, NOTES, DRAWS. */
public final class AsksTest {
    private static final Check CHECK = new Check("AsksTest");
    private static final String FOUR = "ferry 20 3 5;person 12 3;person 6 2;person 9 0;cork 4;beside 0 1 2;beside 1 2 1"
        + ";fog 1";

    private static void due(String what, int got, int want) {
        CHECK.due(what, got, want);
    }

    public static void main(String[] args) {
        ahead();
        over();
        weight();
        most();
        lighten();
        fewest();
        row();
        fare();
        stay();
        lies();
        waits();
        soothe();
        never();
        note();
        ruled();
        ruledBehindTrip();
        look();
        lookBehindTrip();
        seed();
        fogs();
        CHECK.finish();
    }

    /** By what is asked nothing changes. */
    private static void sameDue(AimFerry f, int hour, int far, int shipped) {
        due("HOUR", f.count(6), hour);
        due("who is over", f.count(8), far);
        due("SHIPPED", f.count(9), shipped);
        due("ACTS", f.count(13), 0);
    }

    private static void ahead() {
        AimFerry f = Check.crossing(FOUR);
        due("now", f.ahead(0, 0, 0), 0);
        due("now", f.ahead(0, 0, 1), 12);
        due("turned back", f.ahead(0, 1, 0), 0);
        due("grown", f.ahead(0, 1, 1), 15);
        due("SHIPPED", f.ahead(0, 1, 2), 1);
        due("over", f.ahead(0, 2, 0), 1);
        due("not over", f.ahead(1, 3, 0), 0);
        due("over", f.ahead(1, 4, 0), 1);
        due("AIM", f.ahead(1, 4, 1), 10);
        due("long", f.ahead(1, 100, 1), 10);
        due("PERSON is not asked", f.ahead(-5, 4, 2), 1);
        due("too long", f.ahead(0, 101, 0), -1);
        due("too short", f.ahead(0, -1, 0), -1);
        due("what", f.ahead(0, 1, 3), -1);
        due("what", f.ahead(0, 1, -1), -1);
        due("PERSON", f.ahead(4, 1, 0), -1);
        due("PERSON", f.ahead(4, 1, 1), -1);
        sameDue(f, 0, 0, 0);
        f.trip();
        due("what it has SHIPPED before, too", f.ahead(0, 1, 2), 1);
        due("by the RULE IN FORCE", Check.rule(f, "board 1 if aim=9").ahead(2, 1, 0), 1);
        due("by the RULE IN FORCE", f.ahead(2, 2, 0), 0);
    }

    private static void over() {
        AimFerry f = Check.crossing(FOUR);
        due("begin of HOUR 4", f.over(), 4);
        sameDue(f, 0, 0, 0);
        due("never", Check.crossing("ferry 5 1 0;person 6 0").over(), -2);
        due("nobody", Check.crossing("ferry 5 1 0").over(), 0);
        f = Check.crossing("ferry 5 1 0;person 2 0");
        f.cross(1);
        due("this one the first", f.over(), 1);
        // three over in HOURS 0, 2, 4; with a RULE that waits until HOUR 98 or 99 for the last
        f = Check.crossing("ferry 5 1 0;person 2 0");
        due("the last of 100", Check.rule(f, "board 1 if hour=98").over(), 99);
        due("one too late", Check.rule(f, "board 1 if hour=100").over(), -2);
        f.cross(0);
        f.cross(0);
        due("from HOUR 2 on", f.over(), 101);
        f = Check.rule(Check.crossing("ferry 5 1 0;person 2 0"), "board 1 if hour=100");
        f.cross(0);
        due("the 101st", f.over(), -2);
    }

    private static void weight() {
        AimFerry f = Check.crossing(FOUR);
        due("nobody", f.weight(0), 0);
        due("one", f.weight(1), 12);
        due("two", f.weight(3), 20);
        due("with a cork", f.weight(11), 16);
        due("a cork", f.weight(8), 0);
        due("all", f.weight(15), 26);
        due("not there", f.weight(16), -1);
        due("below 0", f.weight(-1), -1);
        f.cross(4);
        due("halves in fog", f.weight(3), 15);
        due("nobody in fog", f.weight(0), 5);
        due("a cork in fog", f.weight(8), 1);
        due("wherever they are", f.weight(7), 20);
        due("downwards", f.weight(4), 9);
    }

    private static void most() {
        AimFerry f = Check.crossing(FOUR);
        // in mid stream 15, 8, 9: 0, 1 and the cork turn back; 0, 2 and the cork do not
        due("how many", f.most(0), 3);
        due("who", f.most(1), 13);
        due("what", f.most(2), -1);
        due("what", f.most(-1), -1);
        sameDue(f, 0, 0, 0);
        due("none but nobody", Check.crossing("ferry 5 3 0;person 6 0").most(0), 0);
        due("none but nobody", Check.crossing("ferry 5 3 0;person 6 0").most(1), 0);
        due("not even nobody", Check.crossing("ferry 5 3 6;person 6 0;fog 0").most(0), -2);
        due("not even nobody", Check.crossing("ferry 5 3 6;person 6 0;fog 0").most(1), -2);
        due("SEATS", Check.crossing("ferry 9 2 0;person 1 0;person 1 0;person 1 0").most(1), 3);
        due("a cork that is needed", Check.crossing("ferry 5 3 6;cork 1;fog 0").most(1), 1);
        f.cross(4);
        due("on the boat's SIDE", f.most(1), 4);
    }

    private static void lighten() {
        AimFerry f = Check.crossing(FOUR);
        due("light enough", f.lighten(13), 0);
        due("nobody", f.lighten(0), 0);
        due("21 in mid stream", f.lighten(11), 1);
        // 15 + 8 + 9 + 3 = 35: all 12 of the first lighten by 15
        due("an AIM of 0 does not grow", f.lighten(7), 12);
        due("too many", f.lighten(15), -1);
        due("not there", f.lighten(16), -1);
        due("below 0", f.lighten(-1), -1);
        sameDue(f, 0, 0, 0);
        f.cross(4);
        due("not here", f.lighten(1), -1);
        due("here", f.lighten(4), 0);
        due("twos alone are too much", Check.crossing("ferry 5 3 0;person 1 0;person 1 0;beside 0 1 6").lighten(3), -2);
        due("fog alone is too much", Check.crossing("ferry 5 3 6;person 1 0;fog 0").lighten(1), -2);
        due("fog alone is too much", Check.crossing("ferry 5 3 6;person 1 0;fog 0").lighten(0), -2);
        due("fog and a cork", Check.crossing("ferry 5 3 6;person 1 0;cork 1;fog 0").lighten(3), 1);
        f = Check.crossing("ferry 95 3 0;person 40 9");
        for (int k = 0; k < 3; k++) {
            f.talk(0, 20);
        }
        // 99 grows to 99 at most: 9 thrown change nothing, 4 more do
        due("beyond the limit of growth", f.lighten(1), 13);
        f = Check.crossing("ferry 9 3 0;person 9 0;person 9 1");
        f.cross(1);
        f.toss(1, 1);
        f.cross(0);
        due("over, too", f.cross(2), 1);
        due("(9 + 9) / 2, and 10 in mid stream: 19 / 2 is 9", f.lighten(3), 0);
        f.talk(0, 1);
        due("one more", f.lighten(3), 1);
        due("a cork first", Check.crossing("ferry 5 3 0;cork 1;person 9 0").lighten(3), 3);
        due("down to 1", Check.crossing("ferry 4 3 0;person 5 3").lighten(1), 4);
        due("down to 0", Check.crossing("ferry 3 3 0;person 5 3").lighten(1), 5);
        due("one of two", Check.crossing("ferry 1 3 0;person 2 0").lighten(1), 1);
        due("of the set alone", Check.crossing("ferry 5 3 0;person 9 0;person 1 9").lighten(1), 4);
        due("the second's", Check.crossing("ferry 20 3 0;person 10 0;person 5 9;person 10 0").lighten(7), 5);
        due("two of three", Check.crossing("ferry 10 3 0;person 5 9;person 5 9;person 10 0").lighten(7), 10);
        due("one whole, one in part", Check.crossing("ferry 5 3 0;person 10 0;person 5 9").lighten(3), 10);
    }

    private static void fewest() {
        AimFerry f = Check.crossing(FOUR);
        due("how many", f.fewest(0), 3);
        due("the first set", f.fewest(1), 1);
        due("what", f.fewest(2), -1);
        due("what", f.fewest(-1), -1);
        sameDue(f, 0, 0, 0);
        due("by none", Check.crossing("ferry 5 3 0;person 6 0").fewest(0), -2);
        due("by none", Check.crossing("ferry 5 3 0;person 6 0").fewest(1), -2);
        due("all are over", Check.crossing("ferry 5 3 0").fewest(0), 0);
        due("all are over", Check.crossing("ferry 5 3 0").fewest(1), 0);
        f = Check.crossing("ferry 5 3 0;person 5 9");
        due("no AIM grew", f.fewest(0), 1);
        // one at a time, and each time somebody takes the boat home: nobody can
        f = Check.crossing("ferry 5 2 6;person 0 0;person 0 0;cork 1;fog 0;fog 1");
        due("the cork must be aboard", f.fewest(0), 3);
        due("and brings one", f.fewest(1), 5);
        f.cross(4);
        due("boat there", f.fewest(0), 4);
        due("the cork comes home", f.fewest(1), 4);
        f = Check.crossing("ferry 9 1 0;person 4 0;person 4 0");
        due("to and fro", f.fewest(0), 3);
        f.cross(1);
        due("nobody goes home", f.fewest(1), 0);
        due("two more", f.fewest(0), 2);
        f.cross(0);
        f.cross(2);
        f.cross(0);
        due("all over, the boat here", f.fewest(0), 0);
        due("all at once", Check.crossing("ferry 20 7 0;person 1 0;person 1 0").fewest(1), 3);
        // in fog nobody, and no one of them, may go home; going home both weigh 0 and 7 less 2
        f = Check.crossing("ferry 5 3 7;cork 1;cork 1;cork 20;beside 0 1 1;fog 1");
        f.cross(3);
        due("home and over", f.fewest(0), 2);
        due("both come home", f.fewest(1), 3);
        f = Check.crossing("ferry 5 1 7;cork 1;cork 1;cork 20;beside 0 1 1;fog 3");
        f.cross(1);
        f.cross(0);
        f.cross(2);
        due("one seat", f.fewest(0), -2);
    }

    private static void row() {
        AimFerry f = Check.crossing(FOUR);
        int[] want = {0, 0, 2, 3, 1, -2, -2, -2, -3};
        for (int what = -1; what <= 7; what++) {
            due("row(" + what + ")", f.row(what), want[what + 1]);
        }
        due("row(-2)", f.row(-2), -3);
        f = Check.crossing("ferry 9 3 0;person 1 0;person 1 0;person 1 0;beside 0 1 3;beside 0 2 4;beside 1 2 5");
        int[] three = {7, 1, 0, 2, -2};
        for (int what = -1; what <= 3; what++) {
            due("row(" + what + ")", f.row(what), three[what + 1]);
        }
        f.cross(1);
        due("one is there", f.row(0), 0);
        due("one is there", f.row(-1), 0);
        due("one is there", f.row(1), -2);
        f.cross(0);
        due("two are here", f.row(-1), 5);
        due("the first", f.row(0), 1);
        f = Check.crossing("ferry 9 3 0");
        due("nobody", f.row(-1), 0);
        due("nobody", f.row(0), -2);
        f = Check.crossing("ferry 9 3 0;cork 1;cork 1;cork 1;cork 1;cork 1;cork 1;cork 1;beside 0 1 1;beside 5 6 1");
        int[] seven = {0, 0, 2, 1, 3, 5, 4, 6};
        for (int what = -1; what <= 6; what++) {
            due("row(" + what + ") of 7", f.row(what), seven[what + 1]);
        }
    }

    private static void fare() {
        AimFerry f = Check.crossing(FOUR);
        // 12, 6, 9 of 27: 44 and 12/27, 22 and 6/27, 33 and 9/27
        due("lost most", f.fare(7, 100, 0), 45);
        due("downwards", f.fare(7, 100, 1), 22);
        due("downwards", f.fare(7, 100, 2), 33);
        due("a cork", f.fare(15, 100, 3), 0);
        due("with a cork", f.fare(15, 100, 0), 45);
        due("nothing", f.fare(7, 0, 0), 0);
        due("all", f.fare(1, 9999, 0), 9999);
        due("a cork alone", f.fare(8, 7, 3), 7);
        due("too much", f.fare(7, 10000, 0), -1);
        due("below 0", f.fare(7, -1, 0), -1);
        due("not of the set", f.fare(6, 1, 0), -1);
        due("nobody's", f.fare(0, 1, 0), -1);
        due("not there", f.fare(17, 1, 0), -1);
        due("not there", f.fare(16, 1, 4), -1);
        due("below 0", f.fare(-1, 1, 0), -1);
        due("PERSON below 0", f.fare(7, 1, -1), -1);
        // 2 of three alike: the least first
        f = Check.crossing("ferry 9 3 0;person 5 0;person 5 0;person 5 0;person 0 3;cork 1");
        due("the least", f.fare(7, 5, 0), 2);
        due("the next", f.fare(7, 5, 1), 2);
        due("the last", f.fare(7, 5, 2), 1);
        f.toss(1, 4);
        f.talk(2, 1);
        f.toss(2, 4);
        // AIMS 5, 1, 2: of 5 the parts are 3 and 1/8, 0 and 5/8, 1 and 2/8; of 6 3 and 6/8, 0 and 6/8, 1 and 4/8
        due("5/8 is the most", f.fare(7, 5, 1), 1);
        due("1/8 is not", f.fare(7, 5, 0), 3);
        due("6/8", f.fare(7, 6, 0) * 100 + f.fare(7, 6, 1) * 10 + f.fare(7, 6, 2), 411);
        f.undo();
        f.undo();
        f.undo();
        due("2 of 3 lost 1, 1 of 3 lost 2", Check.crossing("ferry 9 3 0;person 2 0;person 1 0").fare(3, 5, 0), 3);
        due("2 of 3 lost 1, 1 of 3 lost 2", Check.crossing("ferry 9 3 0;person 2 0;person 1 0").fare(3, 5, 1), 2);
        due("all AIMS 0", f.fare(24, 5, 3), 3);
        due("all AIMS 0", f.fare(24, 5, 4), 2);
        f.toss(0, 5);
        f.cross(2);
        due("as it is, on whatever SIDE", f.fare(7, 6, 1), 3);
        due("as it is", f.fare(7, 6, 0), 0);
    }

    private static void stay() {
        AimFerry f = Check.crossing(FOUR);
        // 12 without 0, 17 without 1, 16 without 2, 30 without the cork
        due("who", f.stay(0), 0);
        due("WEIGHT", f.stay(1), 12);
        due("what", f.stay(2), -1);
        due("what", f.stay(-1), -1);
        f.cross(1);
        due("there", f.stay(0), 0);
        due("fog alone", f.stay(1), 5);
        f.cross(0);
        due("without 1", f.stay(0), 2);
        due("6 less 4", f.stay(1), 2);
        due("of several the least", Check.crossing("ferry 9 1 0;person 5 0;person 5 0").stay(0), 0);
        f = Check.crossing("ferry 9 1 0;person 5 0");
        f.cross(0);
        due("nobody is there", f.stay(0), -2);
        due("nobody is there", f.stay(1), -2);
    }

    private static void lies() {
        AimFerry f = Check.crossing("ferry 10 1 0;person 12 0;person 8 0");
        // true: 1 crosses; if 0 lies, 0 crosses, whatever 1 says
        due("how many", f.lies(0, 1, 1, 0), 1);
        due("0 lies", f.lies(0, 1, 1, 1), 2);
        due("the other way round", f.lies(1, 0, 1, 1), 1);
        // in three TRIPS both are over only if 0 lies
        due("for three", f.lies(0, 1, 3, 1), 2);
        due("how many", f.lies(0, 1, 3, 0), 1);
        due("one and the same", f.lies(0, 0, 1, 0), -1);
        due("not there", f.lies(0, 2, 1, 0), -1);
        due("not there", f.lies(-1, 1, 1, 0), -1);
        due("too short", f.lies(0, 1, 0, 0), -1);
        due("too long", f.lies(0, 1, 21, 0), -1);
        due("what", f.lies(0, 1, 1, 2), -1);
        sameDue(f, 0, 0, 0);
        due("no need", Check.crossing("ferry 20 2 0;person 12 0;person 8 0").lies(0, 1, 1, 1), 0);
        // who is aboard: 1 if both are true, 0 if 0 lies, 1 if 1 lies (too): somebody would always rather do otherwise
        f = Check.crossing("ferry 10 1 0;person 8 0;person 6 0");
        Check.rule(f, "board 4 if aim=3;board 3 if aim=4;board 2 if aim=6;board 1");
        due("how many", f.lies(0, 1, 1, 0), 0);
        due("there is none", f.lies(0, 1, 1, 1), -2);
        // both turn back in mid stream (12 or 10), unless both lie (8)
        f = Check.crossing("ferry 8 2 0;person 4 2;person 4 2");
        due("two ways", f.lies(0, 1, 1, 0), 2);
        due("the first", f.lies(0, 1, 1, 1), 0);
        f = Check.crossing("ferry 10 2 0;person 8 0;person 6 0");
        // 14: one crosses alone, unless one lies: 4 + 6 or 8 + 3
        due("0 is over anyhow, 1 can't help it", f.lies(0, 1, 1, 0), 1);
        due("none lies", f.lies(0, 1, 1, 1), 0);
    }

    private static void waits() {
        AimFerry f = Check.crossing(FOUR);
        due("turned back", f.waits(0), 0);
        due("turned back", f.waits(1), 0);
        due("later", f.waits(2), 3);
        due("a cork", f.waits(3), 0);
        due("not there", f.waits(4), -1);
        due("not there", f.waits(-1), -1);
        sameDue(f, 0, 0, 0);
        due("on none", Check.crossing("ferry 5 1 0;person 6 0").waits(0), -2);
        f = Check.rule(Check.crossing("ferry 5 1 0;person 2 0"), "board 1 if hour=98");
        due("one of the last", f.waits(0), 98);
        f = Check.rule(Check.crossing("ferry 5 2 0;person 2 0;person 1 0"), "board 1 if hour=99 or hour=0 and person=1");
        due("in 100", f.waits(1), 0);
        f.cross(2);
        due("of 100 from HOUR 1 on, on SIDE 1", f.waits(1), 99);
        due("the other one", f.waits(0), -2);
        f = Check.rule(Check.crossing("ferry 5 1 0;person 2 0"), "board 1 if hour>=100");
        due("the 101st", f.waits(0), -2);
        f.cross(0);
        due("the 100th from HOUR 1 on", f.waits(0), 100);
        f.cross(0);
        due("the 99th from HOUR 2 on", f.waits(0), 100);
    }

    private static void soothe() {
        AimFerry f = Check.crossing("ferry 10 1 0;person 12 0;person 8 0");
        due("nobody's", f.soothe(1, 0), -1);
        due("one", f.soothe(1, 1), 1);
        due("in three TRIPS", f.soothe(3, 0), 0);
        due("two", f.soothe(3, 1), 2);
        f = Check.crossing("ferry 10 2 0;person 12 0;person 8 0");
        due("whose", f.soothe(1, 0), 0);
        due("two", f.soothe(1, 1), 2);
        f = Check.crossing("ferry 10 3 0;person 7 0;person 7 0;person 3 0");
        // 0 and 2 as it is; any of the three at 0 gives no more but 0's or 1's: 7 + 3
        due("of several the least", f.soothe(1, 0), 0);
        due("three", f.soothe(1, 1), 3);
        due("too short", f.soothe(0, 0), -2);
        due("too long", f.soothe(31, 0), -2);
        due("long", f.soothe(30, 1), 3);
        due("what", f.soothe(1, 2), -2);
        due("what", f.soothe(1, -1), -2);
        sameDue(f, 0, 0, 0);
        due("no PEOPLE", Check.crossing("ferry 10 2 0").soothe(1, 0), -1);
        due("no PEOPLE", Check.crossing("ferry 10 2 0").soothe(1, 1), 0);
    }

    private static void never() {
        AimFerry f = Check.crossing("ferry 10 2 0;person 12 0;person 8 3;person 5 1");
        due("12, and 11 in mid stream", f.never(), 3);
        f.cross(4);
        due("there nobody", f.never(), 0);
        f.cross(0);
        due("here", f.never(), 3);
        due("a cork helps", Check.crossing("ferry 10 2 0;person 12 0;person 8 3;person 5 1;cork 2").never(), 0);
        due("but takes a seat", Check.crossing("ferry 10 1 0;person 12 0;person 8 3;person 5 1;cork 2").never(), 3);
        due("not even nobody", Check.crossing("ferry 10 7 11;person 0 0;fog 0").never(), 1);
        due("no PEOPLE", Check.crossing("ferry 10 7 11").never(), 0);
        due("all together", Check.crossing("ferry 10 2 0;person 12 0;cork 2").never(), 0);
        due("all of 7", Check.crossing("ferry 0 7 0" + ";person 1 0".repeat(7)).never(), 127);
    }

    private static void note() {
        AimFerry f = Check.crossing(FOUR);
        due("a NOTE", f.note(0, 0, 0), 1);
        due("a NOTE", f.note(60, 3, 1), 2);
        due("too late", f.note(61, 0, 0), -2);
        due("below NONE", f.note(-2, 0, 0), -2);
        due("PERSON", f.note(1, 4, 0), -2);
        due("PERSON", f.note(1, -1, 0), -2);
        due("SIDE", f.note(1, 0, 2), -2);
        due("SIDE", f.note(1, 0, -1), -2);
        due("NOTES", f.count(12), 2);
        for (int k = 3; k <= 10; k++) {
            due("NOTE " + k, f.note(k, 0, 0), k);
        }
        due("there are 10", f.note(1, 0, 0), -2);
        due("NOTES", f.count(12), 10);
        due("none then", f.note(-1, 99, 99), 0);
        due("NOTES", f.count(12), 0);
        due("all are so", f.ruled(0), 1);
        due("a NOTE again", f.note(1, 0, 0), 1);
        due("without a CROSSING", new AimFerry().note(-1, 0, 0), 0);
    }

    private static AimFerry threeWays() {
        // who is over behind TRIP 0, 1, 2 ..: none: 0, 0, both ..; RULE 0: 0, nobody, 0, nobody ..; RULE 1: 1, 1, both ..
        AimFerry f = Check.crossing("ferry 20 1 0;person 4 0;person 7 0");
        Check.rule(f, "board 1");
        return Check.rule(f, "board aim if side=0");
    }

    private static void ruled() {
        AimFerry f = threeWays();
        due("all without NOTES", f.ruled(0), 3);
        due("none is the first", f.ruled(1), -1);
        due("what", f.ruled(2), -3);
        due("what", f.ruled(-1), -3);
        f.toss(1, 7);
        f.trip();
        f.note(0, 0, 1);
        due("none and 0, all as the text told it", f.ruled(0), 2);
        due("none", f.ruled(1), -1);
        f.note(1, 0, 0);
        due("0 alone", f.ruled(0), 1);
        due("0 alone", f.ruled(1), 0);
        f.note(-1, 0, 0);
        f.note(0, 1, 1);
        due("1 alone", f.ruled(0), 1);
        due("1 alone", f.ruled(1), 1);
        f.note(2, 0, 1);
        f.note(0, 0, 0);
        due("still", f.ruled(1), 1);
        f.note(0, 0, 1);
        due("there is none such", f.ruled(0), 0);
        due("there is none such", f.ruled(1), -2);
        due("HOUR", f.count(6), 1);
    }

    /** Without a RULE, by one NOTE alone: whether it is so. */
    private static void noteDue(String text, int n, int side, int want) {
        AimFerry f = Check.crossing(text);
        f.note(n, 0, side);
        due(text + ", NOTE of TRIP " + n + " and SIDE " + side, f.ruled(0), want);
        due(text + ", the first", f.ruled(1), want == 1 ? -1 : -2);
    }

    /** TRIP 0 is the first of all: a NOTE of n 0 speaks of how it is behind that TRIP. */
    private static void ruledBehindTrip() {
        noteDue("ferry 9 2 0;person 4 1", 0, 0, 0);
        noteDue("ferry 9 2 0;person 4 1", 0, 1, 1);
        noteDue("ferry 4 2 0;person 4 1", 0, 0, 1);
        noteDue("ferry 4 2 0;person 4 1", 0, 1, 0);
        // in HOUR 0 the boat stays, for fog: that is a TRIP, too
        noteDue("ferry 9 2 10;person 4 1;fog 0", 0, 0, 1);
        noteDue("ferry 9 2 10;person 4 1;fog 0", 1, 0, 0);
        noteDue("ferry 9 2 10;person 4 1;fog 0", 1, 1, 1);
        lastTripNoted();
        AimFerry f = threeWays();
        int[][] notes = {{60, 0, 1}, {0, 0, 1}, {59, 0, 0}, {1, 1, 0}, {2, 0, 1}, {1, 0, 0}};
        int[] many = {3, 2, 1, 1, 1, 1};
        int[] first = {-1, -1, 0, 0, 0, 0};
        for (int k = 0; k < notes.length; k++) {
            f.note(notes[k][0], notes[k][1], notes[k][2]);
            due("so by " + (k + 1) + " NOTES", f.ruled(0), many[k]);
            due("the first by " + (k + 1) + " NOTES", f.ruled(1), first[k]);
        }
        f.note(60, 1, 1);
        due("the last NOTE is not so", f.ruled(0), 0);
    }

    private static void lastTripNoted() {
        AimFerry f = threeWays();
        f.note(60, 1, 0);
        due("1 is never over by RULE 0", f.ruled(0), 1);
        due("1 is never over by RULE 0", f.ruled(1), 0);
        f.note(-1, 0, 0);
        f.note(60, 0, 0);
        due("behind TRIP 60 it is over by each", f.ruled(0), 0);
        due("behind TRIP 60 it is over by each", f.ruled(1), -2);
        f.note(-1, 0, 0);
        f.note(59, 0, 0);
        due("behind TRIP 59 it is home by RULE 0", f.ruled(0), 1);
        due("behind TRIP 59 it is home by RULE 0", f.ruled(1), 0);
        // fog keeps the boat there on TRIPS 0 to 37
        StringBuilder text = new StringBuilder("ferry 10 1 20;person 4 0");
        for (int hour = 0; hour < 38; hour++) {
            text.append(";fog ").append(hour);
        }
        noteDue(text.toString(), 37, 0, 1);
        noteDue(text.toString(), 38, 0, 0);
        noteDue(text.toString(), 60, 1, 1);
    }

    private static void look() {
        AimFerry f = threeWays();
        due("behind TRIP 1", f.look(1, 0), 0);
        due("two alike", f.look(1, 1), 2);
        due("behind TRIP 2", f.look(2, 0), 1);
        due("two alike", f.look(2, 1), 2);
        f.note(1, 1, 0);
        // none and RULE 0 are so
        due("of those that are so", f.look(1, 0), 0);
        due("one each", f.look(1, 1), 1);
        due("the other part", f.look(2, 0), 1);
        due("too late", f.look(61, 0), -1);
        due("below 0", f.look(-1, 0), -1);
        due("what", f.look(1, 2), -1);
        due("what", f.look(1, -1), -1);
        f.note(0, 0, 0);
        due("no RULE is so", f.look(1, 0), -2);
        due("no RULE is so", f.look(1, 1), -2);
        f = Check.crossing("ferry 20 1 0;person 4 0;person 7 0");
        for (int k = 0; k < 6; k++) {
            Check.rule(f, k < 5 ? "board 1" : "board aim");
        }
        f.note(0, 1, 1);
        due("the last of 6", f.look(1, 1), 1);
        due("the last of 6", f.ruled(1), 5);
        due("no PEOPLE", Check.crossing("ferry 1 1 1").look(1, 0), -2);
        due("no PEOPLE", Check.crossing("ferry 1 1 1").look(1, 1), -2);
    }

    /** TRIP 0 is the first of all: look(0, ..) asks of how it is behind that TRIP. */
    private static void lookBehindTrip() {
        AimFerry f = Check.rule(Check.crossing("ferry 9 2 0;person 4 1"), "board 0");
        due("over and not", f.look(0, 0), 0);
        due("one each", f.look(0, 1), 1);
        f = Check.rule(Check.crossing("ferry 9 2 0;person 4 1"), "board 1");
        due("over by both", f.look(0, 0), 0);
        due("both alike", f.look(0, 1), 2);
        due("home by one", f.look(1, 1), 1);
        f = threeWays();
        due("behind TRIP 0: 0, 0 and 1", f.look(0, 0), 0);
        due("two alike", f.look(0, 1), 2);
        due("behind TRIP 60: both, 0 and both", f.look(60, 0), 1);
        due("two alike", f.look(60, 1), 2);
        due("behind TRIP 59: both, nobody and both", f.look(59, 0), 0);
        f.note(1, 1, 0);
        due("behind TRIP 60: both and 0", f.look(60, 0), 1);
        due("one each", f.look(60, 1), 1);
        due("behind TRIP 59: both and nobody", f.look(59, 0), 0);
        due("one each", f.look(59, 1), 1);
        due("HOUR", f.count(6), 0);
    }

    private static void seed() {
        AimFerry f = new AimFerry();
        due("0 at first", f.seed(5), 0);
        due("what it was", f.seed(Integer.MAX_VALUE), 5);
        due("below 0", f.seed(-1), -1);
        due("nothing happened", f.count(14), Integer.MAX_VALUE);
        due("what it was", f.seed(0), Integer.MAX_VALUE);
    }

    private static void fogs() {
        AimFerry f = Check.crossing("ferry 5 1 6;person 3 0");
        // DRAWS from 0 on, mod 100: 0 68 88 17 98 27 45 41 22 10; in fog the boat stays
        due("ten DRAWS", f.fogs(10, 1, 50, 0), 3);
        due("below p", f.fogs(10, 1, 68, 0), 3);
        due("below p", f.fogs(10, 1, 69, 0), 2);
        due("never", f.fogs(10, 1, 0, 0), 10);
        due("ever", f.fogs(10, 1, 100, 0), 0);
        due("0 0 1: x goes on from one time to the next", f.fogs(3, 3, 46, 0), 2);
        due("x as it was", f.count(14), 0);
        sameDue(f, 0, 0, 0);
        f.seed(551188310);
        due("from another x on", f.fogs(2, 1, 52, 0), 2);
        due("from another x on", f.fogs(2, 1, 53, 0), 1);
        f.seed(0);
        due("once", f.fogs(1, 1, 0, 0), 1);
        due("once", f.fogs(1, 1, 1, 0), 0);
        due("m", f.fogs(0, 1, 1, 0), -1);
        due("m", f.fogs(11, 1, 1, 0), -1);
        due("n", f.fogs(1, 0, 1, 0), -1);
        due("n", f.fogs(1, 61, 1, 0), -1);
        due("p", f.fogs(1, 1, -1, 0), -1);
        due("p", f.fogs(1, 1, 101, 0), -1);
        due("what", f.fogs(1, 1, 1, 2), -1);
        due("what", f.fogs(1, 1, 1, -1), -1);
        due("long", f.fogs(10, 60, 50, 0), 10);
        f = Check.crossing("ferry 5 1 6;person 3 0;fog 0");
        due("fog that was told, too", f.fogs(10, 1, 0, 0), 0);
        f = Check.crossing("ferry 5 1 6;person 3 3");
        due("SHIPPED, all together", f.fogs(2, 1, 0, 1), 2);
        f.trip();
        due("SHIPPED before", f.count(9), 1);
        due("6 can't board", f.fogs(2, 5, 0, 1), 0);
        f = Check.crossing("ferry 9 1 6;person 1 2");
        f.cross(1);
        due("from now on", f.fogs(4, 1, 100, 0), 4);
        f = Check.rule(Check.crossing("ferry 9 1 6;person 1 0"), "board fog");
        due("a RULE sees it", f.fogs(10, 1, 50, 0), 7);
    }
}
