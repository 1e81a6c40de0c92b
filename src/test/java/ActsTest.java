/** Promises 7 to 13 and 32 to 34: PEOPLE, ACTS, what is undone, what is counted, IMAGES. */
public final class ActsTest {
    private static final Check CHECK = new Check("ActsTest");
    private static final String FOUR = "ferry 20 3 5;person 12 3;person 6 2;person 9 0;cork 4;beside 0 1 2;beside 1 2 1"
        + ";fog 1";

    private static void due(String what, int got, int want) {
        CHECK.due(what, got, want);
    }

    public static void main(String[] args) {
        person();
        beside();
        tripWithoutRule();
        tripHeld();
        tripByRule();
        tripWords();
        tripSums();
        tripClauses();
        cross();
        crossHome();
        hours();
        toss();
        talk();
        undo();
        count();
        images();
        CHECK.finish();
    }

    private static void person() {
        AimFerry f = Check.crossing(FOUR);
        due("AIM", f.person(1, 0), 6);
        due("GROWS", f.person(1, 1), 2);
        due("LIGHTENS", f.person(1, 2), 0);
        due("LIGHTENS", f.person(3, 2), 4);
        due("SIDE", f.person(1, 3), 0);
        due("what -1", f.person(1, -1), -1);
        due("what 4", f.person(1, 4), -1);
        due("PERSON 4", f.person(4, 0), -1);
        due("PERSON -1", f.person(-1, 0), -1);
        f.cross(2);
        due("SIDE then", f.person(1, 3), 1);
        due("AIM then", f.person(1, 0), 8);
        due("GROWS then", f.person(1, 1), 2);
    }

    private static void beside() {
        AimFerry f = Check.crossing(FOUR);
        due("two", f.beside(0, 1), 2);
        due("the other way round", f.beside(1, 0), 2);
        due("one", f.beside(1, 1), 0);
        due("not told", f.beside(0, 3), 0);
        due("not there", f.beside(0, 4), -1);
        due("not there", f.beside(4, 4), -1);
        due("not there", f.beside(-1, 0), -1);
    }

    private static void tripWithoutRule() {
        AimFerry f = Check.crossing(FOUR);
        // 12 + 6 + 2 - 4 = 16 may board, 15 + 8 + 2 - 4 = 21 turns back
        due("0, 1 and the cork", f.trip(), 11);
        due("SHIPPED", f.count(9), 1);
        due("boat", f.count(7), 0);
        due("over", f.count(8), 0);
        due("AIM grew", f.person(0, 0), 15);
        due("AIM grew", f.person(1, 0), 8);
        due("AIM not aboard", f.person(2, 0), 9);
        due("HOUR", f.count(6), 1);
        due("fog", f.count(11), 1);
        // in fog 15 + 5 and then the cork; 18 + 5 - 4 = 19 comes over
        due("0 and the cork", f.trip(), 9);
        due("boat", f.count(7), 1);
        due("over", f.count(8), 9);
        due("home with nobody", f.trip(), 0);
        due("boat", f.count(7), 0);
        // 8 + 9 + 1 = 18, and 20 in mid stream
        due("1 and 2", f.trip(), 6);
        due("over", f.count(8), 15);
        due("SHIPPED", f.count(9), 1);
        due("HOUR", f.count(6), 4);
        due("to and fro with nobody", f.trip(), 0);
        due("to and fro with nobody", f.trip(), 0);
        due("boat", f.count(7), 1);
    }

    private static void tripHeld() {
        AimFerry f = Check.crossing("ferry 4 2 5;person 1 0;fog 0");
        due("nobody in fog", f.trip(), 0);
        due("the boat stays", f.count(7), 0);
        due("HOUR", f.count(6), 1);
        due("not SHIPPED", f.count(9), 0);
        due("an ACT", f.count(13), 1);
        due("then", f.trip(), 1);
        due("over", f.count(8), 1);
        f = Check.crossing("ferry 4 2 5;person 1 0;cork 1;fog 0");
        due("a cork makes it 4", f.trip(), 2);
        due("over", f.count(8), 2);
        f = Check.crossing("ferry 5 2 5;person 1 0;fog 0");
        due("nobody in fog that can", f.trip(), 0);
        due("the boat is over", f.count(7), 1);
    }

    private static void tripByRule() {
        AimFerry f = Check.rule(Check.crossing(FOUR), "board aim if side = 0");
        // greatest AIM first: 0, then 1 (9 would be 21), no SUM above 0 for the cork: 15 + 8 + 2 = 25
        due("by AIM", f.trip(), 3);
        due("SHIPPED", f.count(9), 1);
        f = Check.rule(Check.crossing("ferry 99 2 0;person 3 0;person 5 0;person 5 0"), "board aim");
        due("of several the least, SEATS 2", f.trip(), 6);
        due("home too", f.trip(), 6);
        f = Check.rule(Check.crossing("ferry 9 7 0;person 3 0;person 5 0;person 5 0"), "board aim");
        due("5, then 3: 10 is too much", f.trip(), 3);
        f = Check.rule(Check.crossing("ferry 9 7 0;person 3 0;person 5 0"), "board 0-aim");
        due("nobody above 0", f.trip(), 0);
        due("the boat goes", f.count(7), 1);
        f = Check.rule(Check.crossing("ferry 9 7 0;person 3 0;person 5 0"), "board 0");
        due("0 is not above 0", f.trip(), 0);
        f.force(-1);
        due("home without a RULE", f.trip(), 0);
        due("without a RULE", f.trip(), 3);
        f = Check.crossing("ferry 9 1 0;person 3 0;person 5 0");
        for (int k = 0; k < 6; k++) {
            Check.rule(f, k == 5 ? "board aim" : "board 1");
        }
        due("by the last of 6", f.trip(), 2);
        f = Check.crossing("ferry 5 3 0;cork 2;person 4 0;person 3 0");
        due("a cork aboard lightens all who come", f.trip(), 7);
        f = Check.crossing("ferry 9 3 0;person 3 0;person 5 0;beside 0 1 2");
        due("3 beside 5 are 10", Check.rule(f, "board aim").trip(), 2);
        f = Check.crossing("ferry 99 7 0" + ";person 1 0".repeat(7));
        due("all of 7", f.trip(), 127);
    }

    /** Who comes aboard by one test, of 4 (grows 1), 7 (grows 2) and a cork of 3; LOAD 30, SEATS 3, FOG 5 in HOUR 1. */
    private static void testDue(String test, int want) {
        AimFerry f = Check.crossing("ferry 30 3 5;person 4 1;person 7 2;cork 3;beside 0 1 2;fog 1");
        due("who by " + test, Check.rule(f, "board 1 if " + test).trip(), want);
    }

    private static void tripWords() {
        testDue("person=1", 2);
        testDue("aim=7", 2);
        testDue("grows=1", 1);
        testDue("light=3", 4);
        testDue("side=0", 7);
        testDue("side=1", 0);
        testDue("hour=0", 7);
        testDue("hour>0", 0);
        testDue("weight=0", 1);
        testDue("weight<=4", 3);
        testDue("weight=4 or person=0", 3);
        testDue("room=30", 1);
        testDue("room>=26", 3);
        testDue("room=26 and person=1 or person=0", 3);
        testDue("aboard=0", 1);
        testDue("aboard<2", 3);
        testDue("waits=3", 1);
        testDue("waits>1", 3);
        testDue("more=7", 2);
        testDue("more=4 or more=9", 3);
        testDue("more=4 or more=0-3", 5);
        testDue("fog=0", 7);
        testDue("fog=1", 0);
        AimFerry f = Check.crossing("ferry 30 3 5;person 4 1;person 7 2;cork 3;beside 0 1 2;fog 1");
        Check.rule(f, "board 1 if fog=1 and weight=5 and room=25 and hour=1 and more=3 and person=1");
        due("nobody in HOUR 0", f.trip(), 0);
        // on SIDE 1 nobody is: the boat waits there
        due("nobody in HOUR 1", f.trip(), 0);
        f = Check.crossing("ferry 30 3 5;person 4 1;person 7 2;fog 2");
        Check.rule(f, "board 1 if side=0;board 1 if fog=1 and side=1 and weight=5 and more=4 and aim=9");
        due("over", f.trip(), 3);
        due("home, not yet", f.trip(), 0);
        due("none there", f.trip(), 0);
        f = Check.crossing("ferry 30 3 5;person 4 1;person 7 2;fog 1");
        Check.rule(f, "board 1 if side=0;board 1 if fog=1 and side=1 and weight=5 and more=4 and aim=9");
        due("over", f.trip(), 3);
        due("half of 9 in fog", f.trip(), 2);
        f = Check.crossing("ferry 2 3 5;cork 4;fog 0");
        due("room below 0", Check.rule(f, "board 1 if room=0-3 and more=0-4").trip(), 1);
    }

    private static void tripSums() {
        testDue("7/2=3", 7);
        testDue("7%4=3", 7);
        testDue("7/0=0", 7);
        testDue("7%0=0", 7);
        testDue("7/hour=0", 7);
        testDue("2+3*4=14", 7);
        testDue("2*3+4=10", 7);
        testDue("20-3-4=13", 7);
        testDue("20-3+4=21", 7);
        testDue("40/5/2=4", 7);
        testDue("40/5*2=16", 7);
        testDue("20-2*3*2+40%7=13", 7);
        testDue("1+2*3-4*5+6=0-7", 7);
        testDue("1<1", 0);
        testDue("1<2", 7);
        testDue("1<=1", 7);
        testDue("2<=1", 0);
        testDue("1>=1", 7);
        testDue("1>=2", 0);
        testDue("1>1", 0);
        testDue("2>1", 7);
        testDue("1=2", 0);
        testDue("not 1=2", 7);
        testDue("not not 1=2", 0);
        testDue("1=1 or 1=1 and 1=2", 7);
        testDue("[1=1 or 1=1]and 1=2", 0);
        testDue("not 1=2 and 1=2", 0);
        testDue("not [1=2 and 1=2]", 7);
        testDue("1=2 or not 1=1 or 1=1", 7);
        testDue("99999*99999*99999*99999>0", 7);
        testDue("99999*99999*99999*99999*99999<0", 7);
        testDue("99999*99999*99999*99999*99999<0-99999*99999*99999*337", 7);
        testDue("99999*99999*99999*99999*99999>0-99999*99999*99999*338", 7);
        // with 0 aboard the cork's more is -3: -3 / 2 is -1, -3 % 2 is -1
        testDue("aboard=0 and person=0 or aboard=1 and more/2=0-1 and more%2=0-1", 5);
        // towards 0, and the least long by -1 goes round
        testDue("65536*32768*65536*65536<0", 7);
        testDue("65536*32768*65536*65536/side<1", 7);
        AimFerry f = Check.crossing("ferry 99 1 0;person 3 0;person 9 0;person 5 0");
        // 2 to the 62nd times 3 is below 0, times 9 and 5 the same
        due("greatest SUM goes round", Check.rule(f, "board 65536*32768*65536*32768*aim").trip(), 2);
        f = Check.crossing("ferry 99 1 0;person 3 0;person 9 0;person 5 0");
        due("the least of several", Check.rule(f, "board 20-aim%2").trip(), 1);
    }

    private static void tripClauses() {
        AimFerry f = Check.crossing("ferry 99 1 0;person 3 0;person 9 0;person 5 0");
        due("the first that holds", Check.rule(f, "board 1 if aim>8;board aim;board 50").trip(), 4);
        f = Check.crossing("ferry 99 1 0;person 3 0;person 9 0;person 5 0");
        due("0 of the first without a TEST", Check.rule(f, "board 7 if aim=4;board 0;board 1").trip(), 0);
        f = Check.crossing("ferry 99 1 0;person 3 0;person 9 0;person 5 0");
        due("0 without", Check.rule(f, "board 7 if aim=4;board 7 if aim=6").trip(), 0);
        f = Check.crossing("ferry 99 3 0;person 3 0;person 9 0;person 5 0");
        due("by how all is then", Check.rule(f, "board aim if aboard=0;board 1 if weight>9").trip(), 2);
    }

    private static void cross() {
        AimFerry f = Check.crossing(FOUR);
        due("21 is too heavy", f.cross(5), -1);
        due("too many", f.cross(15), -1);
        due("not there", f.cross(16), -1);
        due("below 0", f.cross(-1), -1);
        due("below 0", f.cross(Integer.MIN_VALUE), -1);
        due("nothing happened", f.count(6) + f.count(13), 0);
        due("turned back", f.cross(3), 0);
        due("SHIPPED", f.count(9), 1);
        due("AIM", f.person(0, 0), 15);
        due("HOUR", f.count(6), 1);
        due("over", f.cross(4), 1);
        due("boat", f.count(7), 1);
        due("who is over", f.count(8), 4);
        due("on the other SIDE", f.cross(1), -1);
        due("nobody, too", f.cross(0), 1);
        due("boat", f.count(7), 0);
        due("HOUR", f.count(6), 3);
        due("not here", f.cross(4), -1);
        f = Check.crossing("ferry 4 2 5;person 1 0;fog 0");
        due("nobody in fog", f.cross(0), -1);
        f = Check.crossing("ferry 99 2 0;person 40 9");
        for (int k = 0; k < 9; k++) {
            f.cross(1);
        }
        due("99 at most", f.person(0, 0), 99);
        f = Check.crossing("ferry 99 2 0;person 0 9");
        f.cross(1);
        due("0 does not grow", f.person(0, 0), 0);
        f = Check.crossing("ferry 99 2 0;person 1 9");
        f.cross(1);
        due("1 does", f.person(0, 0), 10);
    }

    private static void crossHome() {
        AimFerry f = Check.crossing("ferry 10 3 3;person 4 1;person 3 3;cork 2;beside 0 1 2;fog 2");
        due("over: 4+3+2=9, 12-2 in mid stream", f.cross(7), 0);
        due("AIMS", f.person(0, 0) * 100 + f.person(1, 0), 506);
        f.toss(1, 2);
        due("over: 5+4+2-2=9; 6+7+2-2=13", f.cross(7), 0);
        f.toss(1, 7);
        due("one is over in fog: 6+3-2, 7+3-2", f.cross(5), 1);
        due("half of 7 is 3", f.weight(1), 3);
        due("home", f.cross(1), 1);
        due("grew", f.person(0, 0), 8);
        due("SIDES", f.count(8), 4);
    }

    private static void hours() {
        AimFerry f = Check.crossing("ferry 9 1 0;person 1 0");
        for (int k = 0; k < 400; k++) {
            f.trip();
        }
        due("HOUR", f.count(6), 400);
        f.image(0);
        AimFerry g = Check.crossing("ferry 9 1 0;person 1 0");
        for (int k = 0; k < 999; k++) {
            g.cross(0);
        }
        due("HOUR 999", g.count(6), 999);
        due("no TRIP", g.trip(), -1);
        due("no CROSSING", g.cross(0), -1);
        due("HOUR 999", g.count(6), 999);
        due("ACTS", g.count(13), 20);
        due("HOURS that are asked go on", g.waits(0), 1000);
        due("all over", g.over(), 1001);
        due("other ACTS", g.toss(0, 1), 0);
        g = Check.crossing("ferry 9 1 0;fog 59;fog 60");
        for (int k = 0; k < 59; k++) {
            due("no fog in HOUR " + k, g.count(11), 0);
            g.trip();
        }
        due("fog in HOUR 59", g.count(11) + g.trip(), 1);
        due("fog in HOUR 60", g.count(11) + g.trip(), 1);
        for (int k = 61; k < 200; k++) {
            due("no fog in HOUR " + k, g.count(11), 0);
            g.trip();
        }
    }

    private static void toss() {
        AimFerry f = Check.crossing(FOUR);
        due("nothing", f.toss(0, 0), -1);
        due("below", f.toss(0, -1), -1);
        due("more than it is", f.toss(0, 13), -1);
        due("not there", f.toss(4, 1), -1);
        due("a cork's", f.toss(3, 1), -1);
        due("no ACTS", f.count(13) + f.count(10), 0);
        due("some", f.toss(0, 5), 7);
        due("all", f.toss(0, 7), 0);
        due("of another", f.toss(1, 1), 5);
        due("at the bottom", f.count(10), 13);
        due("ACTS", f.count(13), 3);
        due("HOUR", f.count(6), 0);
    }

    private static void talk() {
        AimFerry f = Check.crossing(FOUR);
        due("nothing", f.talk(0, 0), -1);
        due("too much", f.talk(0, 21), -1);
        due("a cork", f.talk(3, 1), -1);
        due("a cork", Check.crossing("ferry 1 1 1;cork 1").talk(0, 1), -1);
        due("not there", f.talk(4, 1), -1);
        due("not there", f.talk(-1, 1), -1);
        due("no ACTS", f.count(13), 0);
        due("20", f.talk(0, 20), 32);
        due("1", f.talk(0, 1), 33);
        for (int k = 0; k < 3; k++) {
            f.talk(0, 20);
        }
        due("99 at most", f.talk(0, 20), 99);
        due("an ACT, too", f.talk(0, 1), 99);
        due("ACTS", f.count(13), 7);
        due("undone", f.undo(), 6);
        due("undone", f.undo(), 5);
        due("AIM", f.person(0, 0), 93);
    }

    private static void undo() {
        AimFerry f = Check.crossing(FOUR);
        due("none can", f.undo(), -1);
        f.trip();
        f.trip();
        f.toss(2, 4);
        due("THROW", f.undo(), 2);
        due("AIM", f.person(2, 0), 9);
        due("bottom", f.count(10), 0);
        due("TRIP", f.undo(), 1);
        due("boat", f.count(7), 0);
        due("over", f.count(8), 0);
        due("HOUR", f.count(6), 1);
        due("AIM", f.person(0, 0), 15);
        due("SHIPPED", f.count(9), 1);
        due("TRIP", f.undo(), 0);
        due("SHIPPED", f.count(9), 0);
        due("AIM", f.person(0, 0), 12);
        due("none can", f.undo(), -1);
        f.toss(0, 1);
        Check.rule(f, "board 1");
        f.note(1, 1, 1);
        f.seed(4);
        due("undone", f.undo(), 0);
        due("no ACT: force", f.count(5), 0);
        due("no ACT: note", f.count(12), 1);
        due("no ACT: seed", f.count(14), 4);
        for (int k = 0; k < 10; k++) {
            f.toss(0, 1);
            f.talk(1, 1);
            f.cross(8);
            f.cross(8);
        }
        due("20 can", f.count(13), 20);
        for (int k = 19; k >= 0; k--) {
            due("one more", f.undo(), k);
        }
        due("none", f.undo(), -1);
        due("AIM", f.person(0, 0), 7);
        due("AIM", f.person(1, 0), 11);
        due("HOUR", f.count(6), 10);
        due("bottom", f.count(10), 5);
    }

    private static void count() {
        AimFerry f = Check.rule(Check.crossing(FOUR), "board person+1");
        f.seed(77);
        f.note(3, 2, 1);
        f.note(4, 2, 1);
        f.toss(0, 3);
        due("by number", f.trip(), 14);
        due("home by number", f.trip(), 14);
        f.cross(4);
        f.cross(0);
        due("9+10+2-4, 12+12+2-4 in HOUR 4", f.cross(11), 0);
        f.cross(8);
        Check.feed(f, "board");
        int[] want = {20, 3, 5, 4, 1, 0, 6, 1, 12, 1, 3, 0, 2, 7, 77, 5};
        for (int what = 0; what < want.length; what++) {
            due("count(" + what + ")", f.count(what), want[what]);
        }
        due("count(16)", f.count(16), -1);
        due("count(-1)", f.count(-1), -1);
        due("count", f.count(Integer.MIN_VALUE), -1);
        due("fog", Check.crossing("ferry 1 1 1;fog 0").count(11), 1);
        due("no fog", Check.crossing("ferry 1 1 1;fog 1").count(11), 0);
    }

    private static void images() {
        AimFerry f = new AimFerry();
        due("never made", f.back(2), -1);
        due("of nothing", f.image(3), 0);
        due("not 4", f.image(4), -1);
        due("not -1", f.image(-1), -1);
        Check.rule(Check.crossing(f, FOUR), "board 1");
        f.force(-1);
        f.seed(5);
        f.trip();
        // behind TRIP 0, which turns back by each RULE
        f.note(0, 0, 0);
        f.toss(2, 3);
        due("HOUR", f.image(0), 1);
        due("ACTS stay", f.count(13), 2);
        Check.rule(f, "board 2");
        f.seed(6);
        f.note(2, 1, 0);
        f.trip();
        f.talk(0, 3);
        due("HOUR", f.image(1), 2);
        Check.crossing(f, "ferry 8 2 1;person 1 1");
        f.note(7, 0, 0);
        Check.feed(f, "board 3");
        due("never made", f.back(2), -1);
        due("not 4", f.back(4), -1);
        due("not -1", f.back(-1), -1);
        due("nothing happened", f.count(0), 8);
        due("gone back", f.back(0), 1);
        int[] want = {20, 3, 5, 4, 2, -1, 1, 0, 0, 1, 3, 1, 1, 0, 5, 7};
        for (int what = 0; what < want.length; what++) {
            due("count(" + what + ") gone back", f.count(what), want[what]);
        }
        due("AIM", f.person(2, 0), 6);
        due("nothing can be UNDONE", f.undo(), -1);
        f.toss(2, 6);
        f.note(5, 0, 0);
        due("an ACT", f.count(13), 1);
        due("gone on to", f.back(1), 2);
        due("nothing can be UNDONE", f.undo(), -1);
        due("IN FORCE", f.count(5), 1);
        due("NOTES", f.count(12), 2);
        due("x", f.count(14), 6);
        due("gone back again", f.back(0), 1);
        due("as it was", f.person(2, 0), 6);
        due("NOTES", f.count(12), 1);
        due("the NOTE is so", f.ruled(0), 3);
        due("made anew", f.image(1), 1);
        f.trip();
        due("there", f.back(1), 1);
        due("to nothing", f.back(3), 0);
        due("no CROSSING", f.trip(), -1);
        due("LOAD", f.count(0), 0);
        due("NOTES", f.count(12), 0);
        due("x", f.count(14), 0);
        due("IN FORCE", f.count(5), -1);
        due("RULES stay", f.count(4), 2);
    }
}
