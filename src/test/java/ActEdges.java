/** The edges of 'Terms', II: WEIGHT, who CAN BOARD, how a set CROSSES, TRIPS, ACTS. */
final class ActEdges {
    private final Sentences says;

    ActEdges(Sentences says) {
        this.says = says;
    }

    void all() {
        weight();
        canBoard();
        grows();
        turnsBack();
        hour();
        tripSets();
        tripSums();
        tripOrder();
        tripWithoutRule();
        tripOfNobody();
        crossing();
        thrown();
        talked();
        undone();
    }

    private void weight() {
        says.terms("WEIGHT of a set aboard: all AIMS, and of each two of these what they weigh more beside each other");
        AimFerry three = Check.crossing("ferry 40 3 5;person 7 0;person 4 0;person 2 0;beside 0 1 1;beside 2 0 3;beside 1 2 5");
        int[] want = {0, 7, 4, 12, 2, 12, 11, 22};
        for (int set = 0; set <= 7; set++) {
            says.due("set " + set, three.weight(set), want[set]);
        }
        says.terms("half of that, downwards, if the boat is on SIDE 1 (going home)");
        AimFerry f = Check.crossing("ferry 40 3 5;person 7 0;person 4 0;cork 3;beside 0 1 2;fog 0;fog 2");
        f.trip();
        says.due("the boat is on SIDE 1", f.count(7), 1);
        says.due("(7 + 4 + 2) / 2", f.weight(3), 6);
        says.due("7 / 2", f.weight(1), 3);
        says.due("4 / 2", f.weight(2), 2);
        says.due("what LIGHTENS is whole", f.weight(7), 3);
        f.cross(0);
        says.due("whole on SIDE 0, in fog", f.weight(3), 18);
        says.terms("in an HOUR of fog FOG more; less what all of them LIGHTEN together; 0 at least");
        f = Check.crossing("ferry 40 4 5;person 3 0;cork 3;cork 4;person 1 0;fog 0;fog 1");
        says.due("nobody in fog", f.weight(0), 5);
        says.due("one in fog", f.weight(1), 8);
        says.due("8 - 3", f.weight(3), 5);
        says.due("8 - 3 - 4", f.weight(7), 1);
        says.due("9 - 3 - 4", f.weight(15), 2);
        says.due("5 - 4", f.weight(4), 1);
        says.due("5 - 3 - 4 is 0", f.weight(6), 0);
        f.cross(9);
        says.due("FOG is whole on SIDE 1", f.weight(1), 6);
        f.cross(0);
        says.due("no fog in HOUR 2", f.weight(0), 0);
        says.due("3 - 3", f.weight(3), 0);
        says.due("3 - 4 is 0", f.weight(5), 0);
        says.due("0 - 3 is 0", f.weight(2), 0);
    }

    private void canBoard() {
        says.terms("A set (nobody, too) CAN BOARD, if these are on the boat's SIDE, are as many as SEATS at most, and "
            + "their WEIGHT is not above LOAD.");
        AimFerry f = Check.crossing("ferry 10 2 0;person 10 0;person 11 0;person 0 0;person 0 0");
        says.due("11 of LOAD 10", f.cross(2), -1);
        says.due("three of SEATS 2", f.cross(13), -1);
        says.due("three of no WEIGHT", Check.crossing("ferry 10 2 0;cork 1;cork 1;cork 1").cross(7), -1);
        says.due("10 of LOAD 10, two of SEATS 2", f.cross(5), 1);
        says.due("one of the other SIDE", f.cross(8), -1);
        says.due("one of each SIDE", f.cross(12), -1);
        says.due("nobody", f.cross(0), 1);
        says.due("who is over", f.cross(1), -1);
        says.due("one of each SIDE", f.cross(9), -1);
        says.due("nobody, in fog of 5 and LOAD 5", Check.crossing("ferry 5 1 5;fog 0").cross(0), 1);
        says.due("nobody, in fog of 6 and LOAD 5", Check.crossing("ferry 5 1 6;fog 0").cross(0), -1);
        says.due("one seat", Check.crossing("ferry 5 1 0;person 0 0;person 0 0").cross(3), -1);
        says.due("seven seats", Check.crossing("ferry 7 7 0" + ";person 1 0".repeat(7)).cross(127), 1);
    }

    private void grows() {
        says.terms("in mid stream each AIM aboard that is above 0 grows by what it GROWS (99 at most)");
        AimFerry f = Check.crossing("ferry 99 3 0;person 0 9;person 1 9;person 1 9;person 1 0");
        f.cross(11);
        says.due("0 does not", f.person(0, 0), 0);
        says.due("1 does", f.person(1, 0), 10);
        says.due("by 0", f.person(3, 0), 1);
        says.due("not aboard", f.person(2, 0), 1);
        f = Check.crossing("ferry 99 1 0;person 40 9;person 40 9");
        for (int k = 0; k < 2; k++) {
            f.talk(0, 20);
            f.talk(1, 20);
        }
        f.talk(0, 10);
        f.talk(1, 11);
        f.cross(1);
        says.due("90 and 9", f.person(0, 0), 99);
        f.cross(0);
        says.due("91 and 9 are 99, which is over", f.cross(2), 1);
        says.due("91 and 9 are 99", f.person(1, 0), 99);
        f.cross(2);
        says.due("99 stays", f.person(1, 0), 99);
    }

    private void turnsBack() {
        says.terms("is their WEIGHT above LOAD then, the boat turns back, and has SHIPPED once more; else boat and set "
            + "are on the other SIDE");
        AimFerry f = Check.crossing("ferry 10 1 0;person 5 5;person 5 6");
        says.due("11 of LOAD 10", f.cross(2), 0);
        says.due("SHIPPED", f.count(9), 1);
        says.due("the boat", f.count(7), 0);
        says.due("the set", f.count(8), 0);
        says.due("the AIM has grown", f.person(1, 0), 11);
        says.due("HOUR", f.count(6), 1);
        says.due("10 of LOAD 10", f.cross(1), 1);
        says.due("SHIPPED", f.count(9), 1);
        says.due("the boat", f.count(7), 1);
        says.due("the set", f.count(8), 1);
        says.due("home: 15 / 2 of LOAD 10", f.cross(1), 1);
        says.due("home: the set", f.count(8), 0);
        f = Check.crossing("ferry 10 1 5;person 4 1;fog 0;fog 1");
        says.due("fog, too: 5 + 5", f.cross(1), 1);
        says.due("fog on SIDE 1, too: 6 / 2 + 5", f.cross(1), 1);
        says.due("6 / 2 + 5 was 8", f.person(0, 0), 6);
        f = Check.crossing("ferry 10 1 6;person 4 1;fog 0");
        says.due("5 + 6 of LOAD 10", f.cross(1), 0);
    }

    /** 512 calls do not come to HOUR 999, so some of this goes beyond what is promised. */
    private void hour() {
        says.terms("HOUR is 1 more (999 at most by hand; HOURS that are asked go on beyond)");
        AimFerry f = Check.crossing("ferry 9 1 0;person 1 0");
        for (int k = 0; k < 998; k++) {
            f.cross(0);
        }
        says.due("HOUR 998", f.count(6), 998);
        says.due("a last one", f.trip(), 1);
        says.due("HOUR 999", f.count(6), 999);
        says.refused(f, "TRIP", f::trip, -1);
        says.refused(f, "CROSS", () -> f.cross(0), -1);
        says.due("asked: home in HOUR 1000", Check.rule(f, "board 1 if hour=1000").waits(0), -2);
        says.due("asked: to HOUR 1000", f.ahead(0, 1, 0), 1);
        says.due("home in HOUR 999", Check.rule(f, "board 1 if hour=999 or hour=1000").waits(0), 999);
        f.undo();
        says.due("HOUR 998 again", f.count(6), 998);
        says.due("over at the begin of HOUR 1001", f.over(), 1001);
        says.due("aboard in HOUR 1000", f.waits(0), 1000);
    }

    private static AimFerry three() {
        return Check.crossing("ferry 99 1 0;person 3 0;person 9 0;person 9 0");
    }

    private void tripSets() {
        says.terms("A TRIP: nobody is aboard; as long as there is one who would make a set that CAN BOARD with those aboard");
        says.due("10 of LOAD 10", Check.crossing("ferry 10 3 0;person 4 0;person 6 0;person 1 0").trip(), 3);
        says.due("11 of LOAD 10", Check.crossing("ferry 10 3 0;person 4 0;person 7 0;person 1 0").trip(), 5);
        says.due("SEATS 1", Check.crossing("ferry 10 1 0;person 4 0;person 1 0").trip(), 1);
        says.due("SEATS 7", Check.crossing("ferry 10 7 0" + ";person 1 0".repeat(7)).trip(), 127);
        says.due("SEATS 6", Check.crossing("ferry 10 6 0" + ";person 1 0".repeat(7)).trip(), 63);
        says.due("none of 11", Check.crossing("ferry 10 3 0;person 11 0").trip(), 0);
        says.due("by twos", Check.crossing("ferry 10 3 0;person 4 0;person 4 0;beside 0 1 2").trip(), 3);
        says.due("by twos", Check.crossing("ferry 10 3 0;person 4 0;person 4 0;beside 0 1 3").trip(), 1);
        says.due("with a cork aboard", Check.crossing("ferry 10 3 0;cork 2;person 4 0;person 8 0").trip(), 7);
        says.due("with a cork later", Check.crossing("ferry 10 3 0;person 4 0;person 8 0;cork 2").trip(), 7);
        says.due("who was not in last time", twice(Check.crossing("ferry 10 1 0;person 4 0;person 6 0"), "board 1"), 1);
    }

    /** Nobody is aboard of a TRIP but by its RULE, also behind another TRIP. */
    private static int twice(AimFerry f, String rule) {
        Check.rule(f, rule).trip();
        return f.trip();
    }

    private void tripSums() {
        says.terms("for whom the SUM of the RULE IN FORCE's first CLAUSE without a TEST, or whose TEST holds (0 "
            + "without), is above 0, by how all is then");
        says.due("SUM 0", Check.rule(three(), "board 0").trip(), 0);
        says.due("SUM 1", Check.rule(three(), "board 1").trip(), 1);
        says.due("SUM -1", Check.rule(three(), "board 0-1").trip(), 0);
        says.due("one of SUM 1", Check.rule(three(), "board aim-8").trip(), 2);
        says.due("the first without a TEST", Check.rule(three(), "board 0;board 1").trip(), 0);
        says.due("the first whose TEST holds", Check.rule(three(), "board 0 if aim=9;board 1 if aim>2").trip(), 1);
        says.due("the twelfth", Check.rule(three(), "board 1 if aim=4" + ";board 1 if 1=2".repeat(10) + ";board aim")
            .trip(), 2);
        says.due("none holds", Check.rule(three(), "board 1 if aim=4;board 1 if 1=2").trip(), 0);
        AimFerry f = Check.crossing("ferry 99 3 0;person 3 0;person 9 0;person 9 0");
        says.due("by how all is then", Check.rule(f, "board aim if weight<9;board 1 if weight=9 and aim=3").trip(), 3);
    }

    private void tripOrder() {
        says.terms("the one of greatest SUM, of several the least, comes aboard");
        says.due("of several the least", Check.rule(three(), "board aim").trip(), 2);
        says.due("the greatest", Check.rule(three(), "board 10-aim").trip(), 1);
        says.due("greatest in 64 bits", Check.rule(three(), "board 65536*65536*person+1").trip(), 4);
        AimFerry f = Check.crossing("ferry 11 3 0;person 3 0;person 9 0;person 2 0");
        says.due("by twos, of whom the least comes last",
            Check.rule(Check.crossing("ferry 9 3 0;person 3 0;person 4 0;beside 0 1 3"), "board aim").trip(), 2);
        says.due("who is too heavy then is passed over", Check.rule(f, "board aim").trip(), 6);
        f = Check.crossing("ferry 11 1 0;person 3 0;person 12 0;person 2 0");
        says.due("the greatest who is too heavy", Check.rule(f, "board aim").trip(), 1);
    }

    private void tripWithoutRule() {
        says.terms("(without a RULE on SIDE 0 the least who would make such a set; on SIDE 1 nobody)");
        AimFerry f = Check.crossing("ferry 10 2 0;person 11 0;person 6 0;person 5 0;person 4 0");
        says.due("1, and 3, since 2 is too heavy", f.trip(), 10);
        says.due("nobody comes home", f.trip(), 0);
        says.due("who is over", f.count(8), 10);
        says.due("the boat", f.count(7), 0);
        says.due("2 alone", f.trip(), 4);
        f.force(-1);
        says.due("nobody comes home", f.trip(), 0);
        says.due("nobody who could", f.trip(), 0);
        says.due("the boat", f.count(7), 1);
    }

    private void tripOfNobody() {
        says.terms("then they CROSS (nobody, too)");
        AimFerry f = Check.rule(Check.crossing("ferry 5 1 5;person 1 0;fog 0"), "board 0");
        says.due("nobody of WEIGHT 5 and LOAD 5", f.trip(), 0);
        says.due("the boat", f.count(7), 1);
        says.due("HOUR", f.count(6), 1);
        says.due("no PEOPLE", Check.crossing("ferry 0 1 0").trip(), 0);
        says.terms("is nobody aboard, and nobody CAN not BOARD (for fog), the boat stays, and HOUR is 1 more");
        f = Check.crossing("ferry 4 1 5;person 1 0;cork 1;fog 0;fog 1");
        f.force(Check.feed(f, "board 1 if hour>0").rule());
        says.due("nobody of WEIGHT 5 and LOAD 4", f.trip(), 0);
        says.due("the boat stays", f.count(7), 0);
        says.due("not SHIPPED", f.count(9), 0);
        says.due("HOUR", f.count(6), 1);
        says.due("an ACT", f.count(13), 1);
        says.due("but a cork may", f.trip(), 2);
        says.due("the boat", f.count(7), 1);
        f = Check.crossing("ferry 4 1 5;person 1 0;fog 1");
        f.trip();
        says.due("on SIDE 1 it stays, too", f.trip() + 10 * f.count(7), 10);
    }

    private void crossing() {
        says.terms("ACTS: a TRIP; CROSS (a set that CAN BOARD)");
        AimFerry f = Check.crossing("ferry 5 1 0;person 5 0;person 6 0");
        says.refused(f, "CROSS of a set that CAN not", () -> f.cross(2), -1);
        f.cross(1);
        says.due("CROSS is an ACT", f.count(13), 1);
        f.trip();
        says.due("a TRIP is an ACT", f.count(13), 2);
        AimFerry g = Check.crossing("ferry 5 1 0;person 5 1");
        g.cross(1);
        says.due("one that turned back, too", g.count(13), 1);
    }

    private void thrown() {
        says.terms("THROW (of a PERSON so much of their AIM, 1 or more, as it is: it is at the bottom)");
        AimFerry f = Check.crossing("ferry 9 1 0;person 5 0;person 0 0;cork 3");
        says.refused(f, "0", () -> f.toss(0, 0), -1);
        says.refused(f, "below 0", () -> f.toss(0, -1), -1);
        says.refused(f, "more than there is", () -> f.toss(0, 6), -1);
        says.refused(f, "of an AIM of 0", () -> f.toss(1, 1), -1);
        says.refused(f, "a cork's", () -> f.toss(2, 1), -1);
        says.due("1", f.toss(0, 1), 4);
        says.due("at the bottom", f.count(10), 1);
        says.due("no more is there", f.toss(0, 5), -1);
        says.due("all", f.toss(0, 4), 0);
        says.due("at the bottom", f.count(10), 5);
        says.due("nothing is left", f.toss(0, 1), -1);
    }

    private void talked() {
        says.terms("TALK (a PERSON's AIM is so much more, 1 to 20; 99 at most; not a cork's)");
        AimFerry f = Check.crossing("ferry 9 1 0;person 40 0;person 0 0;cork 3");
        says.refused(f, "0", () -> f.talk(0, 0), -1);
        says.refused(f, "21", () -> f.talk(0, 21), -1);
        says.refused(f, "below 0", () -> f.talk(0, -1), -1);
        says.refused(f, "a cork's", () -> f.talk(2, 1), -1);
        says.due("a cork's that LIGHTENS by 1", Check.crossing("ferry 9 1 0;cork 1").talk(0, 1), -1);
        says.due("1", f.talk(1, 1), 1);
        says.due("20", f.talk(0, 20), 60);
        f.talk(0, 20);
        says.due("98", f.talk(0, 18), 98);
        says.due("99", f.talk(0, 1), 99);
        says.due("99 at most", f.talk(0, 20), 99);
        says.due("an ACT, too", f.count(13), 6);
        f.undo();
        f.undo();
        says.due("98 again", f.person(0, 0), 98);
        says.due("98 and 2 are 99", f.talk(0, 2), 99);
    }

    private void undone() {
        says.terms("The last 20 can be UNDONE, the last first.");
        AimFerry f = Check.crossing("ferry 9 1 0;person 40 0");
        for (int k = 1; k <= 20; k++) {
            f.toss(0, 1);
            says.due("ACTS", f.count(13), k);
        }
        f.toss(0, 1);
        says.due("of 21 still 20", f.count(13), 20);
        f.toss(0, 1);
        says.due("of 22 still 20", f.count(13), 20);
        says.due("AIM", f.person(0, 0), 18);
        for (int k = 19; k >= 0; k--) {
            says.due("one more", f.undo(), k);
            says.due("the last first", f.person(0, 0), 38 - k);
        }
        says.refused(f, "one too many", f::undo, -1);
        f.toss(0, 30);
        says.due("again", f.undo(), 0);
        says.due("AIM", f.person(0, 0), 38);
    }
}
