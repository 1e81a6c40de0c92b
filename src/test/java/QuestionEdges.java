/** The edges of promises 14 to 34: what is asked, NOTES, x, what is counted, IMAGES. */
final class QuestionEdges {
    private static final int LEAST = Integer.MIN_VALUE;
    private static final int MOST = Integer.MAX_VALUE;
    private static final int[] NOBODY = {-1, 3, 7, 32, LEAST, MOST};
    private static final int[] NO_SET = {8, 9, 128, 1 << 31, 1 << 31 | 1, -1, MOST};

    private final Sentences says;

    QuestionEdges(Sentences says) {
        this.says = says;
    }

    void all() {
        ahead();
        over();
        weight();
        most();
        lighten();
        fewest();
        row();
        fare();
        stay();
        lies();
        waits();
        soothe();
        never();
        note();
        ruled();
        look();
        seed();
        fogs();
        count();
        image();
        back();
    }

    private static AimFerry two() {
        return Check.crossing("ferry 9 2 3;person 4 1;person 6 2;cork 2;beside 0 1 5;fog 4");
    }

    private interface Asked {
        int of(int number);
    }

    private void beyondDue(String what, int[] beyond, Asked call, int want) {
        for (int number : beyond) {
            says.due(what + " " + number, call.of(number), want);
        }
    }

    private void ahead() {
        says.promise(14, "AHEAD what 0: SIDE, 1: AIM, 2: how often (person is not asked). NONE without these, or a CROSSING.");
        AimFerry f = two();
        says.due("SIDE", f.ahead(0, 1, 0), 1);
        says.due("AIM", f.ahead(0, 1, 1), 5);
        says.due("how often", f.ahead(0, 1, 2), 0);
        beyondDue("what", new int[] {-1, 3, LEAST, MOST}, what -> f.ahead(0, 1, what), -1);
        beyondDue("n", new int[] {-1, 101, LEAST, MOST}, n -> f.ahead(0, n, 0), -1);
        beyondDue("n", new int[] {-1, 101, LEAST, MOST}, n -> f.ahead(0, n, 2), -1);
        beyondDue("SIDE of PERSON", NOBODY, person -> f.ahead(person, 1, 0), -1);
        beyondDue("AIM of PERSON", NOBODY, person -> f.ahead(person, 1, 1), -1);
        beyondDue("how often, PERSON", NOBODY, person -> f.ahead(person, 1, 2), 0);
        says.due("how often, no PEOPLE", Check.crossing("ferry 9 2 3").ahead(0, 100, 2), 0);
        says.due("without a CROSSING", new AimFerry().ahead(0, 0, 2), -1);
        says.due("without a CROSSING", new AimFerry().ahead(0, 0, 0), -1);
    }

    private void over() {
        says.promise(15, "OVER; -2: in none of these; NONE without a CROSSING.");
        says.due("in none of these", Check.crossing("ferry 5 1 0;person 5 0;person 6 0").over(), -2);
        says.due("turned back", Check.crossing("ferry 5 1 0;person 5 1").over(), -2);
        says.due("in this HOUR", Check.crossing("ferry 5 1 0").over(), 0);
        says.due("without a CROSSING", new AimFerry().over(), -1);
    }

    private void weight() {
        says.promise(16, "WEIGHT; NONE without these (a set of PEOPLE there are, 0 too), or a CROSSING.");
        AimFerry f = two();
        says.due("nobody", f.weight(0), 0);
        says.due("all", f.weight(7), 13);
        beyondDue("set", NO_SET, f::weight, -1);
        says.due("seven", Check.crossing("ferry 9 1 0" + ";person 1 0".repeat(7)).weight(127), 7);
        says.due("an eighth", Check.crossing("ferry 9 1 0" + ";person 1 0".repeat(7)).weight(128), -1);
        says.due("nobody of none", Check.crossing("ferry 9 1 0").weight(0), 0);
        says.due("one of none", Check.crossing("ferry 9 1 0").weight(1), -1);
        says.due("without a CROSSING", new AimFerry().weight(0), -1);
    }

    private void most() {
        says.promise(17, "MOST what 0: how many, 1: the set; -2: not even nobody. NONE for others, or without a CROSSING.");
        AimFerry f = two();
        says.due("how many", f.most(0), 2);
        says.due("the set", f.most(1), 5);
        says.due("nobody alone", Check.crossing("ferry 5 1 5;person 1 0;fog 0").most(0), 0);
        says.due("nobody alone", Check.crossing("ferry 5 1 5;person 1 0;fog 0").most(1), 0);
        says.due("not even nobody", Check.crossing("ferry 4 1 5;person 1 0;fog 0").most(0), -2);
        says.due("not even nobody", Check.crossing("ferry 4 1 5;person 1 0;fog 0").most(1), -2);
        beyondDue("what", new int[] {-1, 2, LEAST, MOST}, f::most, -1);
        says.due("without a CROSSING", new AimFerry().most(0), -1);
    }

    private void lighten() {
        says.promise(18, "LIGHTEN; -2: by nothing; NONE without these, or a CROSSING.");
        says.due("twos weigh 5 of LOAD 5", Check.crossing("ferry 5 2 0;person 4 1;person 6 2;beside 0 1 5").lighten(3), 10);
        says.due("twos weigh 5 of LOAD 4", Check.crossing("ferry 4 2 0;person 4 1;person 6 2;beside 0 1 5").lighten(3), -2);
        says.due("fog weighs 5 of LOAD 5", Check.crossing("ferry 5 2 5;person 4 1;fog 0").lighten(1), 4);
        says.due("fog weighs 5 of LOAD 4", Check.crossing("ferry 4 2 5;person 4 1;fog 0").lighten(1), -2);
        says.due("nobody in fog", Check.crossing("ferry 4 2 5;person 4 1;fog 0").lighten(0), -2);
        AimFerry f = two();
        says.due("three of SEATS 2", f.lighten(7), -1);
        beyondDue("set", NO_SET, f::lighten, -1);
        f.cross(1);
        says.due("of the other SIDE", f.lighten(2), -1);
        says.due("half of twos on SIDE 1", homeWithTwos(4).lighten(3), 2);
        says.due("half of twos on SIDE 1 is too much", homeWithTwos(3).lighten(3), -2);
        says.due("without a CROSSING", new AimFerry().lighten(0), -1);
    }

    /** Two of AIM 1 and 9 beside each other have come over one by one, in a boat of a LOAD. */
    private static AimFerry homeWithTwos(int load) {
        AimFerry f = Check.crossing("ferry " + load + " 2 0;person 1 0;person 1 0;beside 0 1 9");
        f.cross(1);
        f.cross(0);
        f.cross(2);
        return f;
    }

    private void fewest() {
        says.promise(19, "FEWEST what 0: how many, 1: the first set (0, if all are over: 0 CROSSINGS); -2: by none. NONE for "
            + "others, or without a CROSSING.");
        AimFerry f = two();
        says.due("how many", f.fewest(0), 3);
        says.due("the first set", f.fewest(1), 1);
        says.due("no PEOPLE", Check.crossing("ferry 9 2 3").fewest(0), 0);
        says.due("no PEOPLE", Check.crossing("ferry 9 2 3").fewest(1), 0);
        AimFerry g = Check.crossing("ferry 5 2 6;person 1 0;fog 1");
        g.cross(1);
        says.due("all are over, in fog", g.fewest(0), 0);
        says.due("all are over, in fog", g.fewest(1), 0);
        says.due("by none", Check.crossing("ferry 5 2 0;person 6 0").fewest(0), -2);
        says.due("by none", Check.crossing("ferry 5 2 0;person 6 0").fewest(1), -2);
        beyondDue("what", new int[] {-1, 2, LEAST, MOST}, f::fewest, -1);
        says.due("without a CROSSING", new AimFerry().fewest(0), -1);
    }

    private void row() {
        says.promise(20, "ROW what NONE: how much, 0 to 6: the PERSON in that place (-2: so many there are not). -3 for "
            + "others, or without a CROSSING.");
        AimFerry f = two();
        // 0 beside the cork beside 1
        int[] want = {0, 0, 2, 1, -2, -2, -2, -2, -3};
        for (int what = -1; what <= 7; what++) {
            says.due("row(" + what + ")", f.row(what), want[what + 1]);
        }
        beyondDue("what", new int[] {-2, LEAST, MOST}, f::row, -3);
        says.due("the last of seven", Check.crossing("ferry 9 1 0" + ";cork 1".repeat(7)).row(6), 6);
        says.due("the seventh of six", Check.crossing("ferry 9 1 0" + ";cork 1".repeat(6)).row(6), -2);
        says.due("no PEOPLE", Check.crossing("ferry 9 2 3").row(-1), 0);
        says.due("no PEOPLE", Check.crossing("ferry 9 2 3").row(0), -2);
        f.trip();
        f.trip();
        says.due("one is left", f.row(-1), 0);
        says.due("one is left", f.row(0), 1);
        says.due("one is left", f.row(1), -2);
        says.due("without a CROSSING", new AimFerry().row(-1), -3);
        says.due("without a CROSSING", new AimFerry().row(0), -3);
    }

    private void fare() {
        says.promise(21, "FARE of a PERSON of the set; NONE without these.");
        AimFerry f = two();
        says.due("of the set", f.fare(1, 7, 0), 7);
        says.due("not of the set", f.fare(6, 7, 0), -1);
        beyondDue("set", NO_SET, set -> f.fare(set, 7, 0), -1);
        beyondDue("PERSON", NOBODY, person -> f.fare(7, 7, person), -1);
        beyondDue("so much", new int[] {-1, 10000, LEAST, MOST}, much -> f.fare(7, much, 0), -1);
        says.due("nobody's", f.fare(0, 7, 0), -1);
        says.due("0", f.fare(7, 0, 0), 0);
        says.due("9999", f.fare(7, 9999, 0), 4000);
        says.due("without a CROSSING", new AimFerry().fare(1, 7, 0), -1);
    }

    private void stay() {
        says.promise(22, "STAY what 0: who, 1: WEIGHT; -2: nobody is there. NONE for others, or without a CROSSING.");
        AimFerry f = two();
        says.due("who", f.stay(0), 1);
        says.due("WEIGHT", f.stay(1), 2);
        beyondDue("what", new int[] {-1, 2, LEAST, MOST}, f::stay, -1);
        f.cross(0);
        says.due("nobody is there", f.stay(0), -2);
        says.due("nobody is there", f.stay(1), -2);
        says.due("others, where nobody is", f.stay(2), -1);
        says.due("no PEOPLE", Check.crossing("ferry 9 2 3").stay(0), -2);
        says.due("without a CROSSING", new AimFerry().stay(0), -1);
    }

    private void lies() {
        says.promise(23, "LIES what 0: how many, 1: the first (-2: there is none). NONE without these (unlike).");
        AimFerry g = Check.rule(Check.crossing("ferry 10 1 0;person 8 0;person 6 0"),
            "board 4 if aim=3;board 3 if aim=4;board 2 if aim=6;board 1");
        says.due("how many", g.lies(0, 1, 1, 0), 0);
        says.due("there is none", g.lies(0, 1, 1, 1), -2);
        AimFerry f = two();
        says.due("how many", f.lies(0, 1, 1, 0), 1);
        says.due("the first", f.lies(0, 1, 1, 1), 0);
        beyondDue("alike", new int[] {0, 1, 2}, one -> f.lies(one, one, 1, 0), -1);
        beyondDue("the first PERSON", NOBODY, one -> f.lies(one, 1, 1, 0), -1);
        beyondDue("the second PERSON", NOBODY, other -> f.lies(0, other, 1, 0), -1);
        beyondDue("n", new int[] {-1, 0, 21, LEAST, MOST}, n -> f.lies(0, 1, n, 0), -1);
        beyondDue("what", new int[] {-1, 2, LEAST, MOST}, what -> f.lies(0, 1, 1, what), -1);
        says.due("a cork", f.lies(2, 0, 20, 0), 1);
        says.due("without a CROSSING", new AimFerry().lies(0, 1, 1, 0), -1);
    }

    private void waits() {
        says.promise(24, "WAITS; -2: on none of these; NONE without that PERSON.");
        AimFerry f = two();
        says.due("in this HOUR", f.waits(0), 0);
        says.due("on none of these", Check.crossing("ferry 5 1 0;person 6 0").waits(0), -2);
        beyondDue("PERSON", NOBODY, f::waits, -1);
        says.due("no PEOPLE", Check.crossing("ferry 9 2 3").waits(0), -1);
        says.due("without a CROSSING", new AimFerry().waits(0), -1);
    }

    private void soothe() {
        says.promise(25, "SOOTHE what 0: whose (NONE: nobody's), 1: how many. -2 without these, or a CROSSING.");
        AimFerry f = two();
        says.due("nobody's", f.soothe(1, 0), -1);
        says.due("how many", f.soothe(1, 1), 2);
        beyondDue("n", new int[] {-1, 0, 31, LEAST, MOST}, n -> f.soothe(n, 0), -2);
        beyondDue("what", new int[] {-1, 2, LEAST, MOST}, what -> f.soothe(1, what), -2);
        says.due("the last of seven", Check.crossing("ferry 6 7 0" + ";person 1 0".repeat(6) + ";person 9 0").soothe(1, 0), 6);
        says.due("without a CROSSING", new AimFerry().soothe(1, 0), -2);
        says.due("without a CROSSING", new AimFerry().soothe(1, 1), -2);
    }

    private void never() {
        says.promise(26, "NEVER, as bits; NONE without a CROSSING.");
        says.due("nobody", two().never(), 0);
        says.due("as bits", Check.crossing("ferry 9 2 0;person 9 0;person 10 0;person 8 2").never(), 6);
        says.due("without a CROSSING", new AimFerry().never(), -1);
    }

    private void note() {
        says.promise(27, "A NOTE (n NONE: there are none then, 0): how many; -2, and nothing happens, without these, or if "
            + "there are 10.");
        AimFerry f = two();
        beyondDue("n", new int[] {-2, 61, LEAST, MOST}, n -> f.note(n, 0, 0), -2);
        beyondDue("PERSON", NOBODY, person -> f.note(1, person, 0), -2);
        beyondDue("SIDE", new int[] {-1, 2, LEAST, MOST}, side -> f.note(1, 0, side), -2);
        says.due("nothing has happened", f.count(12), 0);
        says.due("none then of none", f.note(-1, 0, 0), 0);
        for (int k = 1; k <= 10; k++) {
            says.due("how many", f.note(k * 6, k % 3, k % 2), k);
        }
        says.refused(f, "there are 10", () -> f.note(1, 0, 0), -2);
        says.due("none then", f.note(-1, 0, 0), 0);
        says.due("none", f.count(12), 0);
        says.due("none is looked at", f.ruled(0), 1);
        says.due("n 0", f.note(0, 0, 0), 1);
        says.due("n 60", f.note(60, 2, 1), 2);
        says.due("NONE looks at nothing else", f.note(-1, 99, 99), 0);
        AimFerry none = new AimFerry();
        says.refused(none, "without a CROSSING", () -> none.note(0, 0, 0), -2);
        says.due("no ACT", f.count(13), 0);
    }

    private void ruled() {
        says.promise(28, "RULED what 0: how many, 1: the first (NONE: none; -2: there is none such). -3 for others, or "
            + "without a CROSSING.");
        AimFerry f = two();
        says.due("how many", f.ruled(0), 1);
        says.due("none", f.ruled(1), -1);
        f.note(0, 0, 0);
        says.due("how many", f.ruled(0), 0);
        says.due("there is none such", f.ruled(1), -2);
        beyondDue("what", new int[] {-1, 2, LEAST, MOST}, f::ruled, -3);
        says.due("no PEOPLE", Check.crossing("ferry 9 2 3").ruled(0), 1);
        says.due("without a CROSSING", new AimFerry().ruled(0), -3);
        says.due("without a CROSSING", new AimFerry().ruled(1), -3);
    }

    private void look() {
        says.promise(29, "LOOK (n 0 to 60) what 0: the PERSON, 1: how many; -2: no RULE is so, or there are no PEOPLE. NONE "
            + "without these, or a CROSSING.");
        AimFerry f = Check.rule(two(), "board 1 if person=1");
        says.due("the PERSON behind TRIP 0", f.look(0, 0), 0);
        says.due("how many", f.look(0, 1), 1);
        // PERSON 0 is over by none, and never by RULE 0
        says.due("the PERSON behind TRIP 60", f.look(60, 0), 0);
        beyondDue("n", new int[] {-1, 61, LEAST, MOST}, n -> f.look(n, 0), -1);
        beyondDue("what", new int[] {-1, 2, LEAST, MOST}, what -> f.look(0, what), -1);
        f.note(0, 0, 1);
        f.note(0, 1, 1);
        says.due("no RULE is so", f.look(0, 0), -2);
        says.due("no RULE is so", f.look(60, 1), -2);
        says.due("n 61, and no RULE is so", f.look(61, 0), -1);
        says.due("no PEOPLE", Check.crossing("ferry 9 2 3").look(0, 0), -2);
        says.due("no PEOPLE", Check.crossing("ferry 9 2 3").look(0, 1), -2);
        says.due("without a CROSSING", new AimFerry().look(0, 0), -1);
    }

    private void seed() {
        says.promise(30, "x becomes a number: what it was; NONE, and nothing happens, below 0.");
        AimFerry f = new AimFerry();
        says.due("0 at first", f.seed(MOST), 0);
        says.refused(f, "-1", () -> f.seed(-1), -1);
        says.refused(f, "the least", () -> f.seed(LEAST), -1);
        says.due("the most", f.seed(0), MOST);
        says.due("0", f.seed(1), 0);
        says.due("1", f.count(14), 1);
    }

    private void fogs() {
        says.promise(31, "FOGS what 0: how many, 1: how often. NONE without these, or a CROSSING.");
        AimFerry f = two();
        says.due("how many", f.fogs(1, 1, 0, 0), 2);
        says.due("how often", f.fogs(1, 1, 0, 1), 0);
        beyondDue("m", new int[] {-1, 0, 11, LEAST, MOST}, m -> f.fogs(m, 1, 0, 0), -1);
        beyondDue("n", new int[] {-1, 0, 61, LEAST, MOST}, n -> f.fogs(1, n, 0, 0), -1);
        beyondDue("p", new int[] {-1, 101, LEAST, MOST}, p -> f.fogs(1, 1, p, 0), -1);
        beyondDue("what", new int[] {-1, 2, LEAST, MOST}, what -> f.fogs(1, 1, 0, what), -1);
        says.due("no PEOPLE", Check.crossing("ferry 9 2 3").fogs(10, 60, 100, 0), 0);
        says.due("without a CROSSING", new AimFerry().fogs(1, 1, 0, 0), -1);
    }

    private void count() {
        says.promise(32, "What 0: LOAD, 1: SEATS, 2: FOG, 3: PEOPLE, 4: RULES, 5: the RULE IN FORCE (NONE), 6: HOUR, 7: the "
            + "boat's SIDE, 8: PEOPLE on SIDE 1, as bits, 9: how often it has SHIPPED, 10: what lies at the bottom, 11: 1 in "
            + "an HOUR of fog, else 0, 12: NOTES, 13: ACTS that can be UNDONE, 14: x, 15: bytes of the TAPE. NONE for others.");
        AimFerry f = Check.rule(Check.crossing("ferry 99 7 20" + ";person 9 9".repeat(6) + ";cork 20;fog 0;fog 1"), "board 1");
        f.force(-1);
        f.seed(MOST);
        int[] first = {99, 7, 20, 7, 1, -1, 0, 0, 0, 0, 0, 1, 0, 0, MOST, 0};
        for (int what = 0; what < first.length; what++) {
            says.due("count(" + what + ") at first", f.count(what), first[what]);
        }
        f.force(0);
        f.toss(0, 9);
        says.due("45 + 20 - 20, and 90", f.trip(), 127);
        f.note(0, 0, 1);
        Check.feed(f, "board");
        int[] then = {99, 7, 20, 7, 1, 0, 1, 1, 127, 0, 9, 1, 1, 2, MOST, 5};
        for (int what = 0; what < then.length; what++) {
            says.due("count(" + what + ") then", f.count(what), then[what]);
        }
        beyondDue("what", new int[] {-1, 16, LEAST, MOST}, f::count, -1);
    }

    private void image() {
        says.promise(33, "An IMAGE is made: HOUR; NONE without it.");
        AimFerry f = two();
        says.due("HOUR 0", f.image(0), 0);
        f.trip();
        says.due("HOUR 1", f.image(1), 1);
        says.due("the last", f.image(3), 1);
        says.due("made anew", f.image(0), 1);
        for (int k : new int[] {-1, 4, LEAST, MOST}) {
            says.refused(f, "IMAGE " + k, () -> f.image(k), -1);
        }
        says.due("ACTS stay", f.count(13), 1);
        says.due("no ACT", f.undo(), 0);
    }

    private void back() {
        says.promise(34, "All is as in an IMAGE: HOUR; NONE, and nothing happens, if it was never made, or without it.");
        AimFerry f = two();
        f.trip();
        for (int k : new int[] {0, 1, 2, 3, -1, 4, LEAST, MOST}) {
            says.refused(f, "IMAGE " + k, () -> f.back(k), -1);
        }
        f.image(2);
        // What can be UNDONE is not kept, so it is gone before it is looked at.
        f.back(2);
        String made = Sentences.picture(f);
        f.trip();
        f.toss(1, 3);
        f.image(1);
        for (int k : new int[] {0, 3}) {
            says.refused(f, "never made", () -> f.back(k), -1);
        }
        says.due("HOUR 1", f.back(2), 1);
        says.due("all is as it was", Sentences.picture(f).equals(made) ? 1 : 0, 1);
        says.due("nothing can be UNDONE", f.undo(), -1);
        says.due("HOUR 2", f.back(1), 2);
        says.due("AIM", f.person(1, 0), 3);
        says.due("a CROSSING of its own", Check.feed(f, "ferry 1 1 1").ferry(), 0);
        says.due("gone back to the one there was", f.back(2), 1);
        says.due("LOAD", f.count(0), 9);
        says.due("twos", f.beside(0, 1), 5);
    }
}
