/** The edges of promises 1 to 13: a new object, texts, RULES, PEOPLE, ACTS. */
final class CallEdges {
    private static final int LEAST = Integer.MIN_VALUE;
    private static final int MOST = Integer.MAX_VALUE;

    private final Sentences says;

    CallEdges(Sentences says) {
        this.says = says;
    }

    void all() {
        newObject();
        feed();
        feedFull();
        end();
        ferry();
        ferryFault();
        rule();
        force();
        person();
        beside();
        trip();
        cross();
        toss();
        talk();
        undo();
    }

    private static AimFerry two() {
        return Check.crossing("ferry 9 2 3;person 4 1;person 6 2;cork 2;beside 0 1 5;fog 4");
    }

    private void newObject() {
        says.promise(1, "No CROSSING, no RULES, none IN FORCE.");
        AimFerry f = new AimFerry();
        says.due("no CROSSING", f.trip(), -1);
        says.due("no PEOPLE", f.count(3), 0);
        says.due("no RULES", f.count(4), 0);
        says.due("no RULE 0", f.force(0), -2);
        says.due("none IN FORCE", f.count(5), -1);
        says.due("none IN FORCE", f.force(-1), -1);
        says.due("an empty TAPE", f.count(15), 0);
        says.due("no NOTES", f.count(12), 0);
        says.due("no ACTS", f.undo(), -1);
        says.due("x", f.count(14), 0);
        for (int k = 0; k <= 3; k++) {
            says.due("no IMAGE " + k, f.back(k), -1);
        }
        says.due("nothing of another object", new AimFerry().count(15), 0);
    }

    private void feed() {
        says.promise(2, "Twenty bytes come behind the TAPE, of each number the highest first: how many it has");
        AimFerry f = new AimFerry();
        says.due("20", f.feed(0x66657272, 0x79203939, 0x20372032, 0x303b6361, 0x6e6e6f74), 20);
        f.end(14);
        says.due("14 and 20", f.feed(0x66657272, 0x79203939, 0x20372032, 0x303b6361, 0x6e6e6f74), 34);
        says.due("'ferry 99 7 20;' and another", f.ferry(), Check.fault(14, 4));
        for (int at = 0; at < 20; at++) {
            int[] five = {0x20202020, 0x20202020, 0x20202020, 0x20202020, 0x20202020};
            five[at / 4] |= 0xff << 24 - at % 4 * 8;
            says.due("a byte 255 in place " + at, f.feed(five[0], five[1], five[2], five[3], five[4]), 20);
            says.due("a byte 255 in place " + at, f.ferry(), Check.fault(at, 0));
        }
    }

    private void feedFull() {
        says.promise(2, "NONE, and none comes, if it would have more than 400");
        AimFerry f = new AimFerry();
        for (int k = 1; k <= 20; k++) {
            says.due("feed", f.feed(0x20202020, 0x20202020, 0x20202020, 0x20202020, 0x20202020), 20 * k);
        }
        says.refused(f, "of 400", () -> f.feed(0, 0, 0, 0, 0), -1);
        f.end(381);
        says.refused(f, "of 381", () -> f.feed(0, 0, 0, 0, 0), -1);
        f.end(380);
        says.due("of 380", f.feed(0x20202020, 0x20202020, 0x20202020, 0x20202020, 0x20202020), 400);
        says.due("none came", f.ferry(), Check.fault(400, 0));
        says.due("of none", f.feed(0, 0, 0, 0, 0), 20);
    }

    private void end() {
        says.promise(3, "The TAPE has its first n bytes alone: n; NONE, and nothing happens, if it has not so many, or n "
            + "is below 0.");
        AimFerry f = Check.feed(new AimFerry(), "ferry 1 1 1;x");
        says.refused(f, "one more than there are", () -> f.end(14), -1);
        says.refused(f, "-1", () -> f.end(-1), -1);
        says.refused(f, "the most", () -> f.end(MOST), -1);
        says.refused(f, "the least", () -> f.end(LEAST), -1);
        says.due("as many as there are", f.end(13), 13);
        says.due("fewer", f.end(11), 11);
        says.refused(f, "what is cut off does not come again", () -> f.end(12), -1);
        says.due("the first 11", f.ferry(), 0);
        says.due("none of none", f.end(0), 0);
        says.refused(f, "one of none", () -> f.end(1), -1);
        Check.feed(f, "ferry 1 1 1");
        says.due("none", f.end(0), 0);
        says.due("of none a FAULT", f.ferry(), Check.fault(0, 0));
    }

    private void ferry() {
        says.promise(4, "The TAPE, which is empty then, is the CROSSING in place of the one there was (no NOTES, nothing "
            + "to be UNDONE; the RULE IN FORCE and x stay): how many PEOPLE");
        AimFerry f = Check.rule(two(), "board 1");
        f.seed(8);
        f.note(1, 0, 1);
        f.toss(1, 2);
        says.due("none", Check.feed(f, "ferry 8 1 2").ferry(), 0);
        says.due("the TAPE", f.count(15), 0);
        says.due("LOAD", f.count(0), 8);
        says.due("PEOPLE", f.count(3), 0);
        says.due("no NOTES", f.count(12), 0);
        says.due("nothing to be UNDONE", f.undo(), -1);
        says.due("IN FORCE", f.count(5), 0);
        says.due("x", f.count(14), 8);
        says.due("seven", Check.feed(f, "ferry 8 1 2" + ";cork 1".repeat(7)).ferry(), 7);
        says.due("two of the seven", Check.feed(f, "ferry 8 1 2;cork 1;cork 1").ferry(), 2);
        says.due("no third", f.person(2, 2), -1);
        says.due("nothing of twos that were", f.beside(0, 1), 0);
        says.due("no fog that was", f.count(11), 0);
    }

    private void ferryFault() {
        says.promise(4, "-2 - its FAULT, and all stays.");
        AimFerry f = Check.rule(two(), "board 1");
        f.seed(8);
        f.note(1, 0, 1);
        f.toss(1, 2);
        f.cross(1);
        String before = Sentences.picture(f);
        says.due("the least FAULT", Check.feed(f, "").ferry(), -3);
        says.due("all stays", Sentences.picture(f).equals(before) ? 1 : 0, 1);
        says.due("at the end of a text", Check.feed(f, "ferry 1 1 1;cork 1;cork 1;beside 0 1 9;fog 1;fog 4;").ferry(),
            Check.fault(51, 0));
        says.due("all stays", Sentences.picture(f).equals(before) ? 1 : 0, 1);
        says.due("twos stay", f.beside(0, 1), 5);
        says.due("the farthest FAULT", Check.feed(f, " ".repeat(400)).ferry(), -2 - (1 + 8 * 400));
        says.due("what can be UNDONE stays", f.undo(), 1);
        says.due("the NOTE stays", f.ruled(0), 1);
        says.due("UNDONE", f.undo(), 0);
        says.due("AIM", f.person(1, 0), 6);
        says.due("nothing of a FAULT's text is left", Check.feed(f, "ferry 1 1 1;cork 1;cork 1").ferry(), 2);
        says.due("nothing of a FAULT's text is left", f.beside(0, 1), 0);
        Check.feed(f, "ferry 1 1 1;fog 0;").ferry();
        Check.crossing(f, "ferry 1 1 1");
        says.due("nothing of a FAULT's text is left", f.count(11), 0);
    }

    private void rule() {
        says.promise(5, "The TAPE, which is empty then, is a RULE: its number; -2 - its FAULT; NONE, and nothing happens: "
            + "there are 6.");
        AimFerry f = Check.crossing("ferry 9 1 0;person 1 0;person 2 0");
        says.due("a FAULT", Check.feed(f, "board").rule(), Check.fault(5, 0));
        says.due("the TAPE", f.count(15), 0);
        says.due("the least FAULT", f.rule(), -3);
        says.due("no RULE by a FAULT", f.count(4), 0);
        for (int k = 0; k <= 5; k++) {
            says.due("its number", Check.feed(f, k == 5 ? "board aim" : "board 1").rule(), k);
            says.due("the TAPE", f.count(15), 0);
            says.due("not IN FORCE", f.count(5), -1);
        }
        Check.feed(f, "board 9-aim");
        says.refused(f, "a seventh", f::rule, -1);
        Check.feed(f, "bored");
        says.refused(f, "a seventh with a FAULT", f::rule, -1);
        says.due("the TAPE is as it was", f.count(15), 5);
        f.force(5);
        says.due("the sixth", f.trip(), 2);
    }

    private void force() {
        says.promise(6, "A RULE is IN FORCE (NONE: none): which was; -2, and nothing happens, if there is none such.");
        AimFerry f = new AimFerry();
        says.refused(f, "RULE 0 of none", () -> f.force(0), -2);
        says.due("none of none", f.force(-1), -1);
        for (int k = 0; k <= 5; k++) {
            Check.feed(f, "board 1").rule();
            says.due("the newest", f.force(k), k - 1);
            int next = k + 1;
            says.refused(f, "the next", () -> f.force(next), -2);
        }
        says.refused(f, "-2", () -> f.force(-2), -2);
        says.refused(f, "the least", () -> f.force(LEAST), -2);
        says.refused(f, "the most", () -> f.force(MOST), -2);
        says.due("the same again", f.force(5), 5);
        says.due("the first", f.force(0), 5);
        says.due("none", f.force(-1), 0);
        says.due("none", f.count(5), -1);
    }

    private void person() {
        says.promise(7, "Of a PERSON what 0: AIM, 1: GROWS, 2: what they LIGHTEN (0: no cork), 3: SIDE. NONE without these.");
        AimFerry f = two();
        int[][] want = {{4, 1, 0, 0}, {6, 2, 0, 0}, {0, 0, 2, 0}};
        for (int person = 0; person <= 2; person++) {
            for (int what = 0; what <= 3; what++) {
                says.due("person(" + person + ", " + what + ")", f.person(person, what), want[person][what]);
            }
        }
        int[] beyond = {-1, 4, LEAST, MOST};
        for (int what : beyond) {
            says.due("what " + what, f.person(0, what), -1);
        }
        int[] nobody = {-1, 3, 7, 32, LEAST, MOST};
        for (int person : nobody) {
            says.due("PERSON " + person, f.person(person, 0), -1);
        }
        f.cross(1);
        says.due("SIDE 1", f.person(0, 3), 1);
        says.due("without a CROSSING", new AimFerry().person(0, 0), -1);
    }

    private void beside() {
        says.promise(8, "What two weigh more beside each other (either way round; 0 for one); NONE without these.");
        AimFerry f = two();
        says.due("one way", f.beside(0, 1), 5);
        says.due("the other way", f.beside(1, 0), 5);
        says.due("one", f.beside(0, 0), 0);
        says.due("one", f.beside(2, 2), 0);
        says.due("not told", f.beside(2, 1), 0);
        int[] nobody = {-1, 3, 7, LEAST, MOST};
        for (int person : nobody) {
            says.due("the first " + person, f.beside(person, 0), -1);
            says.due("the second " + person, f.beside(0, person), -1);
            says.due("both " + person, f.beside(person, person), -1);
        }
        says.due("without a CROSSING", new AimFerry().beside(0, 0), -1);
    }

    private void trip() {
        says.promise(9, "who was aboard, as bits (also if it turned back); NONE, and nothing happens, without a CROSSING, "
            + "or in HOUR 999.");
        AimFerry f = new AimFerry();
        says.refused(f, "without a CROSSING", f::trip, -1);
        AimFerry g = Check.crossing("ferry 9 7 0" + ";person 1 0".repeat(6) + ";person 3 1");
        says.due("seven, turned back", g.trip(), 127);
        says.due("turned back", g.count(9) * 10 + g.count(7), 10);
        says.due("six of them", g.trip(), 63);
        says.due("nobody", g.trip(), 0);
        for (int k = 3; k < 999; k++) {
            g.cross(0);
        }
        says.refused(g, "in HOUR 999", g::trip, -1);
    }

    private void cross() {
        says.promise(10, "CROSS: 1 if they are over, 0 if it turned back; NONE, and nothing happens, without these, or in "
            + "HOUR 999.");
        AimFerry none = new AimFerry();
        says.refused(none, "without a CROSSING", () -> none.cross(0), -1);
        AimFerry f = two();
        says.refused(f, "4 + 6 + 5 of LOAD 9", () -> f.cross(3), -1);
        says.refused(f, "three of SEATS 2", () -> f.cross(7), -1);
        int[] sets = {8, 9, 128, 1 << 31 | 1, -1, LEAST, MOST};
        for (int set : sets) {
            says.due("set " + set, f.cross(set), -1);
        }
        says.due("nothing has happened", f.count(6) + f.count(13), 0);
        says.due("over", f.cross(5), 1);
        says.refused(f, "one of the other SIDE", () -> f.cross(2), -1);
        says.due("home", f.cross(5), 1);
        AimFerry g = Check.crossing("ferry 9 1 0;person 8 2");
        says.due("turned back", g.cross(1), 0);
        says.refused(g, "10 of LOAD 9", () -> g.cross(1), -1);
        for (int k = 1; k < 999; k++) {
            g.cross(0);
        }
        says.due("HOUR 999", g.count(6), 999);
        says.refused(g, "in HOUR 999", () -> g.cross(0), -1);
    }

    private void toss() {
        says.promise(11, "THROW: the AIM then; NONE, and nothing happens, without these.");
        AimFerry none = new AimFerry();
        says.refused(none, "without a CROSSING", () -> none.toss(0, 1), -1);
        AimFerry f = two();
        int[][] wrong = {{0, 0}, {0, -1}, {0, 5}, {0, MOST}, {0, LEAST}, {2, 1}, {3, 1}, {-1, 1}, {7, 1}, {LEAST, 1},
            {MOST, 1}};
        for (int[] each : wrong) {
            says.due("toss(" + each[0] + ", " + each[1] + ")", f.toss(each[0], each[1]), -1);
        }
        says.due("nothing has happened", f.count(13) + f.count(10), 0);
        says.due("AIMS", f.person(0, 0) * 10 + f.person(1, 0), 46);
        says.due("one", f.toss(0, 1), 3);
        says.due("all", f.toss(0, 3), 0);
        says.refused(f, "nothing is left", () -> f.toss(0, 1), -1);
        f.cross(2);
        says.due("on SIDE 1", f.toss(1, 8), 0);
        says.due("the bottom", f.count(10), 12);
    }

    private void talk() {
        says.promise(12, "TALK: the AIM then; NONE, and nothing happens, without these.");
        AimFerry none = new AimFerry();
        says.refused(none, "without a CROSSING", () -> none.talk(0, 1), -1);
        AimFerry f = two();
        int[][] wrong = {{0, 0}, {0, -1}, {0, 21}, {0, MOST}, {0, LEAST}, {2, 1}, {3, 1}, {-1, 1}, {7, 1}, {LEAST, 1},
            {MOST, 1}};
        for (int[] each : wrong) {
            says.due("talk(" + each[0] + ", " + each[1] + ")", f.talk(each[0], each[1]), -1);
        }
        says.due("nothing has happened", f.count(13), 0);
        says.due("AIMS", f.person(0, 0) * 10 + f.person(1, 0), 46);
        says.due("one", f.talk(0, 1), 5);
        says.due("20", f.talk(0, 20), 25);
        f.toss(1, 6);
        says.due("of an AIM of 0", f.talk(1, 1), 1);
        for (int k = 0; k < 3; k++) {
            f.talk(0, 20);
        }
        says.due("85 and 14", f.talk(0, 14), 99);
        says.due("99 at most", f.talk(0, 1), 99);
        says.due("the bottom", f.count(10), 6);
    }

    private void undo() {
        says.promise(13, "The last ACT is UNDONE: how many more can be; NONE, and nothing happens: none can.");
        AimFerry none = new AimFerry();
        says.refused(none, "without a CROSSING", none::undo, -1);
        AimFerry f = two();
        says.refused(f, "none yet", f::undo, -1);
        String first = Sentences.picture(f);
        f.toss(1, 2);
        f.talk(0, 1);
        f.cross(1);
        f.trip();
        f.toss(0, 99);
        for (int left = 3; left >= 0; left--) {
            says.due("how many more", f.undo(), left);
        }
        says.due("as at first", Sentences.picture(f).equals(first) ? 1 : 0, 1);
        says.refused(f, "none is left", f::undo, -1);
        for (int k = 0; k < 45; k++) {
            f.cross(4);
        }
        for (int left = 19; left >= 0; left--) {
            says.due("how many more of 45", f.undo(), left);
        }
        says.due("HOUR", f.count(6), 25);
        says.due("the boat", f.count(7) * 10 + f.count(8), 14);
        says.refused(f, "none is left of 45", f::undo, -1);
    }
}
