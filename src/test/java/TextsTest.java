/** Promises 1 to 6: the TAPE, the two languages and their FAULTS, the RULE IN FORCE. */
public final class TextsTest {
    private static final Check CHECK = new Check("TextsTest");

    private static void due(String what, int got, int want) {
        CHECK.due(what, got, want);
    }

    private static void ferryDue(String text, int want) {
        AimFerry f = Check.feed(new AimFerry(), text);
        due("ferry of '" + text + "'", f.ferry(), want);
        due("TAPE behind '" + text + "'", f.count(15), 0);
    }

    private static void ruleDue(String text, int want) {
        AimFerry f = Check.feed(new AimFerry(), text);
        due("rule of '" + text + "'", f.rule(), want);
        due("RULES behind '" + text + "'", f.count(4), want < 0 ? 0 : 1);
        due("TAPE behind '" + text + "'", f.count(15), 0);
    }

    public static void main(String[] args) {
        newObject();
        feed();
        end();
        ferry();
        ferryFaults();
        ferryKeeps();
        rule();
        ruleFaults();
        ruleLimits();
        force();
        CHECK.finish();
    }

    private static void newObject() {
        AimFerry f = new AimFerry();
        int[] first = {0, 0, 0, 0, 0, -1, 0, 0, 0, 0, 0, 0, 0, 0, 0, 0};
        for (int what = 0; what < first.length; what++) {
            due("count(" + what + ") of a new object", f.count(what), first[what]);
        }
        due("NONE", AimFerry.NONE, -1);
        due("person", f.person(0, 0), -1);
        due("beside", f.beside(0, 0), -1);
        due("trip", f.trip(), -1);
        due("cross", f.cross(0), -1);
        due("toss", f.toss(0, 1), -1);
        due("talk", f.talk(0, 1), -1);
        due("undo", f.undo(), -1);
        due("ahead", f.ahead(0, 0, 2), -1);
        due("over", f.over(), -1);
        due("weight", f.weight(0), -1);
        due("most", f.most(0), -1);
        due("lighten", f.lighten(0), -1);
        due("fewest", f.fewest(0), -1);
        due("row", f.row(-1), -3);
        due("fare", f.fare(1, 1, 0), -1);
        due("stay", f.stay(0), -1);
        due("lies", f.lies(0, 1, 1, 0), -1);
        due("waits", f.waits(0), -1);
        due("soothe", f.soothe(1, 0), -2);
        due("never", f.never(), -1);
        due("note", f.note(0, 0, 0), -2);
        due("ruled", f.ruled(0), -3);
        due("look", f.look(0, 0), -1);
        due("fogs", f.fogs(1, 1, 1, 0), -1);
        due("back", f.back(0), -1);
        due("force", f.force(0), -2);
        due("nothing has happened", f.count(13), 0);
    }

    private static void feed() {
        AimFerry f = new AimFerry();
        for (int k = 1; k <= 20; k++) {
            due("feed " + k, f.feed(0, -1, 1 << 31, k, 7), 20 * k);
        }
        due("feed beyond 400", f.feed(0, 0, 0, 0, 0), -1);
        due("bytes then", f.count(15), 400);
        due("end", f.end(381), 381);
        due("feed beyond 400, by one", f.feed(0, 0, 0, 0, 0), -1);
        due("end", f.end(380), 380);
        due("feed up to 400", f.feed(0, 0, 0, 0, 0), 400);
        // "ferry 7 3 2;fog 1;fo" "g 2" with every byte in its place
        AimFerry g = new AimFerry();
        g.feed(0x66657272, 0x79203720, 0x3320323b, 0x666f6720, 0x313b666f);
        g.feed(0x67203200, 0, 0, 0, 0);
        g.end(23);
        due("highest byte first", g.ferry(), 0);
        due("its LOAD", g.count(0), 7);
    }

    private static void end() {
        AimFerry f = Check.feed(new AimFerry(), "ferry 1 1 1;fog 2");
        due("end below 0", f.end(-1), -1);
        due("end behind the end", f.end(18), -1);
        due("nothing happened", f.count(15), 17);
        due("end where it is", f.end(17), 17);
        due("end earlier", f.end(11), 11);
        due("bytes then", f.count(15), 11);
        due("what was cut can't come again", f.end(17), -1);
        due("ferry", f.ferry(), 0);
        due("end of nothing", f.end(0), 0);
    }

    private static void ferry() {
        ferryDue("ferry 0 1 0", 0);
        ferryDue("ferry 99 7 20", 0);
        ferryDue("  ferry   99 7  20  ", 0);
        ferryDue("ferry 1 1 1;cork 1;cork 1;beside 1 0 0", 2);
        ferryDue("ferry99 7 20;person40 9;cork20;fog60", 2);
        ferryDue("ferry 00099 00001 00000", 0);
        ferryDue("ferry 1 1 1;person 0 0;cork 1;person 1 1;cork 2;person 3 3;cork 3;person 4 4", 7);
        ferryDue("ferry 1 1 1" + ";fog 7".repeat(39), 0);
        AimFerry f = Check.crossing("ferry 20 3 5;person 12 3;cork 4;person 40 9;beside 0 1 2;beside 1 0 7;beside 2 0 9"
            + ";fog 0;fog 60;fog 60");
        due("LOAD", f.count(0), 20);
        due("SEATS", f.count(1), 3);
        due("FOG", f.count(2), 5);
        due("PEOPLE", f.count(3), 3);
        due("HOUR", f.count(6), 0);
        due("fog", f.count(11), 1);
        due("AIM", f.person(0, 0), 12);
        due("GROWS", f.person(0, 1), 3);
        due("LIGHTENS", f.person(0, 2), 0);
        due("SIDE", f.person(0, 3), 0);
        due("a cork's AIM", f.person(1, 0), 0);
        due("a cork's GROWS", f.person(1, 1), 0);
        due("a cork LIGHTENS", f.person(1, 2), 4);
        due("the last told of two", f.beside(0, 1), 7);
        due("others of them", f.beside(0, 2), 9);
        due("not told", f.beside(1, 2), 0);
    }

    private static void ferryFaults() {
        ferryDue("", Check.fault(0, 0));
        ferryDue("   ", Check.fault(3, 0));
        ferryDue("ferry", Check.fault(5, 0));
        ferryDue("ferry 1 1  ", Check.fault(11, 0));
        ferryDue("ferrys 1 1 1", Check.fault(0, 0));
        ferryDue("ferryz 1 1 1", Check.fault(0, 0));
        ferryDue("ferrya 1 1 1", Check.fault(0, 0));
        ferryDue(" x", Check.fault(1, 0));
        ferryDue("Ferry 1 1 1", Check.fault(0, 0));
        ferryDue("\u00e9", Check.fault(0, 0));
        ferryDue("ferry 1 1 1\0", Check.fault(11, 0));
        ferryDue("ferry 1 1 1;", Check.fault(12, 0));
        ferryDue("ferry 1 1 1;;", Check.fault(12, 0));
        ferryDue("ferry 1 1 1 1", Check.fault(12, 0));
        ferryDue("ferry 1 1 fog", Check.fault(10, 0));
        ferryDue("ferry 1 1 1 fog 1", Check.fault(12, 0));
        ferryDue("ferry 1 1 1;board 1", Check.fault(12, 0));
        ferryDue("ferry 1 1 -1", Check.fault(10, 0));
        ferryDue("ferry 100 1 0", Check.fault(6, 1));
        ferryDue("ferry 1 0 0", Check.fault(8, 1));
        ferryDue("ferry 1 8 0", Check.fault(8, 1));
        ferryDue("ferry 1 1 21", Check.fault(10, 1));
        ferryDue("ferry 000001 1 1", Check.fault(6, 1));
        ferryDue("ferry 4294967297 1 1", Check.fault(6, 1));
        ferryDue("ferry 1 1 1;person 41 0", Check.fault(19, 1));
        ferryDue("ferry 1 1 1;person 1 10", Check.fault(21, 1));
        ferryDue("ferry 1 1 1;person 1", Check.fault(20, 0));
        ferryDue("ferry 1 1 1;cork 0", Check.fault(17, 1));
        ferryDue("ferry 1 1 1;cork 21", Check.fault(17, 1));
        ferryDue("ferry 1 1 1;fog 61", Check.fault(16, 1));
        ferryDue("ferry 1 1 1;beside 0 1 1", Check.fault(19, 1));
        ferryDue("ferry 1 1 1;cork 1;beside 0 1 1", Check.fault(28, 1));
        ferryDue("ferry 1 1 1;cork 1;beside 0 0 1", Check.fault(28, 1));
        ferryDue("ferry 1 1 1;cork 1;beside 0;fog 1", Check.fault(27, 0));
        ferryDue("ferry 1 1 1;cork 1;cork 1;beside 0 1 10", Check.fault(37, 1));
        ferryDue("person 1 1", Check.fault(0, 4));
        ferryDue("  fog 1", Check.fault(2, 4));
        ferryDue("ferry 1 1 1; ferry 1 1 1", Check.fault(13, 4));
        String seven = "ferry 1 1 1" + ";cork 1".repeat(7);
        ferryDue(seven + ";person 1 1", Check.fault(seven.length() + 1, 4));
        ferryDue(seven + ";cork x", Check.fault(seven.length() + 1, 4));
        ferryDue(seven + ";corks 1", Check.fault(seven.length() + 1, 0));
        String forty = "ferry 1 1 1" + ";fog 7".repeat(39);
        ferryDue(forty + "; fog 7", Check.fault(forty.length() + 2, 4));
        ferryDue(forty + ";fogs 7", Check.fault(forty.length() + 1, 0));
        ferryDue(forty + ";", Check.fault(forty.length() + 1, 0));
    }

    private static void ferryKeeps() {
        AimFerry f = Check.rule(new AimFerry(), "board 1");
        Check.crossing(f, "ferry 20 3 5;person 12 3;cork 4");
        f.seed(9);
        f.note(1, 0, 1);
        f.toss(0, 2);
        f.trip();
        Check.feed(f, "ferry 1 1 1 1");
        due("a FAULT", f.ferry(), Check.fault(12, 0));
        due("LOAD stays", f.count(0), 20);
        due("HOUR stays", f.count(6), 1);
        due("bottom stays", f.count(10), 2);
        due("NOTES stay", f.count(12), 1);
        due("ACTS stay", f.count(13), 2);
        due("AIM stays", f.person(0, 0), 13);
        due("PEOPLE stay", f.count(3), 2);
        Check.feed(f, "ferry 30 4 6;person 3 1");
        due("another", f.ferry(), 1);
        due("HOUR", f.count(6), 0);
        due("boat", f.count(7), 0);
        due("over", f.count(8), 0);
        due("bottom", f.count(10), 0);
        due("no NOTES", f.count(12), 0);
        due("nothing to be UNDONE", f.undo(), -1);
        due("IN FORCE stays", f.count(5), 0);
        due("x stays", f.count(14), 9);
        Check.feed(f, "ferry 30 4 6");
        due("nobody", f.ferry(), 0);
        due("nobody is there", f.person(0, 0), -1);
        Check.feed(f, "ferry 1 1 1;cork 1;cork 1;beside 0 1 7;fog 0;").ferry();
        Check.crossing(f, "ferry 1 1 1;cork 1;cork 1");
        due("nothing of a text with a FAULT", f.beside(0, 1), 0);
        due("nothing of a text with a FAULT", f.count(11), 0);
    }

    private static void rule() {
        ruleDue("board 1", 0);
        ruleDue("board aim if side=0", 0);
        ruleDue(" board aim+1*2-more/3%light if[aim<1 or not aim>=2 and[aim<=3]]or 1=hour ; board 1 ", 0);
        ruleDue("board1if1=1;board99999", 0);
        ruleDue("board person+aim+grows+light+side+hour+weight+room+aboard+waits+more+fog", 0);
        AimFerry f = new AimFerry();
        for (int k = 0; k < 6; k++) {
            due("RULE " + k, Check.feed(f, "board " + k).rule(), k);
        }
        Check.feed(f, "board 7");
        due("a seventh", f.rule(), -1);
        due("nothing happened", f.count(15), 7);
        Check.feed(f, "bored");
        due("a seventh with a FAULT", f.rule(), -1);
        due("RULES", f.count(4), 6);
    }

    private static void ruleFaults() {
        ruleDue("", Check.fault(0, 0));
        ruleDue("board", Check.fault(5, 0));
        ruleDue("boards 1", Check.fault(0, 0));
        ruleDue("board 1 if", Check.fault(10, 0));
        ruleDue("board x", Check.fault(6, 0));
        ruleDue("board aims", Check.fault(6, 0));
        ruleDue("board if 1=1", Check.fault(6, 0));
        ruleDue("board 1;", Check.fault(8, 0));
        ruleDue("board 1 1", Check.fault(8, 0));
        ruleDue("board 1 aim", Check.fault(8, 0));
        ruleDue("board 5 %", Check.fault(9, 0));
        ruleDue("board -5", Check.fault(6, 0));
        ruleDue("board [1]", Check.fault(6, 0));
        ruleDue("board not 1", Check.fault(6, 0));
        ruleDue("board 1 if more = 1]", Check.fault(19, 0));
        ruleDue("board 1 if [more = 1", Check.fault(20, 0));
        ruleDue("board 1 if [more = 1;", Check.fault(20, 0));
        ruleDue("board 1 if []", Check.fault(12, 0));
        ruleDue("board 1 if 1", Check.fault(12, 0));
        ruleDue("board 1 if 1==1", Check.fault(13, 0));
        ruleDue("board 1 if 1=<1", Check.fault(13, 0));
        ruleDue("board 1 if 1< =1", Check.fault(14, 0));
        ruleDue("board 1 if 1<2<3", Check.fault(14, 0));
        ruleDue("board 1 if 1<2 and", Check.fault(18, 0));
        ruleDue("board 1 if 1<2 or or", Check.fault(18, 0));
        ruleDue("board 1 if 1<2 if 1<2", Check.fault(15, 0));
        ruleDue("board 1 if not", Check.fault(14, 0));
        ruleDue("board 1 if notaim<1", Check.fault(11, 0));
        ruleDue("board 1\u00ff", Check.fault(7, 0));
        ruleDue("board 100000", Check.fault(6, 1));
        ruleDue("board 1+000001 x", Check.fault(8, 1));
        ruleDue("ferry 1 1 1", Check.fault(0, 0));
    }

    private static void ruleLimits() {
        ruleDue("board 1" + ";board 1".repeat(11), 0);
        String twelve = "board 1" + ";board 1".repeat(11);
        ruleDue(twelve + ";board 1", Check.fault(twelve.length() + 1, 4));
        ruleDue(twelve + ";bored 1", Check.fault(twelve.length() + 1, 0));
        ruleDue("board 1 if " + "[".repeat(10) + "1=1" + "]".repeat(10), 0);
        ruleDue("board 1 if " + "[".repeat(11) + "1=1" + "]".repeat(11), Check.fault(21, 2));
        ruleDue("board 1 if " + "not ".repeat(10) + "1=1", 0);
        ruleDue("board 1 if " + "not ".repeat(11) + "1=1", Check.fault(51, 2));
        ruleDue("board 1 if " + "not [".repeat(5) + "not 1=1", Check.fault(36, 2));
        ruleDue("board 1 if " + "not [".repeat(5) + "1=1" + "]".repeat(5) + " and " + "[".repeat(10) + "1=1"
            + "]".repeat(10) + " and not 1=1", 0);
        ruleDue("board " + "1+".repeat(59) + "1", 0);
        ruleDue("board " + "1+".repeat(60) + "1", Check.fault(126, 3));
        ruleDue("board " + "aim+".repeat(59) + "fog", 0);
        ruleDue("board " + "aim+".repeat(60) + "fog", Check.fault(246, 3));
        ruleDue("board " + "1+".repeat(60) + "000001", Check.fault(126, 1));
        ruleDue("board " + "1+".repeat(60) + "x", Check.fault(126, 0));
        ruleDue("board " + "1*".repeat(57) + "1 if 1", Check.fault(126, 0));
        ruleDue("board " + "1*".repeat(56) + "1 if 1<1", 0);
        ruleDue("board " + "1*".repeat(57) + "1 if 1<1", Check.fault(127, 3));
        ruleDue("board " + "1*".repeat(58) + "1 if 1<1", Check.fault(128, 3));
        ruleDue("board " + "1*".repeat(58) + "1 if 1 x", Check.fault(129, 0));
        ruleDue("board 1" + ";board 1+1+1+1+1+1".repeat(10), Check.fault(7 + 10 * 18 - 1, 3));
    }

    private static void force() {
        AimFerry f = new AimFerry();
        due("NONE at first", f.force(-1), -1);
        due("no RULE 0", f.force(0), -2);
        Check.feed(f, "board 1").rule();
        due("not IN FORCE by being told", f.count(5), -1);
        Check.feed(f, "board 2").rule();
        due("which was", f.force(1), -1);
        due("which was", f.force(0), 1);
        due("none such", f.force(2), -2);
        due("none such", f.force(-2), -2);
        due("nothing happened", f.count(5), 0);
        due("to none", f.force(-1), 0);
        due("none", f.count(5), -1);
    }
}
