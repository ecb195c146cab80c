/** Boundary cases of what comes and what is best: the document's sentences in their order. */
public final class ForecastBoundaryTest {
    private static final int BAD = -1, NO = -2, NONE = -4;
    // Stiff 20 shrinks to 14, and fits 13, when it has lain 30 reigns: person 0 takes it up in the 31st, and 1 is out.
    private static final String IN_THE_31ST = "p13,9,1;p1,4,0;g3,20,1;";
    private static final Check CHECK = new Check();

    public static void main(String[] args) {
        behindReigns();
        beyondTheLastReign();
        liesNoMore();
        notOutBehind30();
        safeThroughReigns();
        safeByFewest();
        safeByNone();
        daredInThirtyReigns();
        daredFirstByKindThenSize();
        daredWithEight();
        daredByOneOut();
        firstToTakeUp();
        firstOfNone();
        ringOfFewest();
        ringOfNone();
        nothingIsDone();
        CHECK.finish();
    }

    private static void due(String call, long got, long want) {
        CHECK.due(call, got, want);
    }

    private static GauntletHall behind(int reigns, String text) {
        GauntletHall hall = Check.laid(text);
        for (int i = 0; i < reigns; i++) {
            hall.pass(1);
        }
        return hall;
    }

    private static void behindReigns() {
        CHECK.sentence("BEHIND n (0 to 30) REIGNS: MIGHT of a PERSON (0: OUT)");
        GauntletHall hall = new GauntletHall();
        int[] now = {10, 12, 7, 20, 5};
        int[] then = {0, 7, 0, 15, 0};
        for (int p = 0; p < 5; p++) {
            due("behind 0, " + p, hall.behind(0, p), now[p]);
            due("behind 30, " + p, hall.behind(30, p), then[p]);
            due("behind 31, " + p, hall.behind(31, p), BAD);
            due("behind -1, " + p, hall.behind(-1, p), BAD);
        }
        due("behind 5, 4", hall.behind(5, 4), 5);
        due("behind 6, 4", hall.behind(6, 4), 0);
        hall = Check.laid(IN_THE_31ST);
        due("would be behind 31", hall.behind(30, 1), 4);
        hall.pass(1);
        due("behind 29", hall.behind(29, 1), 4);
        due("behind 30", hall.behind(30, 1), 0);
        due("who stands behind 30", hall.behind(30, 0), 7);
        // As it would be by passing, reign by reign.
        hall = Check.laid("p10,20,1;p9,9,1;p12,30,1;p8,4,1;p3,11,0;p11,13,1;"
            + "g3,14,4;g3,13,0;g0,9,4;g1,12,3;g2,10,5;g3,20,1;g3,16,2;g1,7,4;");
        for (int p = 0; p < 6; p++) {
            for (int n = 1; n <= 30; n++) {
                int might = hall.behind(n, p);
                hall.pass(Math.min(n, 20));
                if (n > 20) {
                    hall.pass(n - 20);
                }
                due("behind " + n + " as by pass, " + p, might, hall.person(p, 1));
                hall.undo();
                if (n > 20) {
                    hall.undo();
                }
            }
            hall = laidAgain(hall);
        }
    }

    /** Another object of the same text, as an object has 512 calls. */
    private static GauntletHall laidAgain(GauntletHall old) {
        due("nothing is left to be undone", old.count(7), 0);
        return Check.laid("p10,20,1;p9,9,1;p12,30,1;p8,4,1;p3,11,0;p11,13,1;"
            + "g3,14,4;g3,13,0;g0,9,4;g1,12,3;g2,10,5;g3,20,1;g3,16,2;g1,7,4;");
    }

    private static void beyondTheLastReign() {
        CHECK.sentence("From now on, nothing else being done (beyond the last that may go by, too)");
        GauntletHall hall = Check.laid("p14,9,1;p1,4,0;");
        for (int i = 0; i < 49; i++) {
            hall.pass(20);
        }
        hall.pass(19);
        due("reign 999", hall.count(2), 999);
        due("pass", hall.pass(1), NO);
        // Stiff 20 fits 14 when it has lain 25 reigns.
        hall.hurl(1, 3, 20);
        due("behind 25", hall.behind(25, 1), 4);
        due("behind 26", hall.behind(26, 1), 0);
        due("lies", hall.lies(0), 26);
        due("last", hall.last(), 1);
        due("safe 25", hall.safe(1, 25, 0), 0);
        due("safe 26", hall.safe(1, 26, 0), 1);
        due("dare", hall.dare(1, 0), 14);
        due("time", hall.time(9999, 1, 2), 13);
        due("reign 999 still", hall.count(2), 999);
    }

    private static void liesNoMore() {
        CHECK.sentence("LIES of a GLOVE: behind how many REIGNS (0 to 30) it lies no more first; none");
        GauntletHall hall = new GauntletHall();
        int[] lies = {1, 1, NONE, 6, 1};
        for (int g = 0; g < 5; g++) {
            due("lies " + g, hall.lies(g), lies[g]);
        }
        hall.take(2);
        due("taken away", hall.lies(2), 0);
        hall.pass(1);
        due("taken up", hall.lies(0), 0);
        hall = Check.laid(IN_THE_31ST);
        due("would be 31", hall.lies(0), NONE);
        hall.pass(1);
        due("30", hall.lies(0), 30);
        hall.pass(20);
        due("10", hall.lies(0), 10);
        hall.pass(9);
        due("1", hall.lies(0), 1);
        hall.pass(1);
        due("0", hall.lies(0), 0);
        hall.pass(20);
        due("0 for good", hall.lies(0), 0);
    }

    private static void notOutBehind30() {
        CHECK.sentence("LAST: PERSONS (bits) who are not OUT behind 30 REIGNS");
        due("a new one", new GauntletHall().last(), 1 << 1 | 1 << 3);
        due("in the 31st", Check.laid(IN_THE_31ST).last(), 3);
        due("in the 30th", behind(1, IN_THE_31ST).last(), 1);
        due("nobody", Check.laid("p5,7,1;p6,7,0;g2,5,1;").last(), 0);
        due("all six", Check.laid("p1,1,1;".repeat(6)).last(), 63);
        due("the sixth alone is out", Check.laid("p1,2,1;".repeat(5) + "p9,1,0;g2,1,5;").last(), 31);
    }

    private static void safeThroughReigns() {
        CHECK.sentence("SAFE for a PERSON and n (1 to 30)");
        GauntletHall hall = new GauntletHall();
        due("n 0", hall.safe(0, 0, 0), BAD);
        due("n 31", hall.safe(0, 31, 0), BAD);
        due("n 1", hall.safe(4, 1, 0), 0);
        due("n 5", hall.safe(4, 5, 0), 0);
        due("n 6", hall.safe(4, 6, 0), 1);
        // Without glove 0, person 0 falls to 1, and 1 and 2 put each other out: nobody is left who would put 4 out.
        due("n 6, which", hall.safe(4, 6, 1), 1);
        hall = Check.laid(IN_THE_31ST);
        due("in the 31st", hall.safe(1, 30, 0), 0);
        hall.pass(1);
        due("29", hall.safe(1, 29, 0), 0);
        due("30", hall.safe(1, 30, 0), 1);
        due("30, which", hall.safe(1, 30, 1), 1);
    }

    private static void safeByFewest() {
        CHECK.sentence("of sets of GLOVES that lie there, TAKEN AWAY now, none, too, .. that of fewest, of several the "
            + "lowest as bits: how many; which");
        GauntletHall hall = Check.laid("p5,7,1;p6,1,0;g2,5,1;");
        due("none, how many", hall.safe(0, 30, 0), 0);
        due("none, which", hall.safe(0, 30, 1), 0);
        due("of a hall without gloves", Check.laid("p5,7,1;p6,1,0;").safe(0, 30, 1), 0);
        // Person 0 stands in a fight with either, but not with both.
        hall = Check.laid("p5,7,1;p9,5,0;p9,6,0;g2,5,1;g2,5,2;");
        due("either: the lowest", hall.safe(0, 30, 1), 1);
        // Each of the three weakens 0 so that two are too many: of the pairs the lowest as bits goes.
        hall = Check.laid("p5,7,1;p9,6,0;g2,20,0;" + "g2,5,1;p9,6,0;g2,5,2;p9,6,0;g2,5,3;");
        due("a pair, how many", hall.safe(0, 30, 0), 2);
        due("a pair, which", hall.safe(0, 30, 1), 6);
        // Without 0 and 1, person 2 puts 3 out ahead of 3's turn; to take 2 away is fewer, though as bits it is above.
        hall = Check.laid("p9,5,0;p9,1,0;p6,40,1;p5,8,1;g2,6,1;g2,6,1;g2,5,0;g2,6,3;");
        due("fewer ahead of lower, how many", hall.safe(0, 30, 0), 1);
        due("fewer ahead of lower, which", hall.safe(0, 30, 1), 4);
        hall.take(0);
        due("of 1, 2 and 3 the lowest", hall.safe(0, 30, 1), 2);
        hall.take(1);
        due("none is left to take", hall.safe(0, 30, 1), 0);
        hall = Check.laid("p6,8,1;p5,9,1;p9,1,0;g2,20,0;g2,20,0;g2,5,0;");
        due("one alone, how many", hall.safe(0, 1, 0), 1);
        due("one alone, which", hall.safe(0, 1, 1), 4);
        // All eight, and the one that is left.
        hall = Check.laid("p5,1,1;p6,5,0;" + "g2,5,1;".repeat(8));
        due("eight, how many", hall.safe(0, 8, 0), 8);
        due("eight, which", hall.safe(0, 8, 1), 255);
        for (int g = 0; g < 7; g++) {
            hall.take(g);
        }
        due("the eighth, how many", hall.safe(0, 8, 0), 1);
        due("the eighth, which", hall.safe(0, 8, 1), 128);
    }

    private static void safeByNone() {
        CHECK.sentence("SAFE ..; none");
        GauntletHall hall = new GauntletHall();
        hall.pass(1);
        due("one out, how many", hall.safe(0, 1, 0), NONE);
        due("one out, which", hall.safe(0, 1, 1), NONE);
        due("one out, n 0", hall.safe(0, 0, 1), BAD);
        due("one out, what 2", hall.safe(0, 1, 2), BAD);
        due("one who is not", hall.safe(3, 1, 0), 0);
    }

    private static void daredInThirtyReigns() {
        CHECK.sentence("such that the other one takes it up in 30 REIGNS");
        // Person 1, of 2's hand, takes all until 0 puts it out in the 26th reign; then 2 takes 1's first.
        String stiff = "p14,40,1;p5,20,1;p5,9,1;p15,10,0;g3,20,1;" + "g3,11,1;".repeat(4);
        due("in the 30th", Check.laid(stiff).dare(3, 2), 311);
        due("in the 31st", Check.laid(stiff + "g3,11,1;").dare(3, 2), NONE);
        due("in the 1st", Check.laid("p5,9,0;p8,7,1;").dare(0, 1), 8);
        due("not its own", Check.laid("p8,9,1;p8,7,1;").dare(0, 1), 8);
        due("one who stoops not", Check.laid("p5,9,0;p8,7,0;").dare(0, 1), NONE);
        due("person 0, who stoops not", Check.laid("p5,9,0;p8,7,0;").dare(1, 0), NONE);
        // What was taken up and is undone, or thrown anew, is not taken up.
        GauntletHall hall = Check.laid("p5,9,0;p8,7,0;");
        hall.hurl(1, 2, 5);
        hall.wear(0, 0);
        hall.undo();
        hall.undo();
        due("undone", hall.dare(1, 0), NONE);
        due("one ahead of it", Check.laid("p8,9,1;p8,7,1;p5,9,0;").dare(2, 1), NONE);
        daredWithoutAFight();
    }

    /** Person 1 puts 0 out, ahead of 2 in the same reign: 2 takes up what 0 threw, and there is no FIGHT of the two. */
    private static void daredWithoutAFight() {
        GauntletHall hall = Check.laid("p1,3,0;p9,20,1;p5,1,1;g2,9,0;");
        due("taken up without a fight", hall.dare(0, 2), 5);
        due("thrown", hall.hurl(0, 0, 5), 1);
        due("the fight of 0 and 1 alone", hall.pass(1), 1);
        due("taken up", hall.glove(1, 3), 0);
        due("the one who took it up stands", hall.person(2, 1), 1);
    }

    private static void daredFirstByKindThenSize() {
        CHECK.sentence("the first (by the KIND, then the SIZE): 100 times the KIND, and the SIZE");
        for (int hand = 1; hand <= 20; hand++) {
            due("plain for " + hand, Check.laid("p1,1,0;p" + hand + ",1,1;").dare(0, 1), hand);
        }
        // One ahead, 1 smaller, takes plain of the other one's hand, but not the next size.
        due("plain, 1 larger", Check.laid("p5,9,0;p8,7,1;p9,3,1;").dare(0, 2), 10);
        // Ahead: one of 19 for plain 20, which is the last.
        due("mail 20", Check.laid("p5,9,0;p19,7,1;p20,3,1;").dare(0, 2), 220);
        due("plain 19 ahead of mail", Check.laid("p5,9,0;p20,7,1;p19,3,1;").dare(0, 2), 19);
        // Person 0 takes all that fits 14 until the 26th reign, and then glove 0 first: stiff 20 is the other one's.
        due("stiff 20", Check.laid("p14,40,1;p14,9,1;p1,1,0;g3,20,2;").dare(2, 1), 320);
    }

    private static void daredWithEight() {
        CHECK.sentence("none (8 there are: none, too)");
        GauntletHall hall = Check.laid("p5,1,0;p4,7,1;" + "g0,20,0;".repeat(7));
        due("with 7", hall.dare(0, 1), 4);
        hall.hurl(0, 0, 20);
        due("with 8", hall.dare(0, 1), NONE);
        for (int g = 0; g < 8; g++) {
            hall.take(g);
        }
        due("with 8 that lie no more", hall.dare(0, 1), NONE);
        due("alike with 8", hall.dare(1, 1), BAD);
        for (int g = 0; g < 8; g++) {
            hall.undo();
        }
        due("eight lie again", hall.count(4), 8);
        due("with 8 still", hall.dare(0, 1), NONE);
    }

    private static void daredByOneOut() {
        CHECK.sentence("DARE of a PERSON and another one, neither OUT");
        GauntletHall hall = Check.laid("p5,9,0;p5,1,1;p5,3,1;");
        due("ahead", hall.dare(0, 1), 5);
        hall.hurl(0, 2, 5);
        hall.wear(1, 0);
        due("one out throws", hall.dare(1, 2), NO);
        due("to one out", hall.dare(0, 1), NO);
        due("one out to itself", hall.dare(1, 1), BAD);
        due("one out to nobody", hall.dare(1, 3), BAD);
        due("nobody to one out", hall.dare(-1, 1), BAD);
        due("those who are not", hall.dare(0, 2), 5);
        for (int g = 1; g < 8; g++) {
            hall.hurl(0, 0, 20);
        }
        due("one out, with 8", hall.dare(1, 2), NO);
    }

    private static void firstToTakeUp() {
        CHECK.sentence("FIRST ..: that by which, taken up now, it has most MIGHT then (OUT: 0), of several the lowest");
        GauntletHall hall = Check.laid("p5,9,0;p9,20,0;p9,9,0;p9,8,0;p9,7,0;g2,5,1;g2,5,2;g2,5,3;g2,5,4;g2,5,3;");
        due("7 cut is 3", hall.first(0, 0), 3);
        due("9 less 3", hall.first(0, 1), 6);
        hall.take(3);
        due("8 by two, which", hall.first(0, 0), 2);
        due("8 by two, how much", hall.first(0, 1), 5);
        hall.take(2);
        due("the other one", hall.first(0, 0), 4);
        hall.take(4);
        due("out by both: the lowest", hall.first(0, 0), 0);
        due("out by both: 0", hall.first(0, 1), 0);
        hall.take(0);
        due("out by like might", hall.first(0, 0), 1);
        due("out by like might: 0", hall.first(0, 1), 0);
        // Behind one out there is no fight.
        hall = Check.laid("p5,9,0;p9,1,0;p9,9,0;g2,5,1;g2,9,2;g2,5,1;");
        due("might 1", hall.first(0, 1), 9);
        hall.wear(1, 1);
        due("of one out", hall.first(0, 1), 9);
        due("the lowest", hall.first(0, 0), 0);
    }

    private static void firstOfNone() {
        CHECK.sentence("FIRST ..: which; how much; none");
        GauntletHall hall = Check.laid("p5,9,0;p9,1,0;g2,7,1;g2,5,0;");
        for (int what = 0; what <= 1; what++) {
            due("none fits, " + what, hall.first(0, what), NONE);
            due("none but its own, " + what, Check.laid("p5,9,0;p9,1,0;g2,5,0;").first(0, what), NONE);
            due("no glove, " + what, Check.laid("p5,9,0;p9,1,0;").first(0, what), NONE);
        }
        hall = Check.laid("p5,1,0;p9,2,0;g2,5,1;g2,5,1;");
        hall.wear(0, 0);
        due("one out, which", hall.first(0, 0), NONE);
        due("one out, how much", hall.first(0, 1), NONE);
        due("one out, what 2", hall.first(0, 2), BAD);
        hall = Check.laid("p5,3,0;p9,2,0;g2,5,1;");
        hall.take(0);
        due("none lies", hall.first(0, 0), NONE);
    }

    private static void ringOfFewest() {
        CHECK.sentence("RING of a PERSON: the fewest PERSONS, it one of them, in a row");
        StringBuilder text = new StringBuilder();
        int[] hands = {2, 5, 8, 11, 14, 17};
        for (int hand : hands) {
            text.append("p").append(hand).append(",9,0;");
        }
        for (int people = 2; people <= 6; people++) {
            StringBuilder gloves = new StringBuilder();
            for (int p = 0; p < people; p++) {
                gloves.append("g2,").append(hands[p]).append(",").append((p + 1) % people).append(";");
            }
            GauntletHall hall = Check.laid(text.toString() + gloves);
            for (int p = 0; p < 6; p++) {
                due("ring of " + people + ", " + p, hall.ring(p), p < people ? people : NONE);
            }
            hall.take(people - 1);
            due("ring of " + people + " undone", hall.ring(0), NONE);
        }
        // Six, and a shorter way from 2 to 0, and a ring of two beside it.
        GauntletHall hall = Check.laid(text + "g2,2,1;g2,5,2;g2,8,3;g2,11,4;g2,14,5;g2,17,0;g2,8,0;g2,17,4;");
        int[] rings = {3, 3, 3, 6, 2, 2};
        for (int p = 0; p < 6; p++) {
            due("of several rings, " + p, hall.ring(p), rings[p]);
        }
    }

    private static void ringOfNone() {
        CHECK.sentence("RING ..; none");
        due("no ring of one", Check.laid("p5,9,0;p9,1,0;g2,5,0;").ring(0), NONE);
        due("no glove", Check.laid("p5,9,0;p9,1,0;").ring(0), NONE);
        due("one way alone", Check.laid("p5,9,0;p9,1,0;g2,5,1;").ring(0), NONE);
        // One who leads into a ring is none of it.
        due("into a ring", Check.laid("p5,9,0;p9,1,0;p12,1,0;g2,5,1;g2,9,2;g2,12,1;").ring(0), NONE);
        GauntletHall hall = Check.laid("p5,9,0;p9,1,0;p9,3,0;g2,5,1;g2,9,0;g2,9,2;");
        due("two", hall.ring(1), 2);
        hall.wear(1, 2);
        due("one out", hall.ring(1), NONE);
        due("with one out", hall.ring(0), NONE);
        due("nobody", hall.ring(3), BAD);
    }

    private static void nothingIsDone() {
        CHECK.sentence("From now on, nothing else being done");
        GauntletHall hall = asked();
        hall.behind(30, 0);
        hall.lies(3);
        hall.last();
        hall.safe(0, 30, 1);
        hall.safe(2, 30, 0);
        hall.dare(0, 4);
        hall.first(0, 0);
        hall.ring(0);
        CHECK.dueText("all", Calls.allOf(hall), Calls.allOf(asked()));
    }

    private static GauntletHall asked() {
        GauntletHall hall = new GauntletHall();
        hall.seen(0, 0, 1);
        hall.hurl(1, 3, 9);
        hall.keep();
        hall.stretch(1);
        hall.write('p');
        return hall;
    }
}
