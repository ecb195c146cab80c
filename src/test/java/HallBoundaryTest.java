/** Boundary cases of what FITS, of FIGHTS, REIGNS and acts: the document's sentences in their order. */
public final class HallBoundaryTest {
    private static final int BAD = -1, NO = -2, FULL = -3;
    private static final Check CHECK = new Check();

    public static void main(String[] args) {
        fitsByKind();
        stiffByReigns();
        stiffAtLeastZero();
        nobodysOwn();
        noneFitsOneOut();
        moreMightStands();
        outForGood();
        noFightWithOneOut();
        gloveLiesNoMore();
        takesUpInAReign();
        lainOneReignMore();
        thrownByOneNotOut();
        eightInAll();
        takenAway();
        stretched();
        madeToTakeUp();
        undoneTheLatest();
        undoneAllOfOneCall();
        undoneIfNothingBecomesAnother();
        theLastEight();
        reignsAtOnce();
        reignsAtMost();
        fightsCounted();
        CHECK.finish();
    }

    private static void due(String call, long got, long want) {
        CHECK.due(call, got, want);
    }

    private static GauntletHall atReign(String text, int reign) {
        GauntletHall hall = Check.laid(text);
        for (int i = 0; i < reign / 20; i++) {
            hall.pass(20);
        }
        if (reign % 20 > 0) {
            hall.pass(reign % 20);
        }
        return hall;
    }

    private static void fitsByKind() {
        CHECK.sentence("a PLAIN one a HAND as large as its SIZE, or 1 smaller; a KID one also one that is 1 larger; one of "
            + "MAIL just one as large; a STIFF one is taken as PLAIN");
        // The least and the most that a hand may be over the size, by kind.
        int[] least = {-1, -1, 0, -1};
        int[] most = {0, 1, 0, 0};
        for (int hand = 1; hand <= 20; hand++) {
            GauntletHall hall = Check.laid("p" + hand + ",1,0;p1,1,0;");
            for (int kind = 0; kind <= 3; kind++) {
                for (int size = 1; size <= 20; size++) {
                    hall.hurl(1, kind, size);
                    boolean fits = hand - size >= least[kind] && hand - size <= most[kind];
                    due("hand " + hand + ", kind " + kind + ", size " + size, hall.fits(0, 0), fits ? 1 : 0);
                    hall.undo();
                }
            }
        }
    }

    private static void stiffByReigns() {
        CHECK.sentence("its SIZE less by 1 for each whole 5 REIGNS that it has lain there");
        GauntletHall hall = Check.laid("p20,1,0;p19,1,0;p18,1,0;p17,1,0;p16,1,0;p1,1,0;g3,20,5;g0,20,5;g1,20,5;g2,20,5;");
        for (int lain = 0; lain <= 25; lain++) {
            int size = lain < 5 ? 20 : lain < 10 ? 19 : lain < 15 ? 18 : lain < 20 ? 17 : lain < 25 ? 16 : 15;
            due("size behind " + lain, hall.glove(0, 1), size);
            due("lain " + lain, hall.glove(0, 4), lain);
            for (int p = 0; p < 5; p++) {
                int hand = 20 - p;
                due("fits " + hand + " behind " + lain, hall.fits(0, p), hand == size || hand == size - 1 ? 1 : 0);
            }
            for (int g = 1; g <= 3; g++) {
                due("size of " + g + " behind " + lain, hall.glove(g, 1), 20);
            }
            hall.pass(1);
        }
        // Reigns of the glove itself count, not those of the hall.
        hall = atReign("p20,1,0;p1,1,0;", 4);
        hall.hurl(1, 3, 20);
        hall.pass(4);
        due("thrown in reign 4, behind 4", hall.glove(0, 1), 20);
        hall.pass(1);
        due("thrown in reign 4, behind 5", hall.glove(0, 1), 19);
        // It has lain no longer than it lies.
        hall.pass(4);
        hall.take(0);
        hall.pass(20);
        due("taken away behind 9", hall.glove(0, 1), 19);
        due("lain 9", hall.glove(0, 4), 9);
    }

    private static void stiffAtLeastZero() {
        CHECK.sentence("SIZE (1; of a STIFF one as it is by now, 0 at least)");
        GauntletHall hall = Check.laid("p3,1,0;p1,1,0;g3,1,1;g3,2,1;");
        int[][] sizes = {{1, 2}, {0, 1}, {0, 0}, {0, 0}};
        for (int[] size : sizes) {
            due("size 1 behind " + hall.count(2), hall.glove(0, 1), size[0]);
            due("size 2 behind " + hall.count(2), hall.glove(1, 1), size[1]);
            hall.pass(5);
        }
        hall = atReign("p3,1,0;p1,1,0;g3,1,1;g3,20,1;", 999);
        due("size 1 behind 999", hall.glove(0, 1), 0);
        due("size 20 behind 999", hall.glove(1, 1), 0);
        due("lain 999", hall.glove(0, 4), 999);
        // One of size 0 or less fits nobody.
        hall = Check.laid("p1,1,0;p2,1,0;p9,1,0;g3,2,2;");
        int[][] fits = {{1, 1}, {1, 0}, {0, 0}, {0, 0}};
        for (int[] fit : fits) {
            due("hand 1 behind " + hall.count(2), hall.fits(0, 0), fit[0]);
            due("hand 2 behind " + hall.count(2), hall.fits(0, 1), fit[1]);
            hall.pass(5);
        }
    }

    private static void nobodysOwn() {
        CHECK.sentence("Nobody's own GLOVE FITS that PERSON");
        for (int kind = 0; kind <= 3; kind++) {
            GauntletHall hall = Check.laid("p7,1,1;p7,9,0;g" + kind + ",7,0;");
            due("own of kind " + kind, hall.fits(0, 0), 0);
            due("another one's of kind " + kind, hall.fits(0, 1), 1);
            due("not taken up", hall.pass(1), 0);
            due("lies there", hall.glove(0, 3), 1);
            due("not put on", hall.wear(0, 0), NO);
        }
    }

    private static void noneFitsOneOut() {
        CHECK.sentence("none FITS one who is OUT");
        GauntletHall hall = Check.laid("p7,1,1;p7,9,0;p7,2,0;g2,7,1;g2,7,2;");
        due("ahead", hall.fits(1, 0), 1);
        due("out by a fight", hall.wear(0, 0), 0);
        due("behind", hall.fits(1, 0), 0);
        due("not put on", hall.wear(0, 1), NO);
        due("not taken up", hall.pass(20), 0);
        due("fits another one", hall.fits(1, 1), 1);
    }

    private static void moreMightStands() {
        CHECK.sentence("who has more MIGHT STANDS, with half of the other one's MIGHT, cut, less (1 at least); the other "
            + "one is OUT. Of like MIGHT both are OUT");
        for (int own = 1; own <= 40; own++) {
            for (int other = 1; other <= 40; other++) {
                GauntletHall hall = Check.laid("p5,1,0;p5," + own + ",0;p9," + other + ",0;g2,5,2;");
                int stands = own == other ? 2 : own > other ? 1 : 0;
                int left = Math.max(1, Math.max(own, other) - Math.min(own, other) / 2);
                String fight = own + " with " + other;
                due("fight of " + fight, hall.fight(1, 2), stands);
                due("fight the other way of " + fight, hall.fight(2, 1), stands == 2 ? 2 : 1 - stands);
                due("first of " + fight, hall.first(1, 1), stands == 1 ? left : 0);
                due("wear of " + fight, hall.wear(1, 0), stands == 1 ? left : 0);
                due("other of " + fight, hall.person(2, 1), stands == 0 ? left : 0);
                due("out of " + fight, hall.count(3), stands == 2 ? 2 : 1);
                due("fights of " + fight, hall.count(5), 1);
                due("the third of " + fight, hall.person(0, 1), 1);
            }
        }
    }

    private static void outForGood() {
        CHECK.sentence("the other one is OUT, for good");
        GauntletHall hall = Check.laid("p7,1,1;p7,9,0;p7,2,0;g2,7,1;g2,7,0;");
        hall.pass(1);
        for (int i = 0; i < 49; i++) {
            hall.pass(20);
            due("might behind " + hall.count(2), hall.person(0, 1), 0);
        }
        due("throws none", hall.hurl(0, 0, 1), NO);
        due("hand stays", hall.person(0, 0), 7);
        due("stoops still", hall.person(0, 2), 1);
        due("is a person", hall.count(0), 3);
    }

    private static void noFightWithOneOut() {
        CHECK.sentence("If the one whose it is is OUT already there is no FIGHT");
        GauntletHall hall = Check.laid("p7,1,0;p7,9,0;p7,2,0;g2,7,1;g2,7,0;g2,7,0;");
        hall.wear(0, 0);
        due("fights", hall.count(5), 1);
        due("might stays", hall.wear(2, 1), 2);
        due("no fight", hall.count(5), 1);
        due("lies no more", hall.glove(1, 3), 0);
        due("nobody else is out", hall.count(3), 1);
        // In a reign, too, and one who goes out in it counts as out for those behind.
        hall = Check.laid("p7,9,1;p7,2,1;p9,8,0;g2,7,2;g2,7,2;");
        due("one fight of two gloves", hall.pass(1), 1);
        due("the first fought", hall.person(0, 1), 5);
        due("the second did not", hall.person(1, 1), 2);
        due("none lies", hall.count(4), 0);
    }

    private static void gloveLiesNoMore() {
        CHECK.sentence("The GLOVE lies there no more");
        for (String text : new String[] {"p7,1,1;p9,9,0;g2,7,1;", "p7,9,1;p9,1,0;g2,7,1;", "p7,5,1;p9,5,0;g2,7,1;"}) {
            GauntletHall hall = Check.laid(text);
            hall.pass(1);
            due("lies behind a reign of " + text, hall.glove(0, 3), 0);
            due("is a glove still", hall.count(1), 1);
            due("none lies", hall.count(4), 0);
            hall.undo();
            hall.wear(0, 0);
            due("lies behind wear of " + text, hall.glove(0, 3), 0);
        }
    }

    private static void takesUpInAReign() {
        CHECK.sentence("each PERSON who STOOPS and is not OUT, 0 first, takes up the lowest GLOVE that lies there and FITS, "
            + "if there is one");
        GauntletHall hall = Check.laid("p5,40,0;p5,40,0;g0,5,1;g0,5,0;");
        due("who stoop not", hall.pass(20), 0);
        due("all lie", hall.count(4), 2);
        hall = Check.laid("p5,40,1;p6,1,0;p7,1,0;p8,1,0;g2,9,1;g2,5,2;g2,5,1;g2,5,3;");
        due("one a reign", hall.pass(1), 1);
        due("one that does not fit lies", hall.glove(0, 3), 1);
        due("the lowest that fits", hall.glove(1, 3), 0);
        due("the next lies", hall.glove(2, 3), 1);
        due("the next reign", hall.pass(1), 1);
        due("the next is taken", hall.glove(2, 3), 0);
        due("the last reign", hall.pass(1), 1);
        due("there is none", hall.pass(1), 0);
        due("but that", hall.count(4), 1);
        // 0 first: the glove that fits both goes to 0, the other one gets the next.
        hall = Check.laid("p5,1,1;p5,1,1;p9,3,0;p9,5,0;g2,5,2;g2,5,3;");
        hall.pass(1);
        due("2 fought 0 alone", hall.person(2, 1), 3);
        due("3 fought 1 alone", hall.person(3, 1), 5);
        due("both are out", hall.last(), 12);
        // One put out in the reign ahead of its turn takes up none; one put out behind it has had its turn.
        hall = Check.laid("p5,9,1;p6,3,1;p9,1,0;g2,5,1;g2,6,2;");
        due("ahead of its turn", hall.pass(1), 1);
        due("its glove lies", hall.glove(1, 3), 1);
        hall = Check.laid("p6,3,1;p5,9,1;p9,1,0;g2,5,0;g2,6,2;");
        due("behind its turn", hall.pass(1), 2);
        due("none lies", hall.count(4), 0);
        // One lies for a later person that an earlier one's fight brought nobody to: person 5 has its turn, too.
        hall = Check.laid("p1,1,1;".repeat(5) + "p9,2,1;g2,9,0;");
        due("person 5", hall.pass(1), 1);
    }

    private static void lainOneReignMore() {
        CHECK.sentence("Then the others that lie there have lain one REIGN more; it is the next one");
        GauntletHall hall = Check.laid("p5,40,1;p6,1,0;g2,5,1;g2,9,1;g2,9,1;");
        hall.take(2);
        due("reign", hall.count(2), 0);
        hall.pass(1);
        due("taken up", hall.glove(0, 4), 0);
        due("lies", hall.glove(1, 4), 1);
        due("taken away", hall.glove(2, 4), 0);
        due("reign 1", hall.count(2), 1);
        hall.hurl(0, 0, 20);
        due("thrown", hall.glove(3, 4), 0);
        hall.pass(20);
        due("lies behind 21", hall.glove(1, 4), 21);
        due("thrown behind 20", hall.glove(3, 4), 20);
        due("taken up behind 21", hall.glove(0, 4), 0);
        due("reign 21", hall.count(2), 21);
    }

    private static void thrownByOneNotOut() {
        CHECK.sentence("A GLOVE may be THROWN by a PERSON who is not OUT; its number");
        GauntletHall hall = Check.laid("p5,40,0;p6,1,0;g2,5,1;");
        due("the first", hall.hurl(1, 0, 1), 1);
        due("of the last kind and size", hall.hurl(0, 3, 20), 2);
        int[][] told = {{2, 5, 1, 1, 0}, {0, 1, 1, 1, 0}, {3, 20, 0, 1, 0}};
        for (int g = 0; g < 3; g++) {
            for (int what = 0; what <= 4; what++) {
                due("glove " + g + ", " + what, hall.glove(g, what), told[g][what]);
            }
        }
        hall.wear(0, 0);
        due("by one out", hall.hurl(1, 0, 1), NO);
        due("three", hall.count(1), 3);
    }

    private static void eightInAll() {
        CHECK.sentence("(8 in all, those that lie no more, too)");
        GauntletHall hall = Check.laid("p5,40,0;p6,1,0;");
        for (int g = 0; g < 8; g++) {
            due("thrown " + g, hall.hurl(g % 2, g % 4, g + 1), g);
        }
        due("a ninth", hall.hurl(0, 0, 1), FULL);
        for (int g = 0; g < 8; g++) {
            hall.take(g);
        }
        due("none lies", hall.count(4), 0);
        due("a ninth if none lies", hall.hurl(0, 0, 1), FULL);
        due("eight", hall.count(1), 8);
        hall = Check.laid("p5,40,0;p6,1,0;" + "g0,1,0;".repeat(7));
        due("an eighth", hall.hurl(1, 0, 1), 7);
        due("a ninth behind those told", hall.hurl(1, 0, 1), FULL);
        hall.undo();
        due("an eighth again", hall.hurl(1, 1, 2), 7);
        due("its kind", hall.glove(7, 0), 1);
    }

    private static void takenAway() {
        CHECK.sentence("TAKEN AWAY (it lies no more): how many lie there");
        GauntletHall hall = Check.laid("p5,40,0;p5,1,0;" + "g2,5,0;".repeat(8));
        for (int g = 7; g >= 0; g--) {
            due("take " + g, hall.take(g), g);
            due("lies " + g, hall.glove(g, 3), 0);
            due("fits " + g, hall.fits(g, 1), 0);
            due("again " + g, hall.take(g), NO);
        }
        due("all are gloves still", hall.count(1), 8);
        due("nobody is out", hall.count(3), 0);
        hall = Check.laid("p5,40,1;p5,1,0;g2,5,1;");
        hall.pass(1);
        due("one taken up", hall.take(0), NO);
    }

    private static void stretched() {
        CHECK.sentence("STRETCHED, if it is KID, once or more: its SIZE is 1 more (20 at most)");
        GauntletHall hall = Check.laid("p1,1,0;p1,1,0;g1,1,0;g0,1,0;g2,1,0;g3,1,0;g1,20,0;g1,19,0;");
        for (int size = 2; size <= 20; size++) {
            due("to " + size, hall.stretch(0), size);
            due("it is " + size, hall.glove(0, 1), size);
        }
        due("to 21", hall.stretch(0), NO);
        due("20 still", hall.glove(0, 1), 20);
        due("plain", hall.stretch(1), NO);
        due("mail", hall.stretch(2), NO);
        due("stiff", hall.stretch(3), NO);
        due("told as 20", hall.stretch(4), NO);
        due("told as 19", hall.stretch(5), 20);
        due("told as 19, again", hall.stretch(5), NO);
        for (int g = 1; g <= 3; g++) {
            due("size of " + g, hall.glove(g, 1), 1);
        }
        hall.undo();
        hall.take(5);
        due("taken away", hall.stretch(5), NO);
        due("its size", hall.glove(5, 1), 19);
        hall = Check.laid("p5,9,0;p7,9,0;g1,5,1;");
        due("fits 5", hall.fits(0, 0), 1);
        hall.stretch(0);
        due("6 fits 5", hall.fits(0, 0), 1);
        hall.stretch(0);
        due("7 fits not 5", hall.fits(0, 0), 0);
        due("lain stays", hall.glove(0, 4), 0);
    }

    private static void madeToTakeUp() {
        CHECK.sentence("One who is not OUT may be made to take up a GLOVE that FITS: MIGHT then (0: OUT)");
        GauntletHall hall = Check.laid("p5,9,0;p6,4,0;p7,20,0;p5,1,0;g2,5,1;g2,5,2;g2,9,1;g2,5,0;g2,5,1;");
        due("does not fit", hall.wear(0, 2), NO);
        due("its own", hall.wear(0, 3), NO);
        due("not the lowest", hall.wear(0, 4), 7);
        due("lies no more", hall.wear(0, 4), NO);
        due("of one out", hall.wear(0, 0), 7);
        due("falls", hall.wear(0, 1), 0);
        due("out", hall.wear(0, 3), NO);
        due("one out, of another one", hall.wear(1, 3), NO);
        due("no reign", hall.count(2), 0);
        due("nothing has lain", hall.glove(2, 4), 0);
        due("fights", hall.count(5), 2);
    }

    private static void undoneTheLatest() {
        CHECK.sentence("UNDONE is the latest of these, of REIGNS: how many more can be");
        GauntletHall hall = Check.laid("p5,9,1;p6,4,0;g2,5,1;g1,9,1;");
        due("nothing yet", hall.undo(), NO);
        String[] ahead = new String[5];
        for (int acts = 0; acts < 5; acts++) {
            ahead[acts] = Calls.allOf(afterActs(acts));
        }
        for (int acts = 5; acts >= 1; acts--) {
            GauntletHall undone = afterActs(acts);
            due("of " + acts, undone.undo(), acts - 1);
            CHECK.dueText("all behind undo of act " + acts, Calls.allOf(undone), ahead[acts - 1]);
        }
        hall = afterActs(5);
        for (int left = 4; left >= 0; left--) {
            due("one behind the other", hall.undo(), left);
            due("can be undone", hall.count(7), left);
        }
        due("no more", hall.undo(), NO);
    }

    private static GauntletHall afterActs(int many) {
        GauntletHall hall = Check.laid("p5,9,1;p6,4,0;g2,5,1;g1,9,1;");
        int[] answers = new int[5];
        for (int act = 0; act < many; act++) {
            answers[act] = switch (act) {
                case 0 -> hall.stretch(1);
                case 1 -> hall.hurl(1, 3, 20);
                case 2 -> hall.wear(0, 0);
                case 3 -> hall.take(1);
                default -> hall.pass(7);
            };
            if (answers[act] < 0) {
                throw new IllegalStateException("act " + act + " is refused");
            }
        }
        return hall;
    }

    private static void undoneAllOfOneCall() {
        CHECK.sentence("(all of one call at once)");
        GauntletHall hall = new GauntletHall();
        due("20 at once", hall.pass(20), 3);
        due("one act", hall.count(7), 1);
        due("undone", hall.undo(), 0);
        CHECK.dueText("all", Calls.allOf(hall), Calls.allOf(new GauntletHall()));
    }

    private static void undoneIfNothingBecomesAnother() {
        CHECK.sentence("such by which nothing becomes another, too");
        GauntletHall hall = Check.laid("p5,9,1;p6,4,0;");
        due("without a glove", hall.pass(1), 0);
        due("can be undone", hall.count(7), 1);
        due("undone", hall.undo(), 0);
        due("reign", hall.count(2), 0);
        hall = Check.laid("p5,9,1;p5,4,1;g2,5,0;");
        hall.wear(1, 0);
        due("nobody but one", hall.pass(20), 0);
        due("both can be undone", hall.count(7), 2);
    }

    private static void theLastEight() {
        CHECK.sentence("the last 8 can be");
        for (int acts = 7; acts <= 20; acts++) {
            GauntletHall hall = new GauntletHall();
            for (int i = 0; i < acts; i++) {
                hall.pass(1);
            }
            int can = Math.min(8, acts);
            due("can be of " + acts, hall.count(7), can);
            for (int left = can - 1; left >= 0; left--) {
                due("undo of " + acts, hall.undo(), left);
                due("reign of " + acts, hall.count(2), acts - can + left);
            }
            due("no more of " + acts, hall.undo(), NO);
            due("reign stays of " + acts, hall.count(2), acts - can);
        }
        // Acts behind what was undone: the oldest still go first.
        GauntletHall hall = new GauntletHall();
        for (int i = 0; i < 12; i++) {
            hall.pass(1);
        }
        for (int i = 0; i < 5; i++) {
            hall.undo();
        }
        due("reign 7", hall.count(2), 7);
        due("three left", hall.count(7), 3);
        for (int i = 0; i < 6; i++) {
            hall.pass(2);
        }
        due("reign 19", hall.count(2), 19);
        due("eight again", hall.count(7), 8);
        int[] reigns = {17, 15, 13, 11, 9, 7, 6, 5};
        for (int i = 0; i < 8; i++) {
            due("undo to " + reigns[i], hall.undo(), 7 - i);
            due("reign", hall.count(2), reigns[i]);
        }
        due("no more", hall.undo(), NO);
    }

    private static void reignsAtOnce() {
        CHECK.sentence("n (1 to 20) REIGNS go by");
        for (int n : new int[] {0, 21, -1, Integer.MIN_VALUE, Integer.MAX_VALUE}) {
            GauntletHall hall = new GauntletHall();
            due("pass " + n, hall.pass(n), BAD);
            CHECK.dueText("all behind pass " + n, Calls.allOf(hall), Calls.allOf(new GauntletHall()));
        }
        int[] fights = {2, 2, 2, 2, 2, 3, 3, 3, 3, 3, 3, 3, 3, 3, 3, 3, 3, 3, 3, 3};
        for (int n = 1; n <= 20; n++) {
            GauntletHall hall = new GauntletHall();
            due("pass " + n, hall.pass(n), fights[n - 1]);
            due("reign behind " + n, hall.count(2), n);
        }
    }

    private static void reignsAtMost() {
        CHECK.sentence("NO: it would be above 999");
        GauntletHall hall = atReign("p5,9,0;p6,4,0;g3,20,1;", 979);
        due("979 and 20", hall.pass(20), 0);
        due("reign 999", hall.count(2), 999);
        due("999 and 1", hall.pass(1), NO);
        due("999 and 20", hall.pass(20), NO);
        due("999 and 21", hall.pass(21), BAD);
        due("999 and 0", hall.pass(0), BAD);
        due("undone", hall.undo(), 7);
        due("reign 979", hall.count(2), 979);
        hall = atReign("p5,9,0;p6,4,0;g3,20,1;", 980);
        due("980 and 20", hall.pass(20), NO);
        due("980 and 19", hall.pass(19), 0);
        hall = atReign("p5,9,0;p6,4,0;g3,20,1;", 998);
        due("998 and 2", hall.pass(2), NO);
        due("998 and 1", hall.pass(1), 0);
        for (int n = 1; n <= 20; n++) {
            due("999 and " + n, hall.pass(n), NO);
        }
        due("lain 999", hall.glove(0, 4), 999);
        // Other acts go on in the last reign.
        due("thrown", hall.hurl(1, 2, 5), 1);
        due("put on", hall.wear(0, 1), 7);
    }

    private static void fightsCounted() {
        CHECK.sentence("FIGHTS so far (those of what is UNDONE are none; behind back() as KEPT)");
        GauntletHall hall = new GauntletHall();
        due("none", hall.count(5), 0);
        hall.wear(3, 3);
        due("by wear", hall.count(5), 1);
        hall.keep();
        hall.pass(1);
        // Of the three gloves taken up then, two are of those who are out by then.
        due("by a reign, too", hall.count(5), 2);
        hall.undo();
        due("undone", hall.count(5), 1);
        hall.undo();
        due("both undone", hall.count(5), 0);
        hall.back();
        due("as kept", hall.count(5), 1);
    }
}
