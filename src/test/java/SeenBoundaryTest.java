/** Boundary cases of what is SEEN, of chances, times and halls kept: the document's sentences in their order. */
public final class SeenBoundaryTest {
    private static final int BAD = -1, NO = -2, FULL = -3, NONE = -4;
    private static final Check CHECK = new Check();

    public static void main(String[] args) {
        seenAtMost();
        seenBySizeAlone();
        seenOfAGloveThatIsNoMore();
        forgotten();
        handsFromOneToTwenty();
        handsOfNone();
        kindsAsBits();
        sizesFromOneToTwenty();
        sizesOfNone();
        likelyThroughSoMany();
        likelyByFewer();
        likelyInLowestTerms();
        timesOfZ();
        timesOfReigns();
        thrownInPlaceOfTheLowest();
        takenAwayTheLowest();
        nothingChangesByATime();
        keptAtMost();
        keptAllButTextAndSeen();
        asKeptLast();
        counted();
        CHECK.finish();
    }

    private static void due(String call, long got, long want) {
        CHECK.due(call, got, want);
    }

    private static void seenAtMost() {
        CHECK.sentence("SEEN (6 at most): how many");
        GauntletHall hall = new GauntletHall();
        due("nothing", hall.count(6), 0);
        for (int i = 1; i <= 6; i++) {
            due("the " + i + ".", hall.seen(i % 5, i % 4, i % 2), i);
            due("are seen", hall.count(6), i);
        }
        due("the 7.", hall.seen(0, 0, 1), FULL);
        due("the 7., not", hall.seen(0, 0, 0), FULL);
        due("are seen still", hall.count(6), 6);
        due("forget", hall.forget(), 6);
        due("the 1. again", hall.seen(0, 0, 1), 1);
        // The same is told twice.
        due("alike", hall.seen(0, 0, 1), 2);
    }

    private static void seenBySizeAlone() {
        CHECK.sentence("by HAND, KIND, SIZE, REIGNS lain alone (whose it is, whether it lies there, who is OUT set aside)");
        GauntletHall hall = Check.laid("p5,1,0;p9,9,0;g2,5,0;g2,5,1;g2,5,1;");
        hall.seen(0, 0, 1);
        due("its own", hall.hands(0, 0), 1);
        due("its own, which", hall.hands(0, 1), 5);
        due("kinds of its own", hall.kinds(0), 15);
        hall.forget();
        hall.take(1);
        due("one taken away", hall.seen(1, 0, 1), 1);
        due("one taken away, which", hall.hands(0, 1), 5);
        due("sizes of it", hall.sizes(1, 0), 1);
        hall.forget();
        hall.wear(0, 2);
        due("one is out", hall.person(0, 1), 0);
        due("of one out", hall.seen(1, 0, 1), 1);
        due("of one out, which", hall.hands(0, 1), 5);
        due("of one out, sizes", hall.sizes(1, 1), 5);
        // The reigns that it has lain count, those of the hall do not.
        hall = Check.laid("p5,1,0;p9,9,0;g3,6,1;g3,6,1;");
        hall.take(1);
        hall.seen(0, 0, 1);
        hall.seen(1, 1, 1);
        hall.pass(4);
        due("lain 4", hall.hands(0, 1), 5);
        hall.pass(1);
        due("lain 5", hall.hands(0, 1), 4);
        due("lain 0", hall.hands(1, 1), 5);
    }

    private static void seenOfAGloveThatIsNoMore() {
        CHECK.sentence("of a GLOVE that there is no more, as UNDONE or not KEPT, it is set aside");
        GauntletHall hall = Check.laid("p5,1,0;p9,9,0;");
        hall.keep();
        hall.hurl(0, 2, 7);
        hall.seen(0, 0, 1);
        hall.seen(0, 1, 0);
        due("one", hall.hands(0, 0), 1);
        due("all but one", hall.hands(1, 0), 19);
        hall.undo();
        due("undone", hall.hands(0, 0), 20);
        due("undone, least", hall.hands(0, 1), 1);
        due("undone, another one", hall.hands(1, 0), 20);
        due("no glove", hall.kinds(0), BAD);
        due("no glove, sizes", hall.sizes(0, 0), BAD);
        due("no glove to be seen", hall.seen(0, 0, 1), BAD);
        due("seen still", hall.count(6), 2);
        hall.hurl(0, 2, 9);
        due("thrown again", hall.hands(0, 1), 9);
        hall.back();
        due("not kept", hall.hands(0, 0), 20);
        due("not kept, another one", hall.hands(1, 0), 20);
        due("seen behind back", hall.count(6), 2);
        due("forget", hall.forget(), 2);
        seenOfAGloveThatIsThereAgain();
    }

    /** Set aside is not forgotten: KEPT with the glove, the hall has it again behind back(). */
    private static void seenOfAGloveThatIsThereAgain() {
        GauntletHall hall = Check.laid("p5,1,0;p9,9,0;g2,3,0;");
        hall.hurl(0, 2, 7);
        hall.seen(1, 1, 1);
        hall.seen(0, 1, 0);
        hall.keep();
        due("both count", hall.hands(1, 1), 7);
        hall.undo();
        due("the other glove's alone", hall.hands(1, 0), 19);
        due("the other glove's sizes", hall.sizes(0, 0), 19);
        hall.back();
        due("there again", hall.hands(1, 0), 1);
        due("there again, the least", hall.hands(1, 1), 7);
        due("there again, sizes", hall.sizes(1, 1), 9);
        hall.take(1);
        due("one that lies no more is there still", hall.hands(1, 1), 7);
    }

    private static void forgotten() {
        CHECK.sentence("Nothing is SEEN: how many were");
        GauntletHall hall = new GauntletHall();
        due("of none", hall.forget(), 0);
        for (int many = 1; many <= 6; many++) {
            for (int i = 0; i < many; i++) {
                hall.seen(0, 0, i % 2);
            }
            due("of " + many, hall.forget(), many);
            due("none left of " + many, hall.count(6), 0);
            due("all hands behind " + many, hall.hands(0, 0), 20);
            due("all kinds behind " + many, hall.kinds(0), 15);
            due("all sizes behind " + many, hall.sizes(0, 0), 20);
        }
        due("again", hall.forget(), 0);
    }

    private static void handsFromOneToTwenty() {
        CHECK.sentence("HANDS of a PERSON (1 to 20), in place of its own: how many; the least");
        for (int size = 1; size <= 20; size++) {
            int[] least = {Math.max(1, size - 1), Math.max(1, size - 1), size, Math.max(1, size - 1)};
            int[] most = {size, Math.min(20, size + 1), size, size};
            for (int kind = 0; kind <= 3; kind++) {
                GauntletHall hall = Check.laid("p12,1,0;p9,9,0;g" + kind + "," + size + ",1;");
                String glove = "kind " + kind + ", size " + size;
                due("nothing seen of " + glove, hall.hands(0, 0), 20);
                due("nothing seen of " + glove + ", least", hall.hands(0, 1), 1);
                hall.seen(0, 0, 1);
                int many = most[kind] - least[kind] + 1;
                due("fits " + glove, hall.hands(0, 0), many);
                due("fits " + glove + ", least", hall.hands(0, 1), least[kind]);
                due("another one of " + glove, hall.hands(1, 0), 20);
                hall.forget();
                hall.seen(0, 0, 0);
                due("fits not " + glove, hall.hands(0, 0), 20 - many);
                due("fits not " + glove + ", least", hall.hands(0, 1), least[kind] > 1 ? 1 : most[kind] + 1);
                due("the hand stays " + glove, hall.person(0, 0), 12);
            }
        }
    }

    private static void handsOfNone() {
        CHECK.sentence("HANDS: how many (what = 0), the least (1; NONE)");
        GauntletHall hall = Check.laid("p12,1,0;p9,9,0;g2,4,1;g2,5,1;g3,1,1;");
        hall.seen(0, 0, 1);
        hall.seen(0, 0, 0);
        due("both ways, how many", hall.hands(0, 0), 0);
        due("both ways, least", hall.hands(0, 1), NONE);
        due("both ways, what 2", hall.hands(0, 2), BAD);
        hall.forget();
        hall.seen(0, 0, 1);
        hall.seen(1, 0, 1);
        due("two of mail, how many", hall.hands(0, 0), 0);
        due("two of mail, least", hall.hands(0, 1), NONE);
        hall.forget();
        hall.seen(2, 0, 1);
        due("stiff 1", hall.hands(0, 1), 1);
        hall.pass(5);
        due("stiff 0, how many", hall.hands(0, 0), 0);
        due("stiff 0, least", hall.hands(0, 1), NONE);
    }

    private static void kindsAsBits() {
        CHECK.sentence("KINDS of a GLOVE (bits of 0 to 3)");
        GauntletHall hall = Check.laid("p9,9,0;p10,7,0;p11,7,0;p8,7,0;p12,7,0;g0,10,0;g3,10,1;");
        due("nothing seen", hall.kinds(0), 15);
        // By person: the kinds that fit; the others are those that do not.
        int[] fit = {11, 15, 2, 0, 0};
        for (int p = 0; p < 5; p++) {
            hall.seen(0, p, 1);
            due("fits " + p, hall.kinds(0), fit[p]);
            hall.forget();
            hall.seen(0, p, 0);
            due("fits not " + p, hall.kinds(0), 15 - fit[p]);
            hall.forget();
        }
        hall.seen(0, 0, 1);
        hall.seen(0, 2, 0);
        due("plain or stiff", hall.kinds(0), 9);
        due("another glove", hall.kinds(1), 15);
        hall.forget();
        hall.pass(5);
        hall.seen(0, 3, 1);
        due("stiff alone, by reigns lain", hall.kinds(0), 8);
        hall.seen(1, 1, 1);
        due("all but stiff", hall.kinds(1), 7);
        due("the kind stays", hall.glove(1, 0), 3);
    }

    private static void sizesFromOneToTwenty() {
        CHECK.sentence("SIZES of a GLOVE (1 to 20, as told, in place of its own) likewise: how many; the least");
        for (int hand = 1; hand <= 20; hand++) {
            int[] least = {hand, Math.max(1, hand - 1), hand, hand};
            int[] most = {Math.min(20, hand + 1), Math.min(20, hand + 1), hand, Math.min(20, hand + 1)};
            for (int kind = 0; kind <= 3; kind++) {
                GauntletHall hall = Check.laid("p" + hand + ",1,0;p9,9,0;g" + kind + ",12,1;");
                String glove = "kind " + kind + " for hand " + hand;
                due("nothing seen of " + glove, hall.sizes(0, 0), 20);
                due("nothing seen of " + glove + ", least", hall.sizes(0, 1), 1);
                hall.seen(0, 0, 1);
                int many = most[kind] - least[kind] + 1;
                due("fits " + glove, hall.sizes(0, 0), many);
                due("fits " + glove + ", least", hall.sizes(0, 1), least[kind]);
                hall.forget();
                hall.seen(0, 0, 0);
                due("fits not " + glove, hall.sizes(0, 0), 20 - many);
                due("fits not " + glove + ", least", hall.sizes(0, 1), least[kind] > 1 ? 1 : most[kind] + 1);
                due("the size stays " + glove, hall.glove(0, 1), 12);
            }
        }
        // As told: a stiff one is then less by the reigns lain.
        GauntletHall hall = Check.laid("p18,1,0;p9,9,0;g3,3,1;");
        hall.seen(0, 0, 1);
        int[][] due = {{2, 18}, {2, 19}, {1, 20}, {0, NONE}};
        for (int[] by : due) {
            due("stiff, how many behind " + hall.count(2), hall.sizes(0, 0), by[0]);
            due("stiff, least behind " + hall.count(2), hall.sizes(0, 1), by[1]);
            hall.pass(5);
        }
    }

    private static void sizesOfNone() {
        CHECK.sentence("SIZES: how many (what = 0), the least (1; NONE)");
        GauntletHall hall = Check.laid("p12,1,0;p9,9,0;g2,4,1;");
        hall.seen(0, 0, 1);
        hall.seen(0, 1, 1);
        due("two hands in mail, how many", hall.sizes(0, 0), 0);
        due("two hands in mail, least", hall.sizes(0, 1), NONE);
        due("two hands in mail, what 2", hall.sizes(0, 2), BAD);
        due("two hands in mail, kinds", hall.kinds(0), 0);
    }

    private static void likelyThroughSoMany() {
        CHECK.sentence("LIKELY for a PERSON and n (0 to 4): it takes up the first n GLOVES that lie there and FIT it");
        GauntletHall hall = Check.laid("p5,1,0;p9,1,0;g2,5,1;g2,6,1;g2,5,1;g2,5,0;g2,5,1;g2,5,1;g2,5,1;g2,5,1;");
        int[] below = {1, 2, 4, 8, 16};
        for (int n = 0; n <= 4; n++) {
            due("above of " + n, hall.likely(0, n, 0), 1);
            due("below of " + n, hall.likely(0, n, 1), below[n]);
        }
        due("n 5", hall.likely(0, 5, 0), BAD);
        due("n -1", hall.likely(0, -1, 0), BAD);
        hall.take(0);
        due("one that lies no more", hall.likely(0, 4, 1), 16);
        hall.take(2);
        hall.take(4);
        due("three are left", hall.likely(0, 4, 1), 8);
    }

    private static void likelyByFewer() {
        CHECK.sentence("(fewer, if there are fewer)");
        for (int n = 0; n <= 4; n++) {
            due("no glove, above of " + n, Check.laid("p5,1,0;p9,1,0;").likely(0, n, 0), 1);
            due("no glove, below of " + n, Check.laid("p5,1,0;p9,1,0;").likely(0, n, 1), 1);
            due("one glove, below of " + n, Check.laid("p5,1,0;p9,2,0;g2,5,1;").likely(0, n, 1), n == 0 ? 1 : 3);
        }
        CHECK.sentence("each FIGHT with one who is not OUT");
        GauntletHall hall = Check.laid("p5,10,0;p9,20,0;p8,30,0;g2,5,1;g2,5,2;g2,9,2;");
        hall.wear(1, 2);
        due("the first is of one out", hall.likely(0, 1, 1), 1);
        due("the second is not", hall.likely(0, 2, 1), 3);
        due("one out itself", hall.likely(1, 0, 0), NO);
        due("one out itself, n 5", hall.likely(1, 5, 0), BAD);
    }

    private static void likelyInLowestTerms() {
        CHECK.sentence("by its own MIGHT of both together, all MIGHT as now: how likely it wins all, in lowest terms");
        for (int own = 1; own <= 40; own++) {
            for (int other : new int[] {1, 2, 39, 40}) {
                GauntletHall hall = Check.laid("p5," + own + ",0;p9," + other + ",0;" + "g2,5,1;".repeat(4));
                for (int n = 1; n <= 4; n += 3) {
                    long above = n == 1 ? own : (long) own * own * own * own;
                    int both = own + other;
                    long below = n == 1 ? both : (long) both * both * both * both;
                    for (long by = Math.min(above, both); by > 1; by--) {
                        while (above % by == 0 && below % by == 0) {
                            above /= by;
                            below /= by;
                        }
                    }
                    String fights = n + " of " + own + " with " + other;
                    due("above by " + fights, hall.likely(0, n, 0), above);
                    due("below by " + fights, hall.likely(0, n, 1), below);
                }
            }
        }
    }

    private static final String[] TIMES = {"p8,10,1;p6,12,0;p4,7,1;p9,20,0;p7,5,1;g0,8,3;g1,5,1;g2,4,3;g3,9,1;g0,7,0;",
        "p5,40,1;p6,40,0;", "p5,40,0;p6,30,0;p7,20,0;p8,10,0;p9,1,0;p10,2,1;" + "g0,20,5;".repeat(8)};

    /** A TIME, told by the plain model, which is written apart from the class. */
    private static void dueTime(String text, int takenAway, int z, int n) {
        GauntletHall hall = Check.laid(text);
        PlainHall plain = new PlainHall();
        for (int i = 0; i < text.length(); i++) {
            plain.call("write", text.charAt(i), 0, 0);
        }
        plain.call("lay", 0, 0, 0);
        for (int g = 0; g < takenAway; g++) {
            due("take", hall.take(g), plain.call("take", g, 0, 0));
        }
        for (int what = 0; what <= 2; what++) {
            due("time(" + z + ", " + n + ", " + what + ") of " + text, hall.time(z, n, what),
                plain.call("time", z, n, what));
        }
    }

    private static void timesOfZ() {
        CHECK.sentence("A TIME by z (0 to 9999)");
        for (String text : TIMES) {
            for (int z : new int[] {0, 1, 2, 9998, 9999}) {
                dueTime(text, 0, z, 60);
            }
            due("z -1", Check.laid(text).time(-1, 1, 0), BAD);
            due("z 10000", Check.laid(text).time(10000, 1, 0), BAD);
        }
        // Squares of x are above what an int holds from z 6 on.
        for (int z = 0; z <= 9999; z += 101) {
            dueTime(TIMES[2], 4, z, 60);
        }
    }

    private static void timesOfReigns() {
        CHECK.sentence("A TIME .. of n (1 to 60) REIGNS from now on");
        for (String text : TIMES) {
            for (int n : new int[] {1, 2, 59, 60}) {
                dueTime(text, 0, 77, n);
            }
            due("n 0", Check.laid(text).time(77, 0, 0), BAD);
            due("n 61", Check.laid(text).time(77, 61, 0), BAD);
        }
        for (int n = 1; n <= 60; n++) {
            dueTime(TIMES[2], 8, 5, n);
        }
    }

    private static void thrownInPlaceOfTheLowest() {
        CHECK.sentence("in place of the lowest that lies no more, if there is one (else none is THROWN)");
        // z 0: DRAW is 0 in the first reign: person 0 throws a plain 1.
        GauntletHall hall = Check.laid("p5,4,0;p1,9,1;g0,20,0;g0,20,0;");
        due("all lie: none is thrown, out", hall.time(0, 1, 0), 0);
        due("all lie: none is thrown, lie", hall.time(0, 1, 1), 2);
        due("all lie: none is thrown, might", hall.time(0, 1, 2), 13);
        due("no glove at all", Check.laid("p5,4,0;p1,9,1;").time(0, 1, 1), 0);
        hall.take(1);
        due("thrown, out", hall.time(0, 1, 0), 1);
        due("thrown and taken up, lie", hall.time(0, 1, 1), 1);
        due("thrown, might", hall.time(0, 1, 2), 7);
        hall = Check.laid("p5,4,0;p2,9,1;g0,20,0;g0,20,0;");
        hall.take(0);
        hall.take(1);
        due("thrown for nobody, lie", hall.time(0, 1, 1), 1);
        // The lowest: ahead of glove 1, so that it is the one taken up by person 1, who may take one alone.
        hall = Check.laid("p5,4,0;p1,9,1;p7,8,0;g0,20,0;g2,1,2;g0,20,0;");
        hall.take(0);
        hall.take(2);
        due("the lowest, might", hall.time(0, 1, 2), 7 + 8);
        hall.undo();
        due("the lowest, with one gone", hall.time(0, 1, 2), 7 + 8);
        hall.undo();
        hall.take(2);
        due("behind glove 1, might", hall.time(0, 1, 2), 4 + 5);
        CHECK.sentence("one who is not OUT THROWS");
        hall = Check.laid("p5,1,0;p2,9,0;g0,20,0;g2,5,1;");
        hall.take(0);
        due("one who is not", hall.time(0, 1, 1), 2);
        hall.wear(0, 1);
        due("one who is out", hall.time(0, 1, 1), 0);
    }

    private static void takenAwayTheLowest() {
        CHECK.sentence("if it is 1, the lowest GLOVE that lies there is TAKEN AWAY, if there is one");
        // z 1: DRAW is 11401 in the first reign, by 8 it is 1425, modulo 4 it is 1.
        GauntletHall hall = Check.laid("p5,9,1;p9,4,0;p9,6,0;g2,5,1;g2,5,2;");
        due("the lowest", hall.time(1, 1, 2), 6 + 4);
        due("none lies", hall.time(1, 1, 1), 0);
        hall.take(0);
        due("the lowest that lies", hall.time(1, 1, 2), 19);
        hall.take(1);
        due("none is there", hall.time(1, 1, 1), 0);
        due("none is there, out", hall.time(1, 1, 0), 0);
        due("no glove at all", Check.laid("p5,9,1;p9,4,0;").time(1, 1, 2), 13);
    }

    private static void nothingChangesByATime() {
        CHECK.sentence("(nothing changes by it)");
        GauntletHall hall = keptAndUndone();
        for (int what = 0; what <= 2; what++) {
            hall.time(0, 60, what);
            hall.time(9999, 60, what);
        }
        CHECK.dueText("all", Calls.allOf(hall), Calls.allOf(keptAndUndone()));
    }

    private static GauntletHall keptAndUndone() {
        GauntletHall hall = new GauntletHall();
        hall.write('p');
        hall.seen(0, 0, 1);
        hall.keep();
        hall.hurl(3, 1, 6);
        hall.take(2);
        hall.keep();
        hall.pass(1);
        return hall;
    }

    private static void keptAtMost() {
        CHECK.sentence("KEPT ..: 2 at most");
        GauntletHall hall = new GauntletHall();
        due("none", hall.count(8), 0);
        due("one", hall.keep(), 1);
        hall.pass(1);
        due("two", hall.keep(), 2);
        hall.pass(1);
        due("three", hall.keep(), FULL);
        due("two are kept", hall.count(8), 2);
        due("the reign stays", hall.count(2), 2);
        due("the second", hall.back(), 1);
        due("of reign 1", hall.count(2), 1);
        hall.pass(6);
        due("two again", hall.keep(), 2);
        due("three again", hall.keep(), FULL);
        due("back to the later second", hall.back(), 1);
        due("of reign 7", hall.count(2), 7);
        due("back to the first", hall.back(), 0);
        due("of reign 0", hall.count(2), 0);
        due("no more", hall.back(), NO);
    }

    private static void keptAllButTextAndSeen() {
        CHECK.sentence("KEPT is all as it stands, but THE TEXT and what is SEEN");
        GauntletHall hall = Check.laid("p5,9,1;p9,4,0;p9,6,0;g1,5,1;g3,20,2;g2,5,2;g2,7,2;");
        hall.stretch(0);
        hall.pass(6);
        hall.hurl(1, 2, 3);
        hall.keep();
        String[] kept = {toldOf(hall)};
        hall.stretch(3);
        hall.wipe();
        hall.seen(0, 0, 1);
        hall.hurl(0, 3, 3);
        hall.take(1);
        hall.pass(9);
        due("back", hall.back(), 0);
        CHECK.dueText("all as kept", toldOf(hall), kept[0]);
        due("the text is as it was", hall.count(9), 0);
        due("what is seen is as it was", hall.count(6), 1);
        due("what is seen, glove 0", hall.sizes(0, 0) < 20 ? 1 : 0, 1);
    }

    private static String toldOf(GauntletHall hall) {
        StringBuilder told = new StringBuilder();
        for (int what = 0; what <= 5; what++) {
            told.append(hall.count(what)).append(' ');
        }
        for (int p = 0; p < hall.count(0); p++) {
            told.append(hall.person(p, 0)).append(' ').append(hall.person(p, 1)).append(' ').append(hall.person(p, 2)).append(' ');
        }
        for (int g = 0; g < hall.count(1); g++) {
            for (int what = 0; what <= 4; what++) {
                told.append(hall.glove(g, what)).append(' ');
            }
        }
        return told.toString();
    }

    private static void asKeptLast() {
        CHECK.sentence("As KEPT last (it is KEPT no more then): how many are left; nothing is UNDONE then");
        GauntletHall hall = new GauntletHall();
        due("none", hall.back(), NO);
        due("none, can be undone", hall.count(7), 0);
        hall.pass(1);
        due("none, an act stays", hall.back(), NO);
        due("the act can be undone", hall.count(7), 1);
        hall.keep();
        due("keep is no act", hall.count(7), 1);
        for (int i = 0; i < 8; i++) {
            hall.pass(1);
        }
        due("eight", hall.count(7), 8);
        due("back", hall.back(), 0);
        due("none can be undone", hall.count(7), 0);
        due("undo", hall.undo(), NO);
        due("reign as kept", hall.count(2), 1);
        due("kept no more", hall.count(8), 0);
        due("back again", hall.back(), NO);
        // Eight of room again, none of those ahead of it.
        for (int i = 0; i < 3; i++) {
            hall.pass(1);
        }
        due("three", hall.count(7), 3);
        due("undo to two", hall.undo(), 2);
        due("undo to one", hall.undo(), 1);
        due("undo to none", hall.undo(), 0);
        due("undo no more", hall.undo(), NO);
        due("reign as kept still", hall.count(2), 1);
        // undo and lay: undo leaves what is kept, lay does not.
        hall.keep();
        hall.pass(1);
        hall.undo();
        due("kept behind undo", hall.count(8), 1);
        Check.writeAll(hall, "p1,1,0;p1,1,0;");
        hall.lay();
        due("kept behind lay", hall.back(), NO);
    }

    private static void counted() {
        CHECK.sentence("How many: 0 .. 9");
        GauntletHall hall = keptAndUndone();
        int[] many = {5, 6, 1, 2, 2, 2, 1, 3, 2, 1};
        for (int what = 0; what <= 9; what++) {
            due("count " + what, hall.count(what), many[what]);
        }
        due("count 10", hall.count(10), BAD);
        due("count -1", hall.count(-1), BAD);
    }
}
