/** Each promise by hand: ordinary inputs, the edges that the document names, wrong inputs. */
public final class PromiseTest {
    private static final int BAD = -1, NO = -2, FULL = -3, NONE = -4;
    private static final int LOWEST = Integer.MIN_VALUE, HIGHEST = Integer.MAX_VALUE;
    private static final Check CHECK = new Check();

    public static void main(String[] args) {
        promise01NewObject();
        promise02Write();
        promise03Wipe();
        promise04Fault();
        promise05Lay();
        promise06Person();
        promise07Glove();
        promise08Fits();
        promise09Fight();
        promise10Pass();
        promise11Hurl();
        promise12Take();
        promise13Stretch();
        promise14Wear();
        promise15Undo();
        promise16Behind();
        promise17Lies();
        promise18Last();
        promise19Safe();
        promise20Dare();
        promise21First();
        promise22Ring();
        promise23Seen();
        promise24Forget();
        promise25Hands();
        promise26Kinds();
        promise27Sizes();
        promise28Likely();
        promise29Time();
        promise30Keep();
        promise31Back();
        promise32Count();
        CHECK.finish();
    }

    private static void due(String call, long got, long want) {
        CHECK.due(call, got, want);
    }

    private static void dueCounts(String when, GauntletHall x, int... wants) {
        for (int what = 0; what < wants.length; what++) {
            due(when + " count(" + what + ")", x.count(what), wants[what]);
        }
    }

    private static void promise01NewObject() {
        GauntletHall x = new GauntletHall();
        int[][] people = {{8, 10, 1}, {6, 12, 0}, {4, 7, 1}, {9, 20, 0}, {7, 5, 1}};
        int[][] gloves = {{0, 8, 3}, {1, 5, 1}, {2, 4, 3}, {3, 9, 1}, {0, 7, 0}};
        for (int i = 0; i < 5; i++) {
            for (int what = 0; what < 3; what++) {
                due("new person " + i + "," + what, x.person(i, what), people[i][what]);
                due("new glove " + i + "," + what, x.glove(i, what), gloves[i][what]);
            }
            due("new glove lies " + i, x.glove(i, 3), 1);
            due("new glove lain " + i, x.glove(i, 4), 0);
        }
        dueCounts("new", x, 5, 5, 0, 0, 5, 0, 0, 0, 0, 0);
        due("new fault", x.fault(), NONE);
        due("new lay", x.lay(), NO);
        due("new undo", x.undo(), NO);
        due("new back", x.back(), NO);
    }

    private static void promise02Write() {
        GauntletHall x = new GauntletHall();
        due("write 31", x.write(31), BAD);
        due("write 127", x.write(127), BAD);
        due("write -1", x.write(-1), BAD);
        due("write lowest", x.write(LOWEST), BAD);
        due("write highest", x.write(HIGHEST), BAD);
        due("write 32", x.write(32), 1);
        due("write 126", x.write(126), 2);
        for (int i = 3; i <= 200; i++) {
            due("write to " + i, x.write('p'), i);
        }
        due("write 201st", x.write('p'), FULL);
        due("write bad when full", x.write(31), BAD);
        due("length when full", x.count(9), 200);
    }

    private static void promise03Wipe() {
        GauntletHall x = new GauntletHall();
        due("wipe nothing", x.wipe(), 0);
        Check.writeAll(x, "abc");
        due("wipe", x.wipe(), 3);
        due("length behind wipe", x.count(9), 0);
        due("write behind wipe", x.write('p'), 1);
        due("people behind wipe", x.count(0), 5);
    }

    private static void dueFault(String text, int want) {
        GauntletHall x = new GauntletHall();
        Check.writeAll(x, text);
        due("fault of " + text, x.fault(), want);
        due("length behind fault of " + text, x.count(9), text.length());
        if (want != NONE) {
            due("lay of " + text, x.lay(), NO);
        }
    }

    private static void promise04Fault() {
        dueFault("", NONE);
        dueFault("p1,1,0;", NONE);
        dueFault("p20,40,1;", NONE);
        dueFault("p01,01,01;g00,01,00;", NONE);
        for (String item : new String[] {"p0,1,0;", "p21,1,0;", "p1,0,0;", "p1,41,0;", "p1,1,2;",
            "p001,1,0;", "p1,001,0;", "p1,1,000;", "p,1,0;", "p1,,0;", "p1,1,;", "p1,1;", "p1,1,0", "p1,1,",
            "p1,1", "p1,", "p1", "p", "p1,1,0,", "p1,1,0,1;", "p1;1;0;", "p1,1,0 ;", "p 1,1,0;", "p-1,1,0;",
            "P1,1,0;", "x1,1,0;", ";", ",", " ", "1", "pp1,1,0;", "g0,1,0;", "g", "p1,1,0:", "p1,1,/;"}) {
            dueFault(item, 0);
        }
        for (String item : new String[] {"g4,1,0;", "g0,0,0;", "g0,21,0;", "g0,1,1;", "g0,1,0", "g0,1;", "g,1,0;",
            "G0,1,0;", " p1,1,0;", "p1,1,0", "g0,1,0,", ";"}) {
            dueFault("p3,3,1;" + item, 7);
        }
        dueFault("p3,3,1;g3,20,0;p3,3,1;g0,1,2;p0,0,0;", 22);
        dueFault("p3,3,1;g0,1,1;p3,3,1;", 7);
        GauntletHall x = new GauntletHall();
        Check.writeAll(x, "p1,1,0;p1,1,0;");
        x.wipe();
        Check.writeAll(x, "p1,1,0;p1,1,0");
        due("what was wiped is not read", x.fault(), 7);
        dueFault("p1,1,0;".repeat(6), NONE);
        dueFault("p1,1,0;".repeat(7), 42);
        dueFault("p1,1,0;" + "g0,1,0;".repeat(8), NONE);
        dueFault("p1,1,0;" + "g0,1,0;".repeat(9), 63);
        dueFault("p1,1,0;" + "g0,1,0;".repeat(8) + "p1,1,0;", NONE);
        dueFault("p1,1,0;" + "g0,1,0;".repeat(9) + "x", 63);
    }

    private static void promise05Lay() {
        GauntletHall x = new GauntletHall();
        x.keep();
        x.pass(1);
        x.seen(0, 0, 1);
        Check.writeAll(x, "p5,6,1;");
        due("lay of one person", x.lay(), NO);
        dueCounts("refused lay", x, 5, 5, 1, 2, 2, 2, 1, 1, 1, 7);
        Check.writeAll(x, "p7,8,0;x");
        due("lay with fault", x.lay(), NO);
        dueCounts("refused lay", x, 5, 5, 1, 2, 2, 2, 1, 1, 1, 15);
        x.wipe();
        Check.writeAll(x, "p5,6,1;p7,8,0;g3,9,1;");
        due("lay", x.lay(), 2);
        dueCounts("laid", x, 2, 1, 0, 0, 1, 0, 0, 0, 0, 21);
        due("laid fault", x.fault(), NONE);
        due("laid undo", x.undo(), NO);
        due("laid back", x.back(), NO);
        due("laid hands", x.hands(0, 0), 20);
        due("laid person", x.person(1, 0), 7);
        due("laid glove", x.glove(0, 0), 3);
        due("laid person 2", x.person(2, 0), BAD);
        x.pass(5);
        due("lay again", x.lay(), 2);
        due("lain anew", x.glove(0, 4), 0);
        due("reign anew", x.count(2), 0);
        GauntletHall bare = Check.laid("p1,1,1;p1,1,1;");
        due("no gloves", bare.count(1), 0);
        due("pass without gloves", bare.pass(20), 0);
        due("time without gloves", bare.time(5, 60, 1), 0);
        GauntletHall six = Check.laid("p1,1,1;".repeat(6));
        due("six people", six.count(0), 6);
    }

    private static void promise06Person() {
        GauntletHall x = new GauntletHall();
        due("hand", x.person(3, 0), 9);
        due("might", x.person(3, 1), 20);
        due("stoops not", x.person(3, 2), 0);
        due("stoops", x.person(4, 2), 1);
        for (int wrong : new int[] {-1, 5, 6, LOWEST, HIGHEST}) {
            due("person " + wrong, x.person(wrong, 0), BAD);
        }
        for (int wrong : new int[] {-1, 3, LOWEST, HIGHEST}) {
            due("what " + wrong, x.person(0, wrong), BAD);
        }
        x.pass(1);
        due("might of one out", x.person(0, 1), 0);
        due("hand of one out", x.person(0, 0), 8);
        due("one out stoops", x.person(0, 2), 1);
        due("might lost", x.person(3, 1), 15);
    }

    private static void promise07Glove() {
        GauntletHall x = Check.laid("p20,1,0;p20,1,0;g3,2,0;g1,20,1;g0,7,1;");
        due("kind", x.glove(0, 0), 3);
        due("whose", x.glove(2, 2), 1);
        x.pass(4);
        due("stiff behind 4", x.glove(0, 1), 2);
        due("lain 4", x.glove(0, 4), 4);
        x.pass(1);
        due("stiff behind 5", x.glove(0, 1), 1);
        due("kid behind 5", x.glove(1, 1), 20);
        x.pass(5);
        due("stiff behind 10", x.glove(0, 1), 0);
        x.pass(20);
        due("stiff behind 30", x.glove(0, 1), 0);
        due("lain 30", x.glove(0, 4), 30);
        due("plain behind 30", x.glove(2, 1), 7);
        x.take(0);
        due("taken lies", x.glove(0, 3), 0);
        x.pass(5);
        due("taken lain", x.glove(0, 4), 30);
        due("lying lain", x.glove(1, 4), 35);
        for (int wrong : new int[] {-1, 3, 8, LOWEST, HIGHEST}) {
            due("glove " + wrong, x.glove(wrong, 0), BAD);
        }
        for (int wrong : new int[] {-1, 5, LOWEST, HIGHEST}) {
            due("what " + wrong, x.glove(0, wrong), BAD);
        }
    }

    private static void promise08Fits() {
        int[][] least = {{9, 10}, {9, 11}, {10, 10}, {9, 10}};
        for (int kind = 0; kind < 4; kind++) {
            for (int hand = 1; hand <= 20; hand++) {
                GauntletHall x = Check.laid("p" + hand + ",1,0;p1,1,0;g" + kind + ",10,1;");
                boolean fits = hand >= least[kind][0] && hand <= least[kind][1];
                due("fits kind " + kind + " hand " + hand, x.fits(0, 0), fits ? 1 : 0);
            }
        }
        GauntletHall x = Check.laid("p9,5,0;p9,3,0;p8,4,0;g0,9,0;g3,10,1;");
        due("own", x.fits(0, 0), 0);
        due("another one's", x.fits(0, 1), 1);
        due("smaller stiff not yet", x.fits(1, 2), 0);
        due("stiff fits 9 at 10", x.fits(1, 0), 1);
        x.pass(5);
        due("stiff fits 9 at 9", x.fits(1, 0), 1);
        due("stiff fits 8 at 9", x.fits(1, 2), 1);
        x.pass(5);
        due("stiff no more", x.fits(1, 0), 0);
        due("stiff fits 8 at 8", x.fits(1, 2), 1);
        x.wear(2, 0);
        due("lies not", x.fits(0, 1), 0);
        x = Check.laid("p9,5,0;p9,3,0;p8,4,0;g0,9,0;g0,9,2;g0,9,1;");
        due("fits ahead", x.fits(1, 1), 1);
        x.wear(1, 0);
        due("one out", x.fits(1, 1), 0);
        due("glove of one out", x.fits(2, 0), 1);
        due("bad glove", x.fits(3, 0), BAD);
        due("bad glove -1", x.fits(-1, 0), BAD);
        due("bad person", x.fits(0, 3), BAD);
        due("bad person -1", x.fits(0, -1), BAD);
        due("bad both", x.fits(LOWEST, HIGHEST), BAD);
    }

    private static void promise09Fight() {
        GauntletHall x = Check.laid("p9,5,0;p9,3,0;p8,5,0;g0,9,0;");
        due("it stands", x.fight(0, 1), 1);
        due("other stands", x.fight(1, 0), 0);
        due("neither", x.fight(0, 2), 2);
        due("alike", x.fight(1, 1), BAD);
        due("bad p", x.fight(3, 0), BAD);
        due("bad q", x.fight(0, 3), BAD);
        due("bad -1", x.fight(-1, 0), BAD);
        due("bad q -1", x.fight(0, LOWEST), BAD);
        due("nothing changes", x.person(1, 1), 3);
        x.wear(1, 0);
        due("p out", x.fight(1, 0), NO);
        due("q out", x.fight(0, 1), NO);
        due("alike and out", x.fight(1, 1), BAD);
    }

    private static void promise10Pass() {
        GauntletHall x = new GauntletHall();
        due("pass 0", x.pass(0), BAD);
        due("pass 21", x.pass(21), BAD);
        due("pass -1", x.pass(-1), BAD);
        due("pass highest", x.pass(HIGHEST), BAD);
        due("pass lowest", x.pass(LOWEST), BAD);
        dueCounts("refused", x, 5, 5, 0, 0, 5, 0, 0, 0);
        due("pass 1", x.pass(1), 2);
        dueCounts("passed", x, 5, 5, 1, 2, 2, 2, 0, 1);
        due("lying lain", x.glove(3, 4), 1);
        due("taken up lain", x.glove(0, 4), 0);
        due("pass 6", x.pass(6), 1);
        due("reign", x.count(2), 7);
        // Each person takes one glove a reign, the lowest first; one takes it who comes first.
        x = Check.laid("p5,40,1;p5,30,1;p5,1,0;g0,5,2;g0,5,2;g0,5,2;");
        due("one fight, then none", x.pass(1), 1);
        due("third lies", x.glove(2, 3), 1);
        due("first is taken", x.glove(0, 3), 0);
        due("second is taken", x.glove(1, 3), 0);
        due("might less by 0", x.person(0, 1), 40);
        due("no fight with one out", x.person(1, 1), 30);
        // One who goes out in a reign takes up nothing later in it.
        x = Check.laid("p5,40,1;p6,10,1;p9,1,0;g2,5,1;g2,6,2;");
        due("one fight", x.pass(1), 1);
        due("glove for one out lies", x.glove(1, 3), 1);
        due("less by half", x.person(0, 1), 35);
        // Like might: both are out.
        x = Check.laid("p5,7,1;p6,7,1;g2,5,1;");
        due("both out", x.pass(20), 1);
        due("out", x.count(3), 2);
        // Half is cut: 9 less 7 / 2 is 6.
        x = Check.laid("p5,9,1;p6,7,0;g2,5,1;");
        x.pass(1);
        due("cut", x.person(0, 1), 6);
        x = Check.laid("p5,2,1;p6,1,0;g2,5,1;");
        x.pass(1);
        due("half of 1 is 0", x.person(0, 1), 2);
        x = Check.laid("p5,9,0;p6,7,0;g2,5,1;");
        for (int i = 0; i < 49; i++) {
            x.pass(20);
        }
        due("to 999 too many", x.pass(20), NO);
        due("to 999", x.pass(19), 0);
        due("beyond 999", x.pass(1), NO);
        due("bad ahead of no", x.pass(21), BAD);
        due("reign 999", x.count(2), 999);
        due("behind beyond 999", x.behind(30, 0), 9);
    }

    private static void promise11Hurl() {
        GauntletHall x = new GauntletHall();
        due("hurl", x.hurl(1, 3, 20), 5);
        due("kind", x.glove(5, 0), 3);
        due("size", x.glove(5, 1), 20);
        due("whose", x.glove(5, 2), 1);
        due("lies", x.glove(5, 3), 1);
        due("lain", x.glove(5, 4), 0);
        due("can be undone", x.count(7), 1);
        int[][] wrongs = {{-1, 0, 1}, {5, 0, 1}, {LOWEST, 0, 1}, {0, -1, 1}, {0, 4, 1}, {0, 0, 0}, {0, 0, 21},
            {0, HIGHEST, 1}, {0, 0, HIGHEST}};
        for (int[] wrong : wrongs) {
            due("bad hurl", x.hurl(wrong[0], wrong[1], wrong[2]), BAD);
        }
        due("none thrown", x.count(1), 6);
        due("hurl 1", x.hurl(1, 0, 1), 6);
        x.take(6);
        due("one that lies no more counts", x.hurl(1, 1, 2), 7);
        due("full", x.hurl(1, 1, 2), FULL);
        due("bad ahead of full", x.hurl(1, 4, 2), BAD);
        x.pass(1);
        due("no ahead of full", x.hurl(0, 1, 2), NO);
        due("bad ahead of no", x.hurl(0, 1, 0), BAD);
        due("eight", x.count(1), 8);
    }

    private static void promise12Take() {
        GauntletHall x = new GauntletHall();
        due("take", x.take(2), 4);
        due("lies no more", x.glove(2, 3), 0);
        due("again", x.take(2), NO);
        due("can be undone", x.count(7), 1);
        due("bad", x.take(5), BAD);
        due("bad -1", x.take(-1), BAD);
        due("bad highest", x.take(HIGHEST), BAD);
        due("take 0", x.take(0), 3);
        due("take 1", x.take(1), 2);
        due("take 3", x.take(3), 1);
        due("take 4", x.take(4), 0);
        due("gloves", x.count(1), 5);
    }

    private static void promise13Stretch() {
        GauntletHall x = Check.laid("p5,9,0;p6,7,0;g0,5,0;g1,18,1;g2,5,1;g3,5,1;");
        due("stretch", x.stretch(1), 19);
        due("stretch on", x.stretch(1), 20);
        due("20", x.stretch(1), NO);
        due("size", x.glove(1, 1), 20);
        due("plain", x.stretch(0), NO);
        due("mail", x.stretch(2), NO);
        due("stiff", x.stretch(3), NO);
        due("bad", x.stretch(4), BAD);
        due("bad -1", x.stretch(-1), BAD);
        due("can be undone", x.count(7), 2);
        x.undo();
        x.take(1);
        due("lies not", x.stretch(1), NO);
        due("size again", x.glove(1, 1), 19);
    }

    private static void promise14Wear() {
        GauntletHall x = new GauntletHall();
        due("wear and stand", x.wear(3, 3), 14);
        due("other is out", x.person(1, 1), 0);
        due("lies no more", x.glove(3, 3), 0);
        due("fight told", x.count(5), 1);
        due("no reign", x.count(2), 0);
        due("no lain", x.glove(0, 4), 0);
        due("lies not", x.wear(0, 3), NO);
        due("does not fit", x.wear(3, 4), NO);
        due("own", x.wear(3, 0), NO);
        due("of one out, no fight", x.wear(2, 1), 7);
        due("fights", x.count(5), 1);
        due("wear and fall", x.wear(0, 0), 0);
        due("one out", x.wear(0, 4), NO);
        due("bad p", x.wear(5, 0), BAD);
        due("bad g", x.wear(0, 5), BAD);
        due("bad -1", x.wear(-1, -1), BAD);
        due("can be undone", x.count(7), 3);
        due("might left", x.person(3, 1), 9);
        x = Check.laid("p5,9,0;p6,9,0;g2,5,1;");
        due("like might", x.wear(0, 0), 0);
        due("both out", x.count(3), 2);
    }

    private static void promise15Undo() {
        GauntletHall x = new GauntletHall();
        due("nothing to undo", x.undo(), NO);
        x.hurl(3, 1, 6);
        x.stretch(5);
        x.take(5);
        x.wear(3, 3);
        x.pass(20);
        due("undo pass", x.undo(), 4);
        dueCounts("pass undone", x, 5, 6, 0, 1, 4, 1, 0, 4);
        due("undo wear", x.undo(), 3);
        due("might again", x.person(3, 1), 20);
        due("other again", x.person(1, 1), 12);
        due("fights again", x.count(5), 0);
        due("undo take", x.undo(), 2);
        due("lies again", x.glove(5, 3), 1);
        due("undo stretch", x.undo(), 1);
        due("size again", x.glove(5, 1), 6);
        due("undo hurl", x.undo(), 0);
        due("no glove 5", x.glove(5, 1), BAD);
        due("undo no more", x.undo(), NO);
        for (int i = 1; i <= 10; i++) {
            x.pass(1);
            due("can be undone " + i, x.count(7), Math.min(i, 8));
        }
        for (int i = 7; i >= 0; i--) {
            due("undo to " + i, x.undo(), i);
            due("reign", x.count(2), i + 2);
        }
        due("the last 8 alone", x.undo(), NO);
        due("reign 2", x.count(2), 2);
        x = new GauntletHall();
        x.take(9);
        x.pass(0);
        x.hurl(0, 0, 0);
        x.wear(0, 4);
        x.stretch(0);
        due("refused acts are none", x.count(7), 0);
        x.seen(0, 0, 1);
        x.write('p');
        x.keep();
        due("no acts", x.undo(), NO);
        x.pass(1);
        x.write('1');
        x.seen(1, 1, 1);
        x.undo();
        due("text stays", x.count(9), 2);
        due("seen stays", x.count(6), 2);
        due("kept stays", x.count(8), 1);
    }

    private static void promise16Behind() {
        GauntletHall x = new GauntletHall();
        due("behind 0", x.behind(0, 0), 10);
        due("behind 1 out", x.behind(1, 0), 0);
        due("behind 30", x.behind(30, 1), 7);
        due("bad n", x.behind(-1, 0), BAD);
        due("bad n 31", x.behind(31, 0), BAD);
        due("bad p", x.behind(0, 5), BAD);
        due("bad p -1", x.behind(0, -1), BAD);
        due("bad both", x.behind(HIGHEST, LOWEST), BAD);
        dueCounts("nothing changes", x, 5, 5, 0, 0, 5, 0, 0, 0);
        // Stiff 20 is 15 behind 25 reigns, and fits 14 in the 26th.
        x = Check.laid("p14,9,1;p1,4,0;g3,20,1;");
        due("behind 25", x.behind(25, 1), 4);
        due("behind 26", x.behind(26, 1), 0);
        due("might behind 26", x.behind(26, 0), 7);
        x = Check.laid("p13,9,1;p1,4,0;g3,20,1;");
        due("not in 30", x.behind(30, 1), 4);
        x.pass(1);
        due("in 30 from reign 1", x.behind(30, 1), 0);
    }

    private static void promise17Lies() {
        GauntletHall x = Check.laid("p14,9,1;p1,4,0;g3,20,1;g0,5,1;g0,14,1;");
        due("stiff", x.lies(0), 26);
        due("for nobody", x.lies(1), NONE);
        due("in the first", x.lies(2), 1);
        x.take(1);
        due("lies no more", x.lies(1), 0);
        due("bad", x.lies(3), BAD);
        due("bad -1", x.lies(-1), BAD);
        due("bad lowest", x.lies(LOWEST), BAD);
        x = Check.laid("p13,9,1;p1,4,0;g3,20,1;");
        due("would be 31", x.lies(0), NONE);
        x.pass(1);
        due("is 30", x.lies(0), 30);
    }

    private static void promise18Last() {
        GauntletHall x = new GauntletHall();
        due("last", x.last(), 1 << 1 | 1 << 3);
        due("nothing changes", x.count(2), 0);
        x = Check.laid("p13,9,1;p1,4,0;g3,20,1;");
        due("not in 30", x.last(), 3);
        x.pass(1);
        due("in 30", x.last(), 1);
        x = Check.laid("p5,7,1;p6,7,1;g2,5,1;");
        due("nobody", x.last(), 0);
    }

    private static void promise19Safe() {
        GauntletHall x = new GauntletHall();
        due("how many", x.safe(0, 1, 0), 2);
        due("which", x.safe(0, 1, 1), 9);
        due("none to take", x.safe(1, 30, 0), 0);
        due("no bits", x.safe(1, 30, 1), 0);
        due("bad p", x.safe(5, 1, 0), BAD);
        due("bad p -1", x.safe(-1, 1, 0), BAD);
        due("bad n 0", x.safe(0, 0, 0), BAD);
        due("bad n 31", x.safe(0, 31, 0), BAD);
        due("bad what", x.safe(0, 1, 2), BAD);
        due("bad what -1", x.safe(0, 1, -1), BAD);
        dueCounts("nothing changes", x, 5, 5, 0, 0, 5, 0, 0, 0);
        x.pass(1);
        due("one out", x.safe(0, 30, 0), NONE);
        due("one out which", x.safe(0, 30, 1), NONE);
        // Fewest go ahead of lowest: taking glove 2 away saves as much as 0 and 1 do.
        x = Check.laid("p5,9,1;p6,20,1;p9,30,1;g2,5,1;g2,6,2;g2,9,0;");
        due("person 0 needs", x.safe(0, 1, 0), 2);
        x = Check.laid("p5,10,1;p5,30,1;p9,1,0;g2,5,2;g2,5,0;g0,20,0;g0,20,1;");
        due("person 0 by one", x.safe(0, 1, 0), 1);
        due("person 0 by that", x.safe(0, 1, 1), 2);
        due("one that helps not stays", x.safe(0, 30, 1), 2);
        // Of several of one number the lowest as bits: either of 0 and 1 saves person 0.
        x = Check.laid("p5,7,1;p6,5,0;p7,6,0;g2,5,1;g2,5,2;");
        due("two in a row", x.behind(2, 0), 0);
        due("in one none", x.safe(0, 1, 1), 0);
        due("in two the lowest", x.safe(0, 2, 1), 1);
        // All eight are to be taken away.
        x = Check.laid("p5,1,1;p6,5,0;" + "g2,5,1;".repeat(8));
        due("eight", x.safe(0, 30, 0), 8);
        due("eight as bits", x.safe(0, 30, 1), 255);
        x.take(3);
        due("those that lie", x.safe(0, 30, 1), 247);
    }

    private static void promise20Dare() {
        GauntletHall x = Check.laid("p5,9,0;p8,7,1;p8,7,0;");
        due("plain as large", x.dare(0, 1), 8);
        due("who does not stoop", x.dare(0, 2), NONE);
        due("bad alike", x.dare(1, 1), BAD);
        due("bad p", x.dare(3, 1), BAD);
        due("bad q", x.dare(1, 3), BAD);
        due("bad -1", x.dare(-1, 1), BAD);
        dueCounts("nothing changes", x, 3, 0, 0, 0, 0, 0, 0, 0);
        // The one ahead takes all that fits both, by plain 8 too; plain 9 fits hand 9 and 8.
        x = Check.laid("p5,9,0;p8,7,1;p8,3,1;");
        due("behind one alike", x.dare(0, 2), NONE);
        x = Check.laid("p5,9,0;p9,7,1;p8,3,1;");
        due("plain 8 for 8 alone", x.dare(0, 2), 8);
        x = Check.laid("p5,9,0;p8,7,1;p9,3,1;");
        due("plain 9 is taken by 8", x.dare(0, 2), 10);
        x = Check.laid("p5,9,0;p19,7,1;p20,3,1;");
        due("mail for 20 alone", x.dare(0, 2), 220);
        x = Check.laid("p5,9,0;p20,3,1;p19,7,1;");
        due("plain 20 for 20 first", x.dare(0, 1), 20);
        due("plain 19 for 19", x.dare(0, 2), 19);
        x = Check.laid("p5,1,0;p19,7,1;p20,3,1;p18,9,1;");
        due("20 behind 19", x.dare(0, 2), 220);
        x = Check.laid("p5,1,0;p4,7,1;p6,3,1;p9,9,0;" + "g0,20,3;".repeat(7));
        due("with 7", x.dare(0, 1), 4);
        x.hurl(3, 0, 20);
        due("with 8", x.dare(0, 1), NONE);
        x.take(0);
        due("with 8, one gone", x.dare(0, 1), NONE);
        due("least size", Check.laid("p5,9,0;p1,7,1;").dare(0, 1), 1);
        // Person 1, of 2's hand, takes all until 0 puts it out in the 26th reign; then 2 takes 1's first.
        String stiff = "p14,40,1;p5,20,1;p5,9,1;p15,10,0;g3,20,1;" + "g3,11,1;".repeat(4);
        due("in the 30th", Check.laid(stiff).dare(3, 2), 311);
        due("in the 31st", Check.laid(stiff + "g3,11,1;").dare(3, 2), NONE);
        x = new GauntletHall();
        x.pass(1);
        due("p out", x.dare(0, 3), NO);
        due("q out", x.dare(3, 0), NO);
        due("alike and out", x.dare(0, 0), BAD);
    }

    private static void promise21First() {
        GauntletHall x = Check.laid("p5,20,0;p9,10,0;p9,4,0;p9,5,0;p9,30,0;g2,5,1;g2,5,2;g2,5,3;g2,5,4;g2,9,0;");
        due("which", x.first(0, 0), 1);
        due("how much", x.first(0, 1), 18);
        due("of several the lowest", x.first(1, 0), 4);
        due("falls", x.first(1, 1), 0);
        x.take(1);
        due("which of the others", x.first(0, 0), 2);
        x.wear(4, 4);
        due("one out", x.first(0, 0), NONE);
        x = Check.laid("p5,20,0;p9,40,0;p5,10,0;p5,1,0;g2,5,1;g2,5,2;g2,9,3;");
        x.wear(1, 2);
        due("gloves with one who is there", x.first(0, 0), 1);
        due("might with one who is there", x.first(0, 1), 15);
        due("nothing fits", x.first(1, 0), NONE);
        due("nothing fits how much", x.first(1, 1), NONE);
        due("out", x.first(3, 0), NONE);
        x = Check.laid("p5,20,0;p9,40,0;p6,1,0;p5,2,0;g2,5,2;g2,9,2;g2,5,3;g2,5,2;");
        x.wear(1, 1);
        due("no fight with one out", x.first(0, 1), 20);
        due("of like the lowest", x.first(0, 0), 0);
        x = Check.laid("p5,1,0;p9,1,0;g2,5,1;");
        due("1 with 1", x.first(0, 1), 0);
        x = Check.laid("p5,20,0;p9,40,0;p6,1,0;p5,2,0;");
        due("bad p", x.first(4, 0), BAD);
        due("bad p -1", x.first(-1, 0), BAD);
        due("bad what", x.first(0, 2), BAD);
        due("bad what -1", x.first(0, -1), BAD);
    }

    private static void promise22Ring() {
        GauntletHall x = Check.laid("p2,9,0;p4,9,0;p6,9,0;p8,9,0;p10,9,0;p12,9,0;"
            + "g2,2,1;g2,4,2;g2,6,3;g2,8,4;g2,10,5;g2,12,0;g2,8,2;");
        due("ring of six", x.ring(0), 6);
        due("ring of two", x.ring(2), 2);
        due("ring of two, other", x.ring(3), 2);
        due("not by a shorter ring aside", x.ring(1), 6);
        x.take(5);
        due("no ring", x.ring(0), NONE);
        due("two still", x.ring(3), 2);
        due("bad", x.ring(6), BAD);
        due("bad -1", x.ring(-1), BAD);
        x.wear(2, 2);
        due("out", x.ring(2), NONE);
        x = Check.laid("p2,9,0;p4,9,0;p6,9,0;g2,2,0;g2,2,1;g2,4,2;g2,6,0;");
        due("three", x.ring(1), 3);
        x = Check.laid("p2,9,0;p4,9,0;g2,2,0;");
        due("no ring of one", x.ring(0), NONE);
    }

    private static void promise23Seen() {
        GauntletHall x = new GauntletHall();
        due("bad g", x.seen(5, 0, 0), BAD);
        due("bad g -1", x.seen(-1, 0, 0), BAD);
        due("bad p", x.seen(0, 5, 0), BAD);
        due("bad p -1", x.seen(0, -1, 0), BAD);
        due("bad is", x.seen(0, 0, 2), BAD);
        due("bad is -1", x.seen(0, 0, -1), BAD);
        for (int i = 1; i <= 6; i++) {
            due("seen " + i, x.seen(0, 0, 1), i);
        }
        due("seen 7", x.seen(0, 0, 1), FULL);
        due("bad ahead of full", x.seen(5, 0, 1), BAD);
        due("six", x.count(6), 6);
        due("no act", x.count(7), 0);
    }

    private static void promise24Forget() {
        GauntletHall x = new GauntletHall();
        due("nothing", x.forget(), 0);
        x.seen(0, 0, 1);
        x.seen(0, 0, 0);
        due("no hand at all", x.hands(0, 0), 0);
        due("two", x.forget(), 2);
        due("none is seen", x.count(6), 0);
        due("all hands", x.hands(0, 0), 20);
    }

    private static void promise25Hands() {
        GauntletHall x = Check.laid("p5,9,0;p6,7,0;g0,10,0;g1,10,0;g2,10,0;g3,10,0;g1,20,1;g1,1,1;");
        due("all", x.hands(0, 0), 20);
        due("least of all", x.hands(0, 1), 1);
        x.seen(0, 0, 0);
        due("not plain", x.hands(0, 0), 18);
        x.seen(1, 0, 1);
        due("kid, not plain", x.hands(0, 0), 1);
        due("11", x.hands(0, 1), 11);
        due("another one", x.hands(1, 0), 20);
        x.seen(2, 0, 1);
        due("none", x.hands(0, 0), 0);
        due("none least", x.hands(0, 1), NONE);
        x.forget();
        x.seen(3, 0, 1);
        due("stiff", x.hands(0, 1), 9);
        x.pass(5);
        due("stiff behind 5", x.hands(0, 1), 8);
        due("stiff still two", x.hands(0, 0), 2);
        x.take(3);
        due("lies no more", x.hands(0, 0), 2);
        x.forget();
        x.seen(4, 1, 1);
        due("20 at most", x.hands(1, 0), 2);
        x.forget();
        x.seen(5, 1, 1);
        due("1 at least", x.hands(1, 0), 2);
        due("least is 1", x.hands(1, 1), 1);
        x.stretch(5);
        due("stretched", x.hands(1, 0), 3);
        x.forget();
        x.hurl(0, 2, 7);
        x.seen(6, 1, 1);
        due("7 alone", x.hands(1, 1), 7);
        x.undo();
        due("glove undone is set aside", x.hands(1, 0), 20);
        due("still seen", x.count(6), 1);
        due("bad p", x.hands(2, 0), BAD);
        due("bad p -1", x.hands(-1, 0), BAD);
        due("bad what", x.hands(0, 2), BAD);
        due("bad what -1", x.hands(0, -1), BAD);
        x = new GauntletHall();
        x.wear(3, 3);
        x.seen(0, 1, 1);
        due("of one out", x.hands(1, 1), 7);
    }

    private static void promise26Kinds() {
        GauntletHall x = Check.laid("p9,9,0;p10,7,0;p11,7,0;p8,7,0;g0,10,0;g3,10,1;");
        due("all", x.kinds(0), 15);
        x.seen(0, 1, 1);
        due("as large", x.kinds(0), 15);
        x.seen(0, 0, 1);
        due("one smaller, whose it is", x.kinds(0), 11);
        x.seen(0, 2, 1);
        due("one larger", x.kinds(0), 2);
        x.seen(0, 2, 0);
        due("none", x.kinds(0), 0);
        due("another glove", x.kinds(1), 15);
        x.forget();
        x.pass(5);
        x.seen(1, 3, 1);
        due("stiff alone by reigns lain", x.kinds(1), 8);
        x.forget();
        x.seen(1, 1, 0);
        due("not as large: stiff alone", x.kinds(1), 8);
        x.seen(1, 3, 0);
        due("nothing is left", x.kinds(1), 0);
        due("bad", x.kinds(2), BAD);
        due("bad -1", x.kinds(-1), BAD);
    }

    private static void promise27Sizes() {
        GauntletHall x = Check.laid("p9,9,0;p20,7,0;p1,7,0;g0,10,0;g1,10,1;g2,10,1;g3,10,1;");
        due("all", x.sizes(0, 0), 20);
        due("least of all", x.sizes(0, 1), 1);
        for (int g = 0; g < 4; g++) {
            x.seen(g, 0, 1);
        }
        int[] many = {2, 3, 1, 2};
        int[] least = {9, 8, 9, 9};
        for (int g = 0; g < 4; g++) {
            due("sizes " + g, x.sizes(g, 0), many[g]);
            due("least " + g, x.sizes(g, 1), least[g]);
        }
        x.pass(10);
        due("stiff as told", x.sizes(3, 1), 11);
        due("stiff as told, many", x.sizes(3, 0), 2);
        due("plain", x.sizes(0, 1), 9);
        x.seen(0, 0, 0);
        due("none", x.sizes(0, 0), 0);
        due("none least", x.sizes(0, 1), NONE);
        x.forget();
        x.seen(1, 1, 1);
        due("20 at most", x.sizes(1, 0), 2);
        due("from 19", x.sizes(1, 1), 19);
        x.seen(0, 2, 1);
        due("from 1", x.sizes(0, 1), 1);
        due("bad g", x.sizes(4, 0), BAD);
        due("bad g -1", x.sizes(-1, 0), BAD);
        due("bad what", x.sizes(0, 2), BAD);
        due("bad what -1", x.sizes(0, -1), BAD);
    }

    private static void promise28Likely() {
        GauntletHall x = Check.laid("p5,10,0;p9,20,0;p9,5,0;p9,30,0;g2,5,1;g2,5,2;g2,7,3;g2,5,2;g2,5,3;g2,5,1;g2,9,0;");
        int[][] due = {{1, 1}, {1, 3}, {2, 9}, {4, 27}, {1, 27}};
        for (int n = 0; n <= 4; n++) {
            due("above " + n, x.likely(0, n, 0), due[n][0]);
            due("below " + n, x.likely(0, n, 1), due[n][1]);
        }
        due("nothing changes", x.count(5), 0);
        due("bad p", x.likely(4, 0, 0), BAD);
        due("bad p -1", x.likely(-1, 0, 0), BAD);
        due("bad n", x.likely(0, 5, 0), BAD);
        due("bad n -1", x.likely(0, -1, 0), BAD);
        due("bad part", x.likely(0, 0, 2), BAD);
        due("bad part -1", x.likely(0, 0, -1), BAD);
        x.wear(3, 6);
        due("out", x.likely(0, 0, 0), NO);
        due("bad ahead of no", x.likely(0, 5, 0), BAD);
        // A glove of one who is out is one of the n, without a fight.
        x = Check.laid("p5,10,0;p9,20,0;p8,30,0;g2,5,1;g2,5,2;g2,9,2;");
        x.wear(1, 2);
        due("first without fight", x.likely(0, 1, 1), 1);
        due("second with", x.likely(0, 2, 1), 3);
        x = Check.laid("p5,37,0;p9,40,0;g2,5,1;g2,5,1;g2,5,1;g2,5,1;");
        due("large above", x.likely(0, 4, 0), 1874161);
        due("large below", x.likely(0, 4, 1), 35153041);
    }

    private static void promise29Time() {
        GauntletHall x = new GauntletHall();
        due("bad z", x.time(-1, 1, 0), BAD);
        due("bad z 10000", x.time(10000, 1, 0), BAD);
        due("bad n", x.time(0, 0, 0), BAD);
        due("bad n 61", x.time(0, 61, 0), BAD);
        due("bad what", x.time(0, 1, 3), BAD);
        due("bad what -1", x.time(0, 1, -1), BAD);
        // z 0: x is 1, DRAW is 0: person 0 would throw a plain 1, but there is no glove to replace.
        due("none in place of which", x.time(0, 1, 1), 2);
        due("as a reign alone: out", x.time(0, 1, 0), 2);
        due("as a reign alone: might", x.time(0, 1, 2), 9 + 15 + 5);
        // With glove 4 gone, it becomes a plain 1 of person 0 that nobody fits: it lies.
        x.take(4);
        due("thrown in place", x.time(0, 1, 1), 3);
        x.undo();
        // z 1: x 7920, its square modulo 65521 is 22803, DRAW 11401, by 8 is 1425, modulo 4 is 1:
        // glove 0 goes; person 0 falls to 1 by glove 3, then 1 has 7, as 2 has by glove 1: both are out.
        due("the lowest taken away", x.time(1, 1, 1), 1);
        due("then out", x.time(1, 1, 0), 3);
        due("then might", x.time(1, 1, 2), 20 + 5);
        due("no reign", x.count(2), 0);
        due("no act", x.count(7), 0);
        due("gloves", x.count(1), 5);
        x.wear(0, 0);
        x.take(4);
        // DRAW 0 is of person 0, who is out: nothing is thrown, glove 1 is taken up by person 2.
        due("one out throws not", x.time(0, 1, 1), 2);
        // z 10: DRAW 1504: of person 0 of 2, kind 3, size 12, which hands of 11 and 12 fit.
        for (int hand = 10; hand <= 13; hand++) {
            x = Check.laid("p1,5,0;p" + hand + ",20,1;g0,20,0;g0,20,0;g0,20,0;");
            x.take(1);
            x.take(2);
            boolean fits = hand == 11 || hand == 12;
            due("thrown and taken up: out", x.time(10, 1, 0), fits ? 1 : 0);
            due("thrown and taken up: lie", x.time(10, 1, 1), fits ? 1 : 2);
            due("thrown and taken up: might", x.time(10, 1, 2), fits ? 18 : 25);
        }
        // z 0: DRAWs 0 and 20743: a plain 1 of person 0, then a plain 3 of person 1, which 0 takes up.
        x = Check.laid("p3,5,1;p20,9,0;g0,20,0;g0,20,0;");
        x.take(0);
        x.take(1);
        due("two reigns: out", x.time(0, 2, 0), 1);
        due("two reigns: lie", x.time(0, 2, 1), 1);
        due("two reigns: might", x.time(0, 2, 2), 7);
        // z 4: DRAWs 21867, 22232, 19021: one is taken away, nothing is done, one is taken away.
        x = Check.laid("p3,5,1;p20,9,0;g0,9,0;g0,9,0;g0,9,0;");
        due("one reign", x.time(4, 1, 1), 2);
        due("two reigns", x.time(4, 2, 1), 2);
        due("three reigns", x.time(4, 3, 1), 1);
        due("60 reigns", x.time(4, 60, 0) >= 0 ? 1 : 0, 1);
        // z 9999: DRAW 25651, by 8 is 3206, modulo 4 is 2: nothing is done.
        due("the last z", new GauntletHall().time(9999, 1, 2), 9 + 15 + 5);
    }

    private static void promise30Keep() {
        GauntletHall x = new GauntletHall();
        due("one", x.keep(), 1);
        x.pass(1);
        due("two", x.keep(), 2);
        due("full", x.keep(), FULL);
        due("two are kept", x.count(8), 2);
        due("keep is no act", x.count(7), 1);
        due("undo goes on", x.undo(), 0);
        due("back to the second", x.back(), 1);
        due("reign 1", x.count(2), 1);
        due("keep again", x.keep(), 2);
    }

    private static void promise31Back() {
        GauntletHall x = new GauntletHall();
        due("none", x.back(), NO);
        x.pass(1);
        x.keep();
        x.hurl(3, 0, 3);
        x.seen(5, 3, 1);
        x.write('p');
        x.pass(6);
        due("fights", x.count(5), 3);
        due("back", x.back(), 0);
        dueCounts("back", x, 5, 5, 1, 2, 2, 2, 1, 0, 0, 1);
        due("nothing is undone", x.undo(), NO);
        due("glove not kept is set aside", x.hands(3, 0), 20);
        due("no more", x.back(), NO);
        x.hurl(3, 2, 4);
        due("undo is told anew", x.count(7), 1);
    }

    private static void promise32Count() {
        GauntletHall x = new GauntletHall();
        x.write('p');
        x.write('p');
        x.seen(0, 0, 1);
        x.keep();
        x.hurl(0, 2, 20);
        x.pass(7);
        dueCounts("count", x, 5, 6, 7, 3, 2, 3, 1, 2, 1, 2);
        due("bad", x.count(10), BAD);
        due("bad -1", x.count(-1), BAD);
        due("bad lowest", x.count(LOWEST), BAD);
        due("bad highest", x.count(HIGHEST), BAD);
        x.undo();
        due("fights undone are none", x.count(5), 0);
    }
}
