import java.util.Arrays;
import java.util.List;
import java.util.function.Supplier;

/** What each call refuses, the last number that it still takes, in which order it refuses, and that nothing changes then. */
public final class RefusedCallTest {
    private static final int BAD = -1, NO = -2, FULL = -3, NONE = -4;
    private static final int PERSON = -100, GLOVE = -101;
    private static final Check CHECK = new Check();

    /** A call with, for each number that it takes, the least and the most, or that it is a PERSON's or a GLOVE's. */
    private record Told(String name, int[]... numbers) {
    }

    private static final int[] P = {PERSON}, G = {GLOVE};
    private static final Told[] CALLS = {
        new Told("write", new int[] {32, 126}),
        new Told("person", P, new int[] {0, 2}),
        new Told("glove", G, new int[] {0, 4}),
        new Told("fits", G, P),
        new Told("fight", P, P),
        new Told("pass", new int[] {1, 20}),
        new Told("hurl", P, new int[] {0, 3}, new int[] {1, 20}),
        new Told("take", G),
        new Told("stretch", G),
        new Told("wear", P, G),
        new Told("behind", new int[] {0, 30}, P),
        new Told("lies", G),
        new Told("safe", P, new int[] {1, 30}, new int[] {0, 1}),
        new Told("dare", P, P),
        new Told("first", P, new int[] {0, 1}),
        new Told("ring", P),
        new Told("seen", G, P, new int[] {0, 1}),
        new Told("hands", P, new int[] {0, 1}),
        new Told("kinds", G),
        new Told("sizes", G, new int[] {0, 1}),
        new Told("likely", P, new int[] {0, 4}, new int[] {0, 1}),
        new Told("time", new int[] {0, 9999}, new int[] {1, 60}, new int[] {0, 2}),
        new Told("count", new int[] {0, 9}),
    };

    public static void main(String[] args) {
        badNumbers();
        alike();
        notAsThingsStand();
        full();
        none();
        inThisOrder();
        CHECK.finish();
    }

    /** The least of people and gloves, those at first, the most; each with something of all that can change. */
    private static List<Supplier<GauntletHall>> halls() {
        return List.of(RefusedCallTest::leastHall, RefusedCallTest::busyHall, RefusedCallTest::mostHall,
            RefusedCallTest::spentHall);
    }

    private static GauntletHall leastHall() {
        return Check.laid("p5,9,1;p6,4,0;");
    }

    private static GauntletHall busyHall() {
        GauntletHall hall = new GauntletHall();
        Check.writeAll(hall, "p1,1,0;p2,2,1;x");
        hall.seen(0, 0, 1);
        hall.seen(1, 2, 0);
        hall.hurl(1, 1, 3);
        hall.keep();
        hall.take(2);
        hall.pass(1);
        hall.stretch(5);
        return hall;
    }

    private static GauntletHall mostHall() {
        GauntletHall hall = Check.laid("p5,9,1;p6,4,0;p7,30,1;p8,20,0;p9,3,0;p10,8,1;"
            + "g0,6,1;g1,9,2;g2,7,3;g3,18,4;g0,20,5;g1,20,0;g2,20,1;g3,20,2;");
        for (int i = 0; i < 5; i++) {
            hall.seen(i, i, i % 2);
        }
        hall.pass(3);
        return hall;
    }

    /** All is full, and in the last reign; somebody is out. */
    private static GauntletHall spentHall() {
        GauntletHall hall = Check.laid("p5,9,1;p6,4,0;p5,30,0;" + "g2,5,1;".repeat(2) + "g1,20,2;".repeat(6));
        for (int i = 0; i < 49; i++) {
            hall.pass(20);
        }
        hall.pass(19);
        for (int i = 0; i < 6; i++) {
            hall.seen(7, i % 3, 1);
        }
        hall.keep();
        hall.keep();
        for (int i = hall.count(9); i < 200; i++) {
            hall.write('x');
        }
        return hall;
    }

    private static String told(String name, int... numbers) {
        StringBuilder told = new StringBuilder(name).append('(');
        for (int i = 0; i < numbers.length; i++) {
            told.append(i == 0 ? "" : ", ").append(numbers[i]);
        }
        return told.append(')').toString();
    }

    private static int call(GauntletHall hall, String name, int... numbers) {
        int[] three = new int[3];
        System.arraycopy(numbers, 0, three, 0, numbers.length);
        return Calls.call(hall, name, three[0], three[1], three[2]);
    }

    /** A call that is refused, on an object made so: the answer, and all is as it is on one without the call. */
    private static void dueRefused(Supplier<GauntletHall> made, int want, String name, int... numbers) {
        GauntletHall hall = made.get();
        String call = told(name, numbers);
        CHECK.due(call, call(hall, name, numbers), want);
        CHECK.dueText("all behind " + call, Calls.allOf(hall), Calls.allOf(made.get()));
    }

    private static int least(int[] number) {
        return number.length == 1 ? 0 : number[0];
    }

    private static int most(int[] number, int people, int gloves) {
        if (number.length == 2) {
            return number[1];
        }
        return number[0] == PERSON ? people - 1 : gloves - 1;
    }

    private static void badNumbers() {
        CHECK.sentence("BAD: a number is none that is told (PERSONS, GLOVES: such as there are)");
        for (Supplier<GauntletHall> made : halls()) {
            int people = made.get().count(0);
            int gloves = made.get().count(1);
            for (Told told : CALLS) {
                int[] usual = usualNumbers(told, people, gloves);
                for (int i = 0; i < usual.length; i++) {
                    int least = least(told.numbers[i]);
                    int most = most(told.numbers[i], people, gloves);
                    for (int wrong : new int[] {least - 1, most + 1, most + 256, Integer.MIN_VALUE, Integer.MAX_VALUE}) {
                        int[] numbers = usual.clone();
                        numbers[i] = wrong;
                        dueRefused(made, BAD, told.name, numbers);
                    }
                    if (allTold(told, usual, people, gloves)) {
                        dueTaken(made, told, usual, i, least);
                        dueTaken(made, told, usual, i, most);
                    }
                }
                int[] wrongs = usual.clone();
                Arrays.fill(wrongs, -1);
                dueRefused(made, BAD, told.name, wrongs);
            }
        }
    }

    /** The last person and glove and the most else: but where two people are told, two that are not alike. */
    private static int[] usualNumbers(Told told, int people, int gloves) {
        int[] usual = new int[told.numbers.length];
        for (int i = 0; i < usual.length; i++) {
            usual[i] = told.numbers[i] == P && i == 1 && told.numbers[0] == P ? 0 : most(told.numbers[i], people, gloves);
        }
        return usual;
    }

    private static boolean allTold(Told told, int[] numbers, int people, int gloves) {
        for (int i = 0; i < numbers.length; i++) {
            if (numbers[i] < least(told.numbers[i]) || numbers[i] > most(told.numbers[i], people, gloves)) {
                return false;
            }
        }
        return true;
    }

    private static void dueTaken(Supplier<GauntletHall> made, Told told, int[] usual, int place, int number) {
        int[] numbers = usual.clone();
        numbers[place] = number;
        boolean twoPeople = numbers.length == 2 && told.numbers[0] == P && told.numbers[1] == P;
        if (twoPeople && numbers[0] == numbers[1]) {
            return;
        }
        CHECK.due(told(told.name, numbers) + " is not BAD", call(made.get(), told.name, numbers) == BAD ? 1 : 0, 0);
    }

    private static void alike() {
        CHECK.sentence("BAD (alike, too)");
        for (Supplier<GauntletHall> made : halls()) {
            int people = made.get().count(0);
            for (int p = 0; p < people; p++) {
                dueRefused(made, BAD, "fight", p, p);
                dueRefused(made, BAD, "dare", p, p);
            }
        }
    }

    private static GauntletHall withActs(String text, int[]... wears) {
        GauntletHall hall = Check.laid(text);
        for (int[] wear : wears) {
            if (hall.wear(wear[0], wear[1]) < 0) {
                throw new IllegalStateException("cannot be put on: " + text);
            }
        }
        return hall;
    }

    private static GauntletHall oneOut() {
        return withActs("p5,1,0;p5,9,0;p5,30,0;g2,5,1;g2,5,2;g2,5,0;g1,20,1;g1,4,1;g0,4,1;g3,4,1;", new int[] {0, 0});
    }

    private static GauntletHall written(String text) {
        GauntletHall hall = busyHall();
        hall.wipe();
        Check.writeAll(hall, text);
        return hall;
    }

    private static void notAsThingsStand() {
        CHECK.sentence("NO: not as things stand .. nothing changes then");
        for (String text : new String[] {"", "p1,1,0;", "p1,1,0;p1,1,2;", "p1,1,0;p1,1,0;g0,1,2;", "p1,1,0;p1,1,0;x"}) {
            dueRefused(() -> written(text), NO, "lay");
        }
        CHECK.sentence("fight, NO: one of them is OUT");
        dueRefused(RefusedCallTest::oneOut, NO, "fight", 0, 1);
        dueRefused(RefusedCallTest::oneOut, NO, "fight", 1, 0);
        CHECK.due("neither is", oneOut().fight(1, 2), 0);
        CHECK.sentence("pass, NO: it would be above 999");
        dueRefused(RefusedCallTest::spentHall, NO, "pass", 1);
        dueRefused(RefusedCallTest::spentHall, NO, "pass", 20);
        CHECK.sentence("hurl, NO: it is OUT");
        dueRefused(RefusedCallTest::oneOut, NO, "hurl", 0, 0, 1);
        CHECK.sentence("take, NO: it does not lie there");
        dueRefused(RefusedCallTest::oneOut, NO, "take", 0);
        dueRefused(RefusedCallTest::busyHall, NO, "take", 2);
        CHECK.sentence("stretch, NO: it is not KID, does not lie there, is 20");
        dueRefused(RefusedCallTest::oneOut, NO, "stretch", 1);
        dueRefused(RefusedCallTest::oneOut, NO, "stretch", 3);
        dueRefused(RefusedCallTest::oneOut, NO, "stretch", 5);
        dueRefused(RefusedCallTest::oneOut, NO, "stretch", 6);
        dueRefused(RefusedCallTest::busyHall, NO, "stretch", 1);
        CHECK.due("kid 4", oneOut().stretch(4), 5);
        CHECK.sentence("wear, NO: it does not lie there, does not FIT");
        dueRefused(RefusedCallTest::oneOut, NO, "wear", 2, 0);
        dueRefused(RefusedCallTest::oneOut, NO, "wear", 2, 5);
        dueRefused(RefusedCallTest::oneOut, NO, "wear", 2, 1);
        dueRefused(RefusedCallTest::oneOut, NO, "wear", 0, 1);
        CHECK.due("one that fits", oneOut().wear(2, 2), 30);
        CHECK.sentence("undo, NO");
        dueRefused(GauntletHall::new, NO, "undo");
        dueRefused(RefusedCallTest::leastHall, NO, "undo");
        CHECK.sentence("dare, NO: one of them is OUT");
        dueRefused(RefusedCallTest::oneOut, NO, "dare", 0, 1);
        dueRefused(RefusedCallTest::oneOut, NO, "dare", 1, 0);
        CHECK.sentence("likely, NO: it is OUT");
        for (int n = 0; n <= 4; n++) {
            dueRefused(RefusedCallTest::oneOut, NO, "likely", 0, n, n % 2);
        }
        CHECK.sentence("back, NO");
        dueRefused(RefusedCallTest::oneOut, NO, "back");
        dueRefused(GauntletHall::new, NO, "back");
    }

    private static void full() {
        CHECK.sentence("FULL .. nothing changes then");
        dueRefused(RefusedCallTest::spentHall, FULL, "write", 'p');
        dueRefused(RefusedCallTest::spentHall, FULL, "write", 32);
        dueRefused(RefusedCallTest::spentHall, FULL, "write", 126);
        dueRefused(RefusedCallTest::spentHall, FULL, "hurl", 2, 0, 1);
        dueRefused(RefusedCallTest::mostHall, FULL, "hurl", 2, 3, 20);
        dueRefused(RefusedCallTest::spentHall, FULL, "seen", 0, 0, 1);
        dueRefused(RefusedCallTest::spentHall, FULL, "keep");
        CHECK.due("a sixth is seen", mostHall().seen(0, 0, 1), 6);
    }

    private static void none() {
        CHECK.sentence("NONE: there is none .. nothing changes then");
        dueRefused(RefusedCallTest::leastHall, NONE, "fault");
        dueRefused(GauntletHall::new, NONE, "fault");
        dueRefused(RefusedCallTest::oneOut, NONE, "lies", 1);
        dueRefused(RefusedCallTest::oneOut, NONE, "safe", 0, 1, 0);
        dueRefused(RefusedCallTest::oneOut, NONE, "safe", 0, 30, 1);
        dueRefused(RefusedCallTest::leastHall, NONE, "dare", 0, 1);
        dueRefused(RefusedCallTest::mostHall, NONE, "dare", 2, 0);
        for (int what = 0; what <= 1; what++) {
            dueRefused(RefusedCallTest::leastHall, NONE, "first", 0, what);
            dueRefused(RefusedCallTest::oneOut, NONE, "first", 0, what);
        }
        dueRefused(RefusedCallTest::leastHall, NONE, "ring", 0);
        dueRefused(RefusedCallTest::oneOut, NONE, "ring", 0);
        dueRefused(RefusedCallTest::bothSeen, NONE, "hands", 0, 1);
        dueRefused(RefusedCallTest::bothSeen, 0, "hands", 0, 0);
        dueRefused(RefusedCallTest::bothSeen, NONE, "sizes", 1, 1);
        dueRefused(RefusedCallTest::bothSeen, 0, "sizes", 1, 0);
        dueRefused(RefusedCallTest::bothSeen, 0, "kinds", 1);
    }

    private static GauntletHall bothSeen() {
        GauntletHall hall = oneOut();
        hall.seen(1, 0, 1);
        hall.seen(1, 0, 0);
        return hall;
    }

    private static GauntletHall oneOutOfEight() {
        GauntletHall hall = oneOut();
        hall.hurl(1, 0, 20);
        return hall;
    }

    private static void inThisOrder() {
        CHECK.sentence("Of several the first in this order (BAD, NO, NONE, FULL)");
        dueRefused(RefusedCallTest::spentHall, BAD, "write", 31);
        dueRefused(RefusedCallTest::spentHall, BAD, "write", 127);
        dueRefused(RefusedCallTest::spentHall, BAD, "pass", 0);
        dueRefused(RefusedCallTest::spentHall, BAD, "pass", 21);
        dueRefused(RefusedCallTest::spentHall, BAD, "seen", 8, 0, 1);
        dueRefused(RefusedCallTest::spentHall, BAD, "seen", 0, 3, 1);
        dueRefused(RefusedCallTest::spentHall, BAD, "seen", 0, 0, 2);
        // Bad, out and eight there are; out and eight there are; eight there are.
        dueRefused(RefusedCallTest::oneOutOfEight, BAD, "hurl", 0, 4, 1);
        dueRefused(RefusedCallTest::oneOutOfEight, BAD, "hurl", 0, 0, 21);
        dueRefused(RefusedCallTest::oneOutOfEight, BAD, "hurl", 0, 0, 0);
        dueRefused(RefusedCallTest::oneOutOfEight, NO, "hurl", 0, 3, 20);
        dueRefused(RefusedCallTest::oneOutOfEight, FULL, "hurl", 1, 3, 20);
        int[][] rows = {{0, 0, BAD}, {0, 3, BAD}, {-1, 0, BAD}, {0, 1, NO}, {1, 0, NO}, {1, 2, NONE}};
        for (int[] row : rows) {
            dueRefused(RefusedCallTest::oneOutOfEight, row[2], "dare", row[0], row[1]);
        }
        dueRefused(RefusedCallTest::oneOut, BAD, "fight", 0, 0);
        dueRefused(RefusedCallTest::oneOut, BAD, "fight", 0, 3);
        dueRefused(RefusedCallTest::oneOut, BAD, "wear", 0, 7);
        dueRefused(RefusedCallTest::oneOut, BAD, "wear", 3, 0);
        dueRefused(RefusedCallTest::oneOut, BAD, "likely", 0, 5, 0);
        dueRefused(RefusedCallTest::oneOut, BAD, "likely", 0, 0, 2);
        dueRefused(RefusedCallTest::oneOut, BAD, "safe", 0, 0, 0);
        dueRefused(RefusedCallTest::oneOut, BAD, "safe", 0, 31, 0);
        dueRefused(RefusedCallTest::oneOut, BAD, "safe", 0, 1, 2);
        dueRefused(RefusedCallTest::oneOut, BAD, "first", 0, 2);
        dueRefused(RefusedCallTest::bothSeen, BAD, "hands", 0, 2);
        dueRefused(RefusedCallTest::bothSeen, BAD, "sizes", 1, 2);
    }
}
