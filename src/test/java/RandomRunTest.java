import java.util.ArrayList;
import java.util.List;
import java.util.Random;

/** Runs of drawn calls, each answer held against the plain model's. */
public final class RandomRunTest {
    // An object has 512 calls; a text drawn and laid takes 122 at most.
    private static final int RUNS = 400, CALLS = 510, LAST_LAY = CALLS - 122;
    private static final String[] CALLS_BY_NAME = {"write", "wipe", "fault", "lay", "person", "glove", "fits", "fight",
        "pass", "hurl", "take", "stretch", "wear", "undo", "behind", "lies", "last", "safe", "dare", "first", "ring",
        "seen", "forget", "hands", "kinds", "sizes", "likely", "time", "keep", "back", "count"};

    private final Check check;
    private final Random random;
    private final int run;
    private final GauntletHall hall = new GauntletHall();
    private final PlainHall plain = new PlainHall();

    private RandomRunTest(Check check, int run) {
        this.check = check;
        this.run = run;
        this.random = new Random(run);
    }

    public static void main(String[] args) {
        int runs = args.length > 0 ? Integer.parseInt(args[0]) : RUNS;
        Check check = new Check();
        for (int run = 0; run < runs; run++) {
            new RandomRunTest(check, run).go();
        }
        check.finish();
    }

    private void go() {
        int made = 0;
        while (made < CALLS) {
            int draw = random.nextInt(100);
            if (made == 0 && run % 4 != 0 || draw == 0 && made <= LAST_LAY) {
                made += layAnother();
            } else if (draw < 30) {
                made += act();
            } else {
                made += callDrawn(CALLS_BY_NAME[random.nextInt(CALLS_BY_NAME.length)]);
            }
            if (draw % 8 == 1) {
                both("count", random.nextInt(10), 0, 0);
                made++;
            }
        }
    }

    private int act() {
        String[] acts = {"pass", "hurl", "hurl", "take", "stretch", "wear", "wear", "seen"};
        return callDrawn(acts[random.nextInt(acts.length)]);
    }

    private int layAnother() {
        String text = drawText();
        both("wipe", 0, 0, 0);
        for (int i = 0; i < text.length(); i++) {
            both("write", text.charAt(i), 0, 0);
        }
        both("fault", 0, 0, 0);
        both("lay", 0, 0, 0);
        return text.length() + 3;
    }

    /** Hands and sizes lie near one another, so that much fits; now and then one letter is spoilt. */
    private String drawText() {
        int near = 1 + random.nextInt(18);
        int people = 2 + random.nextInt(5);
        List<String> items = new ArrayList<>();
        for (int p = 0; p < people; p++) {
            items.add("p" + Math.min(20, near + random.nextInt(3)) + "," + (1 + random.nextInt(random.nextBoolean() ? 40 : 8))
                + "," + (random.nextInt(3) == 0 ? 0 : 1) + ";");
        }
        int gloves = random.nextInt(9);
        for (int g = 0; g < gloves; g++) {
            items.add("g" + random.nextInt(4) + "," + Math.min(20, near + random.nextInt(6)) + "," + random.nextInt(people) + ";");
        }
        StringBuilder text = new StringBuilder(String.join("", items));
        if (random.nextInt(4) == 0) {
            int at = random.nextInt(text.length());
            String signs = "pg,;0123456789 x";
            char sign = signs.charAt(random.nextInt(signs.length()));
            switch (random.nextInt(3)) {
                case 0 -> text.setCharAt(at, sign);
                case 1 -> text.insert(at, sign);
                default -> text.deleteCharAt(at);
            }
        }
        return text.toString();
    }

    private int callDrawn(String name) {
        int glove = number(8);
        int person = number(6);
        int other = number(6);
        int what = number(name.equals("person") || name.equals("time") ? 3 : name.equals("glove") ? 5 : 2);
        switch (name) {
            case "write" -> both(name, number(128), 0, 0);
            case "lay", "wipe" -> both(random.nextInt(6) == 0 ? name : "fault", 0, 0, 0);
            case "person" -> both(name, person, what, 0);
            case "glove" -> both(name, glove, what, 0);
            case "fits" -> both(name, glove, person, 0);
            case "fight", "dare" -> both(name, person, other, 0);
            case "pass" -> both(name, random.nextInt(3) == 0 ? number(22) : 1 + random.nextInt(3), 0, 0);
            case "hurl" -> both(name, person, number(4), number(21));
            case "take", "stretch", "lies", "kinds" -> both(name, glove, 0, 0);
            case "wear" -> both(name, person, glove, 0);
            case "behind" -> both(name, number(32), person, 0);
            case "safe" -> both(name, person, number(32), what);
            case "first", "hands" -> both(name, person, what, 0);
            case "ring" -> both(name, person, 0, 0);
            case "seen" -> both(name, glove, person, what);
            case "forget" -> both(random.nextInt(3) == 0 ? name : "last", 0, 0, 0);
            case "sizes" -> both(name, glove, what, 0);
            case "likely" -> both(name, person, number(6), what);
            case "time" -> both(name, number(10000), number(62), what);
            case "count" -> both(name, number(11), 0, 0);
            default -> both(name, 0, 0, 0);
        }
        return 1;
    }

    /** From 0 on below a bound, now and then beside it. */
    private int number(int bound) {
        int draw = random.nextInt(40);
        if (draw == 0) {
            return new int[] {-1, bound, bound + 1, Integer.MAX_VALUE, Integer.MIN_VALUE}[random.nextInt(5)];
        }
        return random.nextInt(bound);
    }

    private void both(String name, int a, int b, int c) {
        check.due("run " + run + ": " + name + "(" + a + ", " + b + ", " + c + ")", Calls.call(hall, name, a, b, c),
            plain.call(name, a, b, c));
    }
}
