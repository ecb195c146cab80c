import java.math.BigInteger;
import java.util.ArrayDeque;
import java.util.ArrayList;
import java.util.Comparator;
import java.util.Deque;
import java.util.List;
import java.util.function.IntPredicate;
import java.util.regex.Matcher;
import java.util.regex.Pattern;
import java.util.stream.IntStream;

/** The document once more, written apart from the class and without regard to speed, to hold it against. */
final class PlainHall {
    private static final int BAD = -1, NO = -2, FULL = -3, NONE = -4;
    private static final Pattern ITEM = Pattern.compile("([pg])(\\d{1,2}),(\\d{1,2}),(\\d{1,2});");

    private record Person(int hand, int might, boolean stoops) {
        Person withMight(int now) {
            return new Person(hand, now, stoops);
        }
    }

    private record Glove(int kind, int size, int of, boolean lies, int lain) {
        Glove gone() {
            return new Glove(kind, size, of, false, lain);
        }

        boolean large(int hand) {
            return switch (kind) {
                case 0 -> hand == size || hand + 1 == size;
                case 1 -> Math.abs(hand - size) <= 1;
                case 2 -> hand == size;
                default -> new Glove(0, size - lain / 5, of, lies, lain).large(hand);
            };
        }
    }

    private record Sight(int glove, int person, int is) {
    }

    private static final class World {
        final List<Person> people = new ArrayList<>();
        final List<Glove> gloves = new ArrayList<>();
        int reign;
        int fights;
        int[] takenBy = new int[8];

        World copy() {
            World copy = new World();
            copy.people.addAll(people);
            copy.gloves.addAll(gloves);
            copy.reign = reign;
            copy.fights = fights;
            copy.takenBy = takenBy.clone();
            return copy;
        }

        int might(int p) {
            return people.get(p).might;
        }

        boolean fits(int g, int p) {
            Glove glove = gloves.get(g);
            return glove.lies && glove.of != p && might(p) != 0 && glove.large(people.get(p).hand);
        }

        void gone(int g) {
            gloves.set(g, gloves.get(g).gone());
        }

        void takeUp(int p, int g) {
            int q = gloves.get(g).of;
            gone(g);
            takenBy[g] = p + 1;
            int mine = might(p);
            int theirs = might(q);
            if (theirs == 0) {
                return;
            }
            fights++;
            people.set(p, people.get(p).withMight(mine > theirs ? Math.max(mine - theirs / 2, 1) : 0));
            people.set(q, people.get(q).withMight(theirs > mine ? Math.max(theirs - mine / 2, 1) : 0));
        }

        void oneReign() {
            for (int p = 0; p < people.size(); p++) {
                if (people.get(p).stoops) {
                    int who = p;
                    IntStream.range(0, gloves.size()).filter(g -> fits(g, who)).findFirst().ifPresent(g -> takeUp(who, g));
                }
            }
            gloves.replaceAll(g -> g.lies ? new Glove(g.kind, g.size, g.of, true, g.lain + 1) : g);
            reign++;
        }

        World behind(int n) {
            World then = copy();
            for (int i = 0; i < n; i++) {
                then.oneReign();
            }
            return then;
        }

        int out() {
            return (int) people.stream().filter(p -> p.might == 0).count();
        }

        int lying() {
            return (int) gloves.stream().filter(g -> g.lies).count();
        }
    }

    private String text = "";
    private World world;
    private final Deque<World> past = new ArrayDeque<>();
    private final Deque<World> kept = new ArrayDeque<>();
    private final List<Sight> sights = new ArrayList<>();

    PlainHall() {
        text = "p8,10,1;p6,12,0;p4,7,1;p9,20,0;p7,5,1;g0,8,3;g1,5,1;g2,4,3;g3,9,1;g0,7,0;";
        lay();
        text = "";
    }

    private boolean noPerson(int p) {
        return p < 0 || p >= world.people.size();
    }

    private boolean noGlove(int g) {
        return g < 0 || g >= world.gloves.size();
    }

    private static boolean not(int number, int from, int to) {
        return number < from || number > to;
    }

    /** One call by its name; the numbers behind those that it takes are left aside. */
    int call(String name, int a, int b, int c) {
        return switch (name) {
            case "write" -> write(a);
            case "wipe" -> wipe();
            case "fault" -> read(new World());
            case "lay" -> lay();
            case "person" -> person(a, b);
            case "glove" -> glove(a, b);
            case "fits" -> noGlove(a) || noPerson(b) ? BAD : world.fits(a, b) ? 1 : 0;
            case "fight" -> fight(a, b);
            case "pass" -> pass(a);
            case "hurl" -> hurl(a, b, c);
            case "take" -> take(a);
            case "stretch" -> stretch(a);
            case "wear" -> wear(a, b);
            case "undo" -> undo();
            case "behind" -> not(a, 0, 30) || noPerson(b) ? BAD : world.behind(a).might(b);
            case "lies" -> lies(a);
            case "last" -> last();
            case "safe" -> safe(a, b, c);
            case "dare" -> dare(a, b);
            case "first" -> first(a, b);
            case "ring" -> noPerson(a) ? BAD : ring(a, a, 0);
            case "seen" -> seen(a, b, c);
            case "forget" -> forget();
            case "hands" -> noPerson(a) || not(b, 0, 1) ? BAD : told(h -> handAgrees(a, h), b);
            case "kinds" -> kinds(a);
            case "sizes" -> sizes(a, b);
            case "likely" -> likely(a, b, c);
            case "time" -> time(a, b, c);
            case "keep" -> keep();
            case "back" -> back();
            case "count" -> count(a);
            default -> throw new IllegalStateException(name);
        };
    }

    private int write(int letter) {
        if (not(letter, 32, 126)) {
            return BAD;
        }
        if (text.length() == 200) {
            return FULL;
        }
        text += (char) letter;
        return text.length();
    }

    private int wipe() {
        int were = text.length();
        text = "";
        return were;
    }

    private int read(World into) {
        Matcher item = ITEM.matcher(text);
        int at = 0;
        while (at < text.length()) {
            item.region(at, text.length());
            if (!item.lookingAt()) {
                return at;
            }
            int x = Integer.parseInt(item.group(2));
            int y = Integer.parseInt(item.group(3));
            int z = Integer.parseInt(item.group(4));
            if (item.group(1).equals("p")) {
                if (not(x, 1, 20) || not(y, 1, 40) || not(z, 0, 1) || into.people.size() == 6) {
                    return at;
                }
                into.people.add(new Person(x, y, z == 1));
            } else {
                if (not(x, 0, 3) || not(y, 1, 20) || z >= into.people.size() || into.gloves.size() == 8) {
                    return at;
                }
                into.gloves.add(new Glove(x, y, z, true, 0));
            }
            at = item.end();
        }
        return NONE;
    }

    private int lay() {
        World next = new World();
        if (read(next) != NONE || next.people.size() < 2) {
            return NO;
        }
        world = next;
        past.clear();
        kept.clear();
        sights.clear();
        return world.people.size();
    }

    private int person(int p, int what) {
        if (noPerson(p) || not(what, 0, 2)) {
            return BAD;
        }
        Person it = world.people.get(p);
        return new int[] {it.hand, it.might, it.stoops ? 1 : 0}[what];
    }

    private int glove(int g, int what) {
        if (noGlove(g) || not(what, 0, 4)) {
            return BAD;
        }
        Glove it = world.gloves.get(g);
        int size = it.kind == 3 ? Math.max(0, it.size - it.lain / 5) : it.size;
        return new int[] {it.kind, size, it.of, it.lies ? 1 : 0, it.lain}[what];
    }

    private int fight(int p, int q) {
        if (noPerson(p) || noPerson(q) || p == q) {
            return BAD;
        }
        if (world.might(p) == 0 || world.might(q) == 0) {
            return NO;
        }
        return new int[] {0, 2, 1}[1 + Integer.compare(world.might(p), world.might(q))];
    }

    private void remember() {
        past.push(world.copy());
        if (past.size() > 8) {
            past.removeLast();
        }
    }

    private int pass(int n) {
        if (not(n, 1, 20)) {
            return BAD;
        }
        if (world.reign + n > 999) {
            return NO;
        }
        remember();
        int before = world.fights;
        world = world.behind(n);
        return world.fights - before;
    }

    private int hurl(int p, int kind, int size) {
        if (noPerson(p) || not(kind, 0, 3) || not(size, 1, 20)) {
            return BAD;
        }
        if (world.might(p) == 0) {
            return NO;
        }
        if (world.gloves.size() == 8) {
            return FULL;
        }
        remember();
        world.gloves.add(new Glove(kind, size, p, true, 0));
        return world.gloves.size() - 1;
    }

    private int take(int g) {
        if (noGlove(g)) {
            return BAD;
        }
        if (!world.gloves.get(g).lies) {
            return NO;
        }
        remember();
        world.gone(g);
        return world.lying();
    }

    private int stretch(int g) {
        if (noGlove(g)) {
            return BAD;
        }
        Glove it = world.gloves.get(g);
        if (it.kind != 1 || !it.lies || it.size == 20) {
            return NO;
        }
        remember();
        world.gloves.set(g, new Glove(1, it.size + 1, it.of, true, it.lain));
        return it.size + 1;
    }

    private int wear(int p, int g) {
        if (noPerson(p) || noGlove(g)) {
            return BAD;
        }
        if (!world.fits(g, p)) {
            return NO;
        }
        remember();
        world.takeUp(p, g);
        return world.might(p);
    }

    private int undo() {
        if (past.isEmpty()) {
            return NO;
        }
        world = past.pop();
        return past.size();
    }

    private int lies(int g) {
        if (noGlove(g)) {
            return BAD;
        }
        return IntStream.rangeClosed(0, 30).filter(n -> !world.behind(n).gloves.get(g).lies).findFirst().orElse(NONE);
    }

    private int last() {
        World then = world.behind(30);
        return IntStream.range(0, then.people.size()).filter(p -> then.might(p) > 0).map(p -> 1 << p).sum();
    }

    private int safe(int p, int n, int what) {
        if (noPerson(p) || not(n, 1, 30) || not(what, 0, 1)) {
            return BAD;
        }
        int best = IntStream.range(0, 1 << world.gloves.size()).filter(bits -> {
            World then = world.copy();
            for (int g = 0; g < world.gloves.size(); g++) {
                if ((bits & 1 << g) != 0) {
                    if (!world.gloves.get(g).lies) {
                        return false;
                    }
                    then.gone(g);
                }
            }
            return then.behind(n).might(p) > 0;
        }).boxed().min(Comparator.comparing((Integer bits) -> Integer.bitCount(bits)).thenComparing(bits -> bits)).orElse(NONE);
        return best == NONE || what == 1 ? best : Integer.bitCount(best);
    }

    private int dare(int p, int q) {
        if (noPerson(p) || noPerson(q) || p == q) {
            return BAD;
        }
        if (world.might(p) == 0 || world.might(q) == 0) {
            return NO;
        }
        int thrown = world.gloves.size();
        if (thrown == 8) {
            return NONE;
        }
        return IntStream.range(0, 80).filter(i -> {
            World then = world.copy();
            then.takenBy = new int[8];
            then.gloves.add(new Glove(i / 20, i % 20 + 1, p, true, 0));
            return then.behind(30).takenBy[thrown] == q + 1;
        }).map(i -> 100 * (i / 20) + i % 20 + 1).findFirst().orElse(NONE);
    }

    private int first(int p, int what) {
        if (noPerson(p) || not(what, 0, 1)) {
            return BAD;
        }
        int which = NONE;
        int most = NONE;
        for (int g = world.gloves.size() - 1; g >= 0; g--) {
            if (world.fits(g, p)) {
                World then = world.copy();
                then.takeUp(p, g);
                if (then.might(p) >= most) {
                    which = g;
                    most = then.might(p);
                }
            }
        }
        return what == 0 ? which : most;
    }

    /** Tries every row of different people from the start on. */
    private int ring(int start, int at, int used) {
        int best = NONE;
        for (int g = 0; g < world.gloves.size(); g++) {
            if (!world.fits(g, at)) {
                continue;
            }
            int next = world.gloves.get(g).of;
            int length = NONE;
            if (next == start) {
                length = 1;
            } else if ((used & 1 << next) == 0) {
                int rest = ring(start, next, used | 1 << at);
                length = rest == NONE ? NONE : rest + 1;
            }
            if (length != NONE && (best == NONE || length < best)) {
                best = length;
            }
        }
        return best;
    }

    private int seen(int g, int p, int is) {
        if (noGlove(g) || noPerson(p) || not(is, 0, 1)) {
            return BAD;
        }
        if (sights.size() == 6) {
            return FULL;
        }
        sights.add(new Sight(g, p, is));
        return sights.size();
    }

    private int forget() {
        int were = sights.size();
        sights.clear();
        return were;
    }

    private boolean handAgrees(int p, int hand) {
        return sights.stream().filter(s -> s.person == p && !noGlove(s.glove))
            .allMatch(s -> world.gloves.get(s.glove).large(hand) == (s.is == 1));
    }

    private boolean gloveAgrees(int g, int kind, int size) {
        Glove other = new Glove(kind, size, 0, true, world.gloves.get(g).lain);
        return sights.stream().filter(s -> s.glove == g)
            .allMatch(s -> other.large(world.people.get(s.person).hand) == (s.is == 1));
    }

    private static int told(IntPredicate agrees, int what) {
        int[] all = IntStream.rangeClosed(1, 20).filter(agrees).toArray();
        return what == 0 ? all.length : all.length == 0 ? NONE : all[0];
    }

    private int kinds(int g) {
        if (noGlove(g)) {
            return BAD;
        }
        return IntStream.range(0, 4).filter(k -> gloveAgrees(g, k, world.gloves.get(g).size)).map(k -> 1 << k).sum();
    }

    private int sizes(int g, int what) {
        if (noGlove(g) || not(what, 0, 1)) {
            return BAD;
        }
        return told(s -> gloveAgrees(g, world.gloves.get(g).kind, s), what);
    }

    private int likely(int p, int n, int part) {
        if (noPerson(p) || not(n, 0, 4) || not(part, 0, 1)) {
            return BAD;
        }
        if (world.might(p) == 0) {
            return NO;
        }
        int[] gloves = IntStream.range(0, world.gloves.size()).filter(g -> world.fits(g, p)).limit(n).toArray();
        BigInteger above = BigInteger.ONE;
        BigInteger below = BigInteger.ONE;
        for (int g : gloves) {
            int other = world.might(world.gloves.get(g).of);
            if (other != 0) {
                above = above.multiply(BigInteger.valueOf(world.might(p)));
                below = below.multiply(BigInteger.valueOf(world.might(p) + other));
            }
        }
        return (part == 0 ? above : below).divide(above.gcd(below)).intValueExact();
    }

    private int time(int z, int n, int what) {
        if (not(z, 0, 9999) || not(n, 1, 60) || not(what, 0, 2)) {
            return BAD;
        }
        World then = world.copy();
        for (int i = 0; i < n; i++) {
            BigInteger x = BigInteger.valueOf(7919L * z + 6151L * i + 1);
            int draw = x.multiply(x).mod(BigInteger.valueOf(65521)).intValue() / 2;
            int p = draw % then.people.size();
            World at = then;
            if ((draw / 8) % 4 == 0 && then.might(p) > 0) {
                IntStream.range(0, then.gloves.size()).filter(g -> !at.gloves.get(g).lies).findFirst().ifPresent(
                    g -> at.gloves.set(g, new Glove((draw / 32) % 4, (draw / 128) % 20 + 1, p, true, 0)));
            } else if ((draw / 8) % 4 == 1) {
                IntStream.range(0, then.gloves.size()).filter(g -> at.gloves.get(g).lies).findFirst().ifPresent(at::gone);
            }
            then.oneReign();
        }
        return new int[] {then.out(), then.lying(), then.people.stream().mapToInt(Person::might).sum()}[what];
    }

    private int keep() {
        if (kept.size() == 2) {
            return FULL;
        }
        kept.push(world.copy());
        return kept.size();
    }

    private int back() {
        if (kept.isEmpty()) {
            return NO;
        }
        world = kept.pop();
        past.clear();
        return kept.size();
    }

    private int count(int what) {
        if (not(what, 0, 9)) {
            return BAD;
        }
        return new int[] {world.people.size(), world.gloves.size(), world.reign, world.out(), world.lying(),
            world.fights, sights.size(), past.size(), kept.size(), text.length()}[what];
    }
}
