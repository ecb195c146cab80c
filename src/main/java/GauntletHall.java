/** A hall in which gloves are thrown down and taken up; ../shared/DOC.md tells its rules. */
public final class GauntletHall {
    public static final int BAD = -1, NO = -2, FULL = -3, NONE = -4;

    private static final int MOST_LETTERS = 200, FIRST_LETTER = 32, LAST_LETTER = 126;
    private static final int MOST_PEOPLE = 6, FEWEST_PEOPLE = 2, MOST_MIGHT = 40;
    private static final int MOST_GLOVES = 8, KINDS = 4, KID = 1, MAIL = 2, STIFF = 3;
    private static final int MOST_SIZE = 20, REIGNS_TO_SHRINK = 5;
    private static final int MOST_REIGN = 999, MOST_AT_ONCE = 20, FARTHEST = 30;
    private static final int MOST_SEEN = 6, MOST_UNDONE = 8, MOST_KEPT = 2;
    private static final int MOST_LIKELY = 4, MOST_Z = 9999, LONGEST_TIME = 60;
    private static final String FIRST_HALL =
        "p8,10,1;p6,12,0;p4,7,1;p9,20,0;p7,5,1;g0,8,3;g1,5,1;g2,4,3;g3,9,1;g0,7,0;";

    private final Scroll text = new Scroll();
    private final Hall hall = new Hall();
    private final Hall draft = new Hall();
    private final Shelf past = new Shelf(MOST_UNDONE);
    private final Shelf kept = new Shelf(MOST_KEPT);
    private final Sightings sightings = new Sightings();
    private final Forecast forecast = new Forecast();

    public GauntletHall() {
        for (int i = 0; i < FIRST_HALL.length(); i++) {
            text.append(FIRST_HALL.charAt(i));
        }
        text.readInto(hall);
        text.length = 0;
    }

    // ---- halls

    public int write(int letter) {
        if (!within(letter, FIRST_LETTER, LAST_LETTER)) {
            return BAD;
        }
        return text.append(letter) ? text.length : FULL;
    }

    public int wipe() {
        int were = text.length;
        text.length = 0;
        return were;
    }

    public int fault() {
        return text.readInto(draft);
    }

    public int lay() {
        if (text.readInto(draft) != NONE || draft.people < FEWEST_PEOPLE) {
            return NO;
        }
        hall.copyFrom(draft);
        past.count = 0;
        kept.count = 0;
        sightings.count = 0;
        return hall.people;
    }

    public int person(int p, int what) {
        if (!hall.isPerson(p)) {
            return BAD;
        }
        switch (what) {
            case 0: return hall.hand[p];
            case 1: return hall.might[p];
            case 2: return hall.stoops[p];
            default: return BAD;
        }
    }

    public int glove(int g, int what) {
        if (!hall.isGlove(g)) {
            return BAD;
        }
        switch (what) {
            case 0: return hall.kind[g];
            case 1: return Math.max(0, sizeByNow(hall.kind[g], hall.size[g], hall.lain[g]));
            case 2: return hall.owner[g];
            case 3: return hall.lies[g];
            case 4: return hall.lain[g];
            default: return BAD;
        }
    }

    public int fits(int g, int p) {
        if (!hall.isGlove(g) || !hall.isPerson(p)) {
            return BAD;
        }
        return hall.canTakeUp(p, g) ? 1 : 0;
    }

    public int fight(int p, int q) {
        if (!hall.isPerson(p) || !hall.isPerson(q) || p == q) {
            return BAD;
        }
        if (hall.isOut(p) || hall.isOut(q)) {
            return NO;
        }
        if (hall.might[p] == hall.might[q]) {
            return 2;
        }
        return hall.might[p] > hall.might[q] ? 1 : 0;
    }

    // ---- acts

    public int pass(int n) {
        if (!within(n, 1, MOST_AT_ONCE)) {
            return BAD;
        }
        if (hall.reign + n > MOST_REIGN) {
            return NO;
        }
        past.put(hall);
        int before = hall.fights;
        for (int i = 0; i < n; i++) {
            hall.reignGoesBy();
        }
        return hall.fights - before;
    }

    public int hurl(int p, int kind, int size) {
        if (!hall.isPerson(p) || !within(kind, 0, KINDS - 1) || !within(size, 1, MOST_SIZE)) {
            return BAD;
        }
        if (hall.isOut(p)) {
            return NO;
        }
        if (hall.gloves >= MOST_GLOVES) {
            return FULL;
        }
        past.put(hall);
        hall.addGlove(kind, size, p);
        return hall.gloves - 1;
    }

    public int take(int g) {
        if (!hall.isGlove(g)) {
            return BAD;
        }
        if (hall.lies[g] == 0) {
            return NO;
        }
        past.put(hall);
        hall.lies[g] = 0;
        return Integer.bitCount(hall.lyingAsBits());
    }

    public int stretch(int g) {
        if (!hall.isGlove(g)) {
            return BAD;
        }
        if (hall.kind[g] != KID || hall.lies[g] == 0 || hall.size[g] >= MOST_SIZE) {
            return NO;
        }
        past.put(hall);
        hall.size[g]++;
        return hall.size[g];
    }

    public int wear(int p, int g) {
        if (!hall.isPerson(p) || !hall.isGlove(g)) {
            return BAD;
        }
        if (!hall.canTakeUp(p, g)) {
            return NO;
        }
        past.put(hall);
        hall.takeUp(p, g);
        return hall.might[p];
    }

    public int undo() {
        return past.bringBack(hall) ? past.count : NO;
    }

    // ---- what comes, what is best

    public int behind(int n, int p) {
        if (!within(n, 0, FARTHEST) || !hall.isPerson(p)) {
            return BAD;
        }
        return forecast.mightBehind(hall, n, p);
    }

    public int lies(int g) {
        return hall.isGlove(g) ? forecast.whenGone(hall, g) : BAD;
    }

    public int last() {
        return forecast.standingAtLast(hall);
    }

    public int safe(int p, int n, int what) {
        if (!hall.isPerson(p) || !within(n, 1, FARTHEST) || !within(what, 0, 1)) {
            return BAD;
        }
        int away = forecast.awayForSafety(hall, p, n);
        return what == 1 || away == NONE ? away : Integer.bitCount(away);
    }

    public int dare(int p, int q) {
        if (!hall.isPerson(p) || !hall.isPerson(q) || p == q) {
            return BAD;
        }
        if (hall.isOut(p) || hall.isOut(q)) {
            return NO;
        }
        return hall.gloves >= MOST_GLOVES ? NONE : forecast.gloveToThrow(hall, p, q);
    }

    public int first(int p, int what) {
        if (!hall.isPerson(p) || !within(what, 0, 1)) {
            return BAD;
        }
        int best = NONE;
        int most = NONE;
        for (int g = 0; g < hall.gloves; g++) {
            if (hall.canTakeUp(p, g) && hall.mightByTaking(p, g) > most) {
                best = g;
                most = hall.mightByTaking(p, g);
            }
        }
        return what == 0 ? best : most;
    }

    public int ring(int p) {
        if (!hall.isPerson(p)) {
            return BAD;
        }
        int reached = 1 << p;
        for (int length = 1; length <= hall.people; length++) {
            reached = hall.ownersWithin(reached);
            if ((reached >> p & 1) == 1) {
                return length;
            }
        }
        return NONE;
    }

    // ---- what was seen

    public int seen(int g, int p, int is) {
        if (!hall.isGlove(g) || !hall.isPerson(p) || !within(is, 0, 1)) {
            return BAD;
        }
        return sightings.add(g, p, is) ? sightings.count : FULL;
    }

    public int forget() {
        int were = sightings.count;
        sightings.count = 0;
        return were;
    }

    public int hands(int p, int what) {
        if (!hall.isPerson(p) || !within(what, 0, 1)) {
            return BAD;
        }
        int many = 0;
        int least = NONE;
        for (int hand = MOST_SIZE; hand >= 1; hand--) {
            if (sightings.allowHand(hall, p, hand)) {
                many++;
                least = hand;
            }
        }
        return what == 0 ? many : least;
    }

    public int kinds(int g) {
        if (!hall.isGlove(g)) {
            return BAD;
        }
        int bits = 0;
        for (int kind = 0; kind < KINDS; kind++) {
            if (sightings.allowGlove(hall, g, kind, hall.size[g])) {
                bits |= 1 << kind;
            }
        }
        return bits;
    }

    public int sizes(int g, int what) {
        if (!hall.isGlove(g) || !within(what, 0, 1)) {
            return BAD;
        }
        int many = 0;
        int least = NONE;
        for (int size = MOST_SIZE; size >= 1; size--) {
            if (sightings.allowGlove(hall, g, hall.kind[g], size)) {
                many++;
                least = size;
            }
        }
        return what == 0 ? many : least;
    }

    // ---- chances, times

    public int likely(int p, int n, int part) {
        if (!hall.isPerson(p) || !within(n, 0, MOST_LIKELY) || !within(part, 0, 1)) {
            return BAD;
        }
        if (hall.isOut(p)) {
            return NO;
        }
        int above = 1;
        int below = 1;
        int taken = 0;
        for (int g = 0; g < hall.gloves && taken < n; g++) {
            if (!hall.canTakeUp(p, g)) {
                continue;
            }
            taken++;
            int other = hall.might[hall.owner[g]];
            if (other > 0) {
                above *= hall.might[p];
                below *= hall.might[p] + other;
            }
        }
        int common = commonDivisor(above, below);
        if (common <= 0) {
            return NO;
        }
        return part == 0 ? above / common : below / common;
    }

    public int time(int z, int n, int what) {
        if (!within(z, 0, MOST_Z) || !within(n, 1, LONGEST_TIME) || !within(what, 0, 2)) {
            return BAD;
        }
        Hall then = forecast.hallBehindDraws(hall, z, n);
        switch (what) {
            case 0: return then.people - Integer.bitCount(then.standingAsBits());
            case 1: return Integer.bitCount(then.lyingAsBits());
            default: return then.mightOfAll();
        }
    }

    // ---- kept

    public int keep() {
        if (kept.count >= MOST_KEPT) {
            return FULL;
        }
        kept.put(hall);
        return kept.count;
    }

    public int back() {
        if (!kept.bringBack(hall)) {
            return NO;
        }
        past.count = 0;
        return kept.count;
    }

    public int count(int what) {
        switch (what) {
            case 0: return hall.people;
            case 1: return hall.gloves;
            case 2: return hall.reign;
            case 3: return hall.people - Integer.bitCount(hall.standingAsBits());
            case 4: return Integer.bitCount(hall.lyingAsBits());
            case 5: return hall.fights;
            case 6: return sightings.count;
            case 7: return past.count;
            case 8: return kept.count;
            case 9: return text.length;
            default: return BAD;
        }
    }

    private static boolean within(int number, int least, int most) {
        return number >= least && number <= most;
    }

    private static int sizeByNow(int kind, int size, int lain) {
        return kind == STIFF ? size - lain / REIGNS_TO_SHRINK : size;
    }

    private static boolean isAsLarge(int kind, int sizeByNow, int hand) {
        int over = hand - sizeByNow;
        if (kind == MAIL) {
            return over == 0;
        }
        return over == 0 || over == -1 || over == 1 && kind == KID;
    }

    private static int mightByFight(int own, int other) {
        return own > other ? Math.max(1, own - other / 2) : 0;
    }

    private static int commonDivisor(int a, int b) {
        int larger = a;
        int smaller = b;
        // An int needs fewer than 50 steps of Euclid's.
        for (int i = 0; i < 100 && smaller != 0; i++) {
            int rest = larger % smaller;
            larger = smaller;
            smaller = rest;
        }
        return larger;
    }

    /** THE TEXT, and how it is read. */
    private static final class Scroll {
        int length = 0;
        private int place = 0;
        private final int[] letters = new int[MOST_LETTERS];
        private final int[] numbers = new int[3];

        boolean append(int letter) {
            if (length >= MOST_LETTERS) {
                return false;
            }
            letters[length] = letter;
            length++;
            return true;
        }

        /** Answers where the first item begins that is not so, or NONE. */
        int readInto(Hall into) {
            into.empty();
            place = 0;
            for (int i = 0; i < MOST_LETTERS && place < length; i++) {
                int start = place;
                if (!readItem(into)) {
                    return start;
                }
            }
            return NONE;
        }

        private boolean readItem(Hall into) {
            boolean isPerson = readSign('p');
            if (!isPerson && !readSign('g')) {
                return false;
            }
            for (int i = 0; i < 3; i++) {
                numbers[i] = readNumber();
                if (numbers[i] < 0 || !readSign(i < 2 ? ',' : ';')) {
                    return false;
                }
            }
            return isPerson
                ? into.addPerson(numbers[0], numbers[1], numbers[2])
                : into.addGlove(numbers[0], numbers[1], numbers[2]);
        }

        private boolean readSign(int sign) {
            if (place >= length || letters[place] != sign) {
                return false;
            }
            place++;
            return true;
        }

        /** Reads one or two figures; BAD if there is none. */
        private int readNumber() {
            int value = BAD;
            for (int i = 0; i < 2 && place < length && within(letters[place], '0', '9'); i++) {
                value = Math.max(value, 0) * 10 + letters[place] - '0';
                place++;
            }
            return value;
        }
    }

    /** People and gloves as they stand at one moment, and how they change. */
    private static final class Hall {
        int people = 0;
        int gloves = 0;
        int reign = 0;
        int fights = 0;
        final int[] hand = new int[MOST_PEOPLE];
        final int[] might = new int[MOST_PEOPLE];
        final int[] stoops = new int[MOST_PEOPLE];
        final int[] kind = new int[MOST_GLOVES];
        final int[] size = new int[MOST_GLOVES];
        final int[] owner = new int[MOST_GLOVES];
        final int[] lies = new int[MOST_GLOVES];
        final int[] lain = new int[MOST_GLOVES];
        final int[] taker = new int[MOST_GLOVES];

        void empty() {
            people = 0;
            gloves = 0;
            reign = 0;
            fights = 0;
        }

        void copyFrom(Hall other) {
            if (other == null) {
                return;
            }
            people = other.people;
            gloves = other.gloves;
            reign = other.reign;
            fights = other.fights;
            System.arraycopy(other.hand, 0, hand, 0, MOST_PEOPLE);
            System.arraycopy(other.might, 0, might, 0, MOST_PEOPLE);
            System.arraycopy(other.stoops, 0, stoops, 0, MOST_PEOPLE);
            System.arraycopy(other.kind, 0, kind, 0, MOST_GLOVES);
            System.arraycopy(other.size, 0, size, 0, MOST_GLOVES);
            System.arraycopy(other.owner, 0, owner, 0, MOST_GLOVES);
            System.arraycopy(other.lies, 0, lies, 0, MOST_GLOVES);
            System.arraycopy(other.lain, 0, lain, 0, MOST_GLOVES);
            System.arraycopy(other.taker, 0, taker, 0, MOST_GLOVES);
        }

        boolean addPerson(int itsHand, int itsMight, int itStoops) {
            if (people >= MOST_PEOPLE || !within(itsHand, 1, MOST_SIZE)
                || !within(itsMight, 1, MOST_MIGHT) || !within(itStoops, 0, 1)) {
                return false;
            }
            hand[people] = itsHand;
            might[people] = itsMight;
            stoops[people] = itStoops;
            people++;
            return true;
        }

        boolean addGlove(int itsKind, int itsSize, int itsOwner) {
            if (gloves >= MOST_GLOVES || !within(itsKind, 0, KINDS - 1)
                || !within(itsSize, 1, MOST_SIZE) || !isPerson(itsOwner)) {
                return false;
            }
            gloves++;
            putGlove(gloves - 1, itsKind, itsSize, itsOwner);
            return true;
        }

        void putGlove(int g, int itsKind, int itsSize, int itsOwner) {
            kind[g] = itsKind;
            size[g] = itsSize;
            owner[g] = itsOwner;
            lies[g] = 1;
            lain[g] = 0;
            taker[g] = NONE;
        }

        boolean isPerson(int p) {
            return within(p, 0, people - 1);
        }

        boolean isGlove(int g) {
            return within(g, 0, gloves - 1);
        }

        boolean isOut(int p) {
            return might[p] == 0;
        }

        boolean canTakeUp(int p, int g) {
            return lies[g] == 1 && owner[g] != p && might[p] > 0
                && isAsLarge(kind[g], sizeByNow(kind[g], size[g], lain[g]), hand[p]);
        }

        int mightByTaking(int p, int g) {
            int other = might[owner[g]];
            return other == 0 ? might[p] : mightByFight(might[p], other);
        }

        void takeUp(int p, int g) {
            int q = owner[g];
            lies[g] = 0;
            taker[g] = p;
            if (might[q] == 0) {
                return;
            }
            int own = might[p];
            int other = might[q];
            might[p] = mightByFight(own, other);
            might[q] = mightByFight(other, own);
            fights++;
        }

        /** Answers whether any further reign could bring what this one did not. */
        boolean reignGoesBy() {
            boolean moving = false;
            for (int p = 0; p < people; p++) {
                int g = stoops[p] == 1 && might[p] > 0 ? lowestFor(p) : NONE;
                if (g != NONE) {
                    takeUp(p, g);
                    moving = true;
                }
            }
            for (int g = 0; g < gloves; g++) {
                if (lies[g] == 1) {
                    lain[g]++;
                    moving = moving || kind[g] == STIFF;
                }
            }
            reign++;
            return moving;
        }

        private int lowestFor(int p) {
            for (int g = 0; g < gloves; g++) {
                if (canTakeUp(p, g)) {
                    return g;
                }
            }
            return NONE;
        }

        int lowestWith(int itLies) {
            for (int g = 0; g < gloves; g++) {
                if (lies[g] == itLies) {
                    return g;
                }
            }
            return NONE;
        }

        void takeAway(int bits) {
            for (int g = 0; g < gloves; g++) {
                if ((bits >> g & 1) == 1) {
                    lies[g] = 0;
                }
            }
        }

        /** Those a glove of whom fits one of the takers (all as bits). */
        int ownersWithin(int takers) {
            int owners = 0;
            for (int p = 0; p < people; p++) {
                for (int g = 0; g < gloves; g++) {
                    if ((takers >> p & 1) == 1 && canTakeUp(p, g)) {
                        owners |= 1 << owner[g];
                    }
                }
            }
            return owners;
        }

        int standingAsBits() {
            int bits = 0;
            for (int p = 0; p < people; p++) {
                if (might[p] > 0) {
                    bits |= 1 << p;
                }
            }
            return bits;
        }

        int lyingAsBits() {
            int bits = 0;
            for (int g = 0; g < gloves; g++) {
                bits |= lies[g] << g;
            }
            return bits;
        }

        int mightOfAll() {
            int sum = 0;
            for (int p = 0; p < people; p++) {
                sum += might[p];
            }
            return sum;
        }
    }

    /** Halls put by, the latest to be brought back first; one too many pushes out the oldest. */
    private static final class Shelf {
        int count = 0;
        private int next = 0;
        private final Hall[] halls;

        Shelf(int room) {
            halls = new Hall[Math.max(1, room)];
            for (int i = 0; i < halls.length; i++) {
                halls[i] = new Hall();
            }
        }

        void put(Hall hall) {
            Hall slot = halls[next];
            if (slot == null) {
                return;
            }
            slot.copyFrom(hall);
            next = next + 1 < halls.length ? next + 1 : 0;
            count = Math.min(count + 1, halls.length);
        }

        boolean bringBack(Hall into) {
            if (count == 0) {
                return false;
            }
            next = next > 0 ? next - 1 : halls.length - 1;
            count--;
            into.copyFrom(halls[next]);
            return true;
        }
    }

    /** What is SEEN, told by numbers alone, so that it is weighed against the hall as it is by then. */
    private static final class Sightings {
        int count = 0;
        private final int[] glove = new int[MOST_SEEN];
        private final int[] person = new int[MOST_SEEN];
        private final int[] fitted = new int[MOST_SEEN];

        boolean add(int g, int p, int is) {
            if (count >= MOST_SEEN) {
                return false;
            }
            glove[count] = g;
            person[count] = p;
            fitted[count] = is;
            count++;
            return true;
        }

        boolean allowHand(Hall hall, int p, int hand) {
            for (int i = 0; i < count; i++) {
                int g = glove[i];
                // A glove may be gone again by undo or back.
                if (person[i] != p || !hall.isGlove(g)) {
                    continue;
                }
                int size = sizeByNow(hall.kind[g], hall.size[g], hall.lain[g]);
                if (isAsLarge(hall.kind[g], size, hand) != (fitted[i] == 1)) {
                    return false;
                }
            }
            return true;
        }

        boolean allowGlove(Hall hall, int g, int kind, int size) {
            for (int i = 0; i < count; i++) {
                int p = person[i];
                if (glove[i] != g || !hall.isPerson(p)) {
                    continue;
                }
                int then = sizeByNow(kind, size, hall.lain[g]);
                if (isAsLarge(kind, then, hall.hand[p]) != (fitted[i] == 1)) {
                    return false;
                }
            }
            return true;
        }
    }

    /** What would come of a hall; it is tried on a copy, so that nothing changes. */
    private static final class Forecast {
        private final Hall ahead = new Hall();

        private void goOn(int reigns) {
            boolean moving = true;
            for (int i = 0; i < reigns && moving; i++) {
                moving = ahead.reignGoesBy();
            }
        }

        int mightBehind(Hall now, int reigns, int p) {
            ahead.copyFrom(now);
            goOn(reigns);
            return ahead.might[p];
        }

        int standingAtLast(Hall now) {
            ahead.copyFrom(now);
            goOn(FARTHEST);
            return ahead.standingAsBits();
        }

        int whenGone(Hall now, int g) {
            ahead.copyFrom(now);
            boolean moving = true;
            for (int i = 0; i <= FARTHEST && moving; i++) {
                if (ahead.lies[g] == 0) {
                    return i;
                }
                moving = ahead.reignGoesBy();
            }
            return NONE;
        }

        int awayForSafety(Hall now, int p, int reigns) {
            int lying = now.lyingAsBits();
            int most = Integer.bitCount(lying);
            for (int many = 0; many <= most; many++) {
                for (int bits = 0; bits <= lying; bits++) {
                    if ((bits & lying) == bits && Integer.bitCount(bits) == many
                        && isSafe(now, bits, p, reigns)) {
                        return bits;
                    }
                }
            }
            return NONE;
        }

        private boolean isSafe(Hall now, int away, int p, int reigns) {
            ahead.copyFrom(now);
            ahead.takeAway(away);
            boolean moving = true;
            for (int i = 0; i < reigns && moving && !ahead.isOut(p); i++) {
                moving = ahead.reignGoesBy();
            }
            return !ahead.isOut(p);
        }

        int gloveToThrow(Hall now, int p, int q) {
            for (int kind = 0; kind < KINDS; kind++) {
                for (int size = 1; size <= MOST_SIZE; size++) {
                    // Most gloves never fit, and need not be tried through all the reigns.
                    if (mayFitInTime(kind, size, now.hand[q]) && isTakenUp(now, kind, size, p, q)) {
                        return 100 * kind + size;
                    }
                }
            }
            return NONE;
        }

        private static boolean mayFitInTime(int kind, int size, int hand) {
            for (int lain = 0; lain < FARTHEST; lain += REIGNS_TO_SHRINK) {
                if (isAsLarge(kind, sizeByNow(kind, size, lain), hand)) {
                    return true;
                }
            }
            return false;
        }

        private boolean isTakenUp(Hall now, int kind, int size, int p, int q) {
            ahead.copyFrom(now);
            int thrown = ahead.gloves;
            if (!ahead.addGlove(kind, size, p)) {
                return false;
            }
            boolean moving = true;
            for (int i = 0; i < FARTHEST && moving && ahead.lies[thrown] == 1; i++) {
                moving = ahead.reignGoesBy();
            }
            return ahead.taker[thrown] == q;
        }

        Hall hallBehindDraws(Hall now, int z, int reigns) {
            ahead.copyFrom(now);
            for (int i = 0; i < reigns; i++) {
                actByDraw(z, i);
                ahead.reignGoesBy();
            }
            return ahead;
        }

        private void actByDraw(int z, int reign) {
            long x = 7919L * z + 6151L * reign + 1;
            int draw = (int) (x * x % 65521 / 2);
            int act = draw / 8 % 4;
            if (act == 0 && ahead.people > 0) {
                throwByDraw(draw, draw % ahead.people);
            }
            if (act == 1) {
                int g = ahead.lowestWith(1);
                if (g != NONE) {
                    ahead.lies[g] = 0;
                }
            }
        }

        private void throwByDraw(int draw, int p) {
            int g = ahead.lowestWith(0);
            if (g != NONE && !ahead.isOut(p)) {
                ahead.putGlove(g, draw / 32 % KINDS, draw / 128 % MOST_SIZE + 1, p);
            }
        }
    }
}
