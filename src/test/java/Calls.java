/** Calls by their names, and all that can be told of an object by calls. */
final class Calls {
    private Calls() {
    }

    /** One call by its name; the numbers behind those that it takes are left aside. */
    static int call(GauntletHall hall, String name, int a, int b, int c) {
        return switch (name) {
            case "write" -> hall.write(a);
            case "wipe" -> hall.wipe();
            case "fault" -> hall.fault();
            case "lay" -> hall.lay();
            case "person" -> hall.person(a, b);
            case "glove" -> hall.glove(a, b);
            case "fits" -> hall.fits(a, b);
            case "fight" -> hall.fight(a, b);
            case "pass" -> hall.pass(a);
            case "hurl" -> hall.hurl(a, b, c);
            case "take" -> hall.take(a);
            case "stretch" -> hall.stretch(a);
            case "wear" -> hall.wear(a, b);
            case "undo" -> hall.undo();
            case "behind" -> hall.behind(a, b);
            case "lies" -> hall.lies(a);
            case "last" -> hall.last();
            case "safe" -> hall.safe(a, b, c);
            case "dare" -> hall.dare(a, b);
            case "first" -> hall.first(a, b);
            case "ring" -> hall.ring(a);
            case "seen" -> hall.seen(a, b, c);
            case "forget" -> hall.forget();
            case "hands" -> hall.hands(a, b);
            case "kinds" -> hall.kinds(a);
            case "sizes" -> hall.sizes(a, b);
            case "likely" -> hall.likely(a, b, c);
            case "time" -> hall.time(a, b, c);
            case "keep" -> hall.keep();
            case "back" -> hall.back();
            case "count" -> hall.count(a);
            default -> throw new IllegalStateException(name);
        };
    }

    /**
     * All that can be told, what can be UNDONE and what is KEPT too, so that the object is spent then.
     * It takes 210 calls at most: an object has 512.
     */
    static String allOf(GauntletHall hall) {
        StringBuilder all = new StringBuilder("counts");
        for (int what = 0; what <= 9; what++) {
            all.append(' ').append(hall.count(what));
        }
        all.append(", fault ").append(hall.fault());
        for (int p = 0; p < 6; p++) {
            all.append(", person ").append(p);
            for (int what = 0; what <= 2; what++) {
                all.append(' ').append(hall.person(p, what));
            }
            all.append(" hands ").append(hall.hands(p, 0));
        }
        for (int g = 0; g < 8; g++) {
            all.append(", glove ").append(g);
            for (int what = 0; what <= 4; what++) {
                all.append(' ').append(hall.glove(g, what));
            }
            all.append(" kinds ").append(hall.kinds(g));
        }
        tellEarlier(all, hall, "undo", 8);
        tellEarlier(all, hall, "back", 2);
        return all.toString();
    }

    private static void tellEarlier(StringBuilder all, GauntletHall hall, String way, int most) {
        int left = call(hall, way, 0, 0, 0);
        for (int i = 0; i <= most && left >= 0; i++) {
            all.append(", ").append(way).append(" to ").append(left).append(": gloves ").append(hall.count(1))
                .append(" reign ").append(hall.count(2)).append(" lie ").append(hall.count(4))
                .append(" fights ").append(hall.count(5)).append(" mights");
            for (int p = 0; p < 6; p++) {
                all.append(' ').append(hall.person(p, 1));
            }
            left = call(hall, way, 0, 0, 0);
        }
        all.append(", ").append(way).append(" ends by ").append(left);
    }
}
