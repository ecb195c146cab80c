/** Counts answers that are not the ones due, and tells them. */
final class Check {
    private int wrong = 0;
    private int looked = 0;
    private String sentence = "";

    /** The document's sentence that the next answers are held against; it is told with those not as due. */
    void sentence(String words) {
        sentence = "[" + words + "] ";
    }

    void due(String call, long got, long want) {
        looked++;
        if (got != want) {
            wrong++;
            System.out.println(sentence + call + " answered " + got + ", due is " + want);
        }
    }

    void dueText(String what, String got, String want) {
        looked++;
        if (!got.equals(want)) {
            wrong++;
            System.out.println(sentence + what + " is " + got + ", due is " + want);
        }
    }

    void finish() {
        System.out.println(wrong == 0 ? looked + " answers as due" : wrong + " answers not as due");
        if (wrong != 0) {
            System.exit(1);
        }
    }

    static void writeAll(GauntletHall hall, String text) {
        for (int i = 0; i < text.length(); i++) {
            hall.write(text.charAt(i));
        }
    }

    static GauntletHall laid(String text) {
        GauntletHall hall = new GauntletHall();
        writeAll(hall, text);
        int people = hall.lay();
        if (people < 0) {
            throw new IllegalStateException("cannot be laid: " + text);
        }
        return hall;
    }
}
