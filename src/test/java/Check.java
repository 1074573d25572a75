/** What the tests share: each answer is compared with the one that is due, and the wrong ones are counted. */
final class Check {
    private static final int MOST_TOLD = 40;

    private static int asked = 0;
    private static int wrong = 0;
    private static int sentences = 0;
    private static String sentence = "";

    private Check() {
    }

    /** Names the sentence of the document that the next answers are about. */
    static void sentence(String words) {
        sentence = words + ": ";
        sentences++;
    }

    static void due(String call, long got, long want) {
        asked++;
        if (got != want) {
            tell(call + " answered " + got + ", due is " + want);
        }
    }

    static void same(String what, String got, String want) {
        asked++;
        if (!got.equals(want)) {
            tell(what + " is " + got + ", due is " + want);
        }
    }

    /** A broken sentence may give thousands of wrong answers: the first ones of a test tell which it is. */
    private static void tell(String fault) {
        wrong++;
        if (wrong <= MOST_TOLD) {
            System.out.println(sentence + fault);
        }
    }

    static void holds(String what, boolean holds) {
        due(what, holds ? 1 : 0, 1);
    }

    /** Types the text anew and makes a garland of it. */
    static int read(DollGarlands x, String text) {
        x.clearText();
        for (int i = 0; i < text.length(); i++) {
            x.type(text.charAt(i));
        }
        return x.readGarland();
    }

    /** Tells a garland as a text, or "-" if there is none. */
    static String told(DollGarlands x, int garland) {
        StringBuilder text = new StringBuilder();
        int length = x.garland(garland, 0);
        for (int place = 0; place < length; place++) {
            text.append(place == 0 ? "" : ",").append(x.doll(garland, place, 0));
            text.append(x.doll(garland, place, 1) == 1 ? "'" : "");
        }
        return text.length() == 0 ? "-" : text.toString();
    }

    static void garland(DollGarlands x, int garland, String want) {
        same("garland " + garland, told(x, garland), want);
    }

    /** A garland's text of the doll, over and over. */
    static String many(String doll, int times) {
        StringBuilder text = new StringBuilder(doll);
        for (int i = 1; i < times; i++) {
            text.append(',').append(doll);
        }
        return text.toString();
    }

    static void finish() {
        String about = sentences == 0 ? "" : " about " + sentences + " sentences";
        System.out.println(asked + " answers asked" + about + ", " + wrong + " wrong");
        if (wrong != 0 || asked == 0) {
            System.exit(1);
        }
    }
}
