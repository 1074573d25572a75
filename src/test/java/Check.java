/** What the tests share: each answer is compared with the one that is due, and the wrong ones are counted. */
final class Check {
    private static int asked = 0;
    private static int wrong = 0;

    private Check() {
    }

    static void due(String call, long got, long want) {
        asked++;
        if (got != want) {
            wrong++;
            System.out.println(call + " answered " + got + ", due is " + want);
        }
    }

    static void holds(String what, boolean holds) {
        due(what, holds ? 1 : 0, 1);
    }

    /** Types the text anew and makes a garland of it. */
    static int read(DollGarlands x, String text) {
        x.clearText();
        for (int i = 0; i < text.length(); i++) {
            x.type(text.charAt(i));
        }
        return x.readGarland();
    }

    /** Tells a garland as a text, or "-" if there is none. */
    static String told(DollGarlands x, int garland) {
        StringBuilder text = new StringBuilder();
        for (int place = 0; place < x.garland(garland, 0); place++) {
            text.append(place == 0 ? "" : ",").append(x.doll(garland, place, 0));
            text.append(x.doll(garland, place, 1) == 1 ? "'" : "");
        }
        return text.length() == 0 ? "-" : text.toString();
    }

    static void garland(DollGarlands x, int garland, String want) {
        String got = told(x, garland);
        asked++;
        if (!got.equals(want)) {
            wrong++;
            System.out.println("garland " + garland + " is " + got + ", due is " + want);
        }
    }

    /** A garland's text of the doll, over and over. */
    static String many(String doll, int times) {
        StringBuilder text = new StringBuilder(doll);
        for (int i = 1; i < times; i++) {
            text.append(',').append(doll);
        }
        return text.toString();
    }

    static void finish() {
        System.out.println(asked + " answers asked, " + wrong + " wrong");
        if (wrong != 0 || asked == 0) {
            System.exit(1);
        }
    }
}
