/** What the tests of the boundaries share: objects that are made in one line, and all that can be told of one. */
final class Tables {
    /** The first numbers that are refused nearly everywhere, and those that wrap round to 0 if they are multiplied. */
    static final int[] FAR = {-1, -2, Integer.MIN_VALUE, Integer.MIN_VALUE + 1, Integer.MAX_VALUE, Integer.MAX_VALUE - 1,
        1 << 16, 1 << 24, 1 << 26, 1 << 27, 1 << 28, 1 << 29, 1 << 30};

    private Tables() {
    }

    /** Makes an object with these garlands, at the numbers 0 and on. */
    static DollGarlands of(String... garlands) {
        return withKinds(3, garlands);
    }

    static DollGarlands withKinds(int kinds, String... garlands) {
        DollGarlands x = new DollGarlands();
        x.setKinds(kinds);
        read(x, garlands);
        return x;
    }

    /** Makes an object whose kinds have no hands, so that any dolls may hang side by side. */
    static DollGarlands withoutHands(int kinds, String... garlands) {
        DollGarlands x = new DollGarlands();
        x.setKinds(kinds);
        for (int kind = 0; kind < kinds; kind++) {
            x.setHands(kind, 0, 0);
        }
        read(x, garlands);
        return x;
    }

    private static void read(DollGarlands x, String... garlands) {
        for (int i = 0; i < garlands.length; i++) {
            Check.due("reading " + garlands[i], Check.read(x, garlands[i]), i);
        }
    }

    /** Turns the text of a garland round. */
    static String turned(String text) {
        StringBuilder turned = new StringBuilder();
        for (String doll : text.split(",")) {
            String mirrored = doll.endsWith("'") ? doll.substring(0, 1) : doll + "'";
            turned.insert(0, turned.length() == 0 ? mirrored : mirrored + ",");
        }
        return turned.toString();
    }

    static String garlands(DollGarlands x) {
        StringBuilder all = new StringBuilder();
        for (int garland = 0; garland < 8; garland++) {
            all.append(Check.told(x, garland)).append(' ');
        }
        return all.toString();
    }

    /** Tells the settings, the hands of the kinds there are, and the garlands. */
    static String state(DollGarlands x) {
        StringBuilder all = new StringBuilder();
        all.append("rule ").append(x.count(4)).append(", kinds ").append(x.count(5)).append(", hands ");
        for (int kind = 0; kind < x.count(5); kind++) {
            all.append(x.kind(kind, 0)).append(x.kind(kind, 1)).append(' ');
        }
        return all.append("garlands ").append(garlands(x)).toString();
    }

    /** Tells the hands of all ten kinds; the number of kinds is put to ten for that, and stays so. */
    static String handsOfAll(DollGarlands x) {
        StringBuilder all = new StringBuilder();
        x.setKinds(10);
        for (int kind = 0; kind < 10; kind++) {
            all.append(x.kind(kind, 0)).append(x.kind(kind, 1)).append(' ');
        }
        return all.toString();
    }

    /** Undoes as often as told, and tells what is found there. */
    static String undone(DollGarlands x, int times) {
        StringBuilder all = new StringBuilder();
        all.append(x.count(8)).append(" states, undone:");
        for (int i = 0; i < times; i++) {
            all.append(' ').append(x.undo());
        }
        return all.append(": ").append(state(x)).toString();
    }

    static String snapshot(DollGarlands x) {
        return x.restore() + ": " + state(x) + ", hands of all " + handsOfAll(x);
    }

    /** Tells what the text reads as, with room for its garland and without hands that could clash. */
    static String text(DollGarlands x) {
        for (int garland = 0; garland < 8; garland++) {
            x.takeAway(garland);
        }
        x.setKinds(10);
        for (int kind = 0; kind < 10; kind++) {
            x.setHands(kind, 0, 0);
        }
        return x.count(9) + " characters: " + x.readGarland() + " " + Check.told(x, 0);
    }
}
