import java.util.ArrayDeque;
import java.util.ArrayList;
import java.util.Deque;
import java.util.HashMap;
import java.util.HashSet;
import java.util.List;
import java.util.Map;
import java.util.Set;
import java.util.TreeMap;
import java.util.regex.Pattern;

/**
 * The document once more, in the plainest words and without a thought for speed: a doll is a text such
 * as 3', a garland a list of them. It shares nothing with the class that is tested, not even the ways
 * in which it counts.
 */
final class Model {
    private static final int UNKNOWN = -1;
    private static final int BAD_VALUE = -2;
    private static final int FULL = -3;
    private static final int NOT_POSSIBLE = -4;
    private static final int NONE = -5;
    private static final Pattern GARLAND = Pattern.compile("([0-9]'?,){0,31}[0-9]'?");
    private static final Pattern BEGINNING = Pattern.compile("([0-9]'?,){0,31}([0-9]'?)?");

    private static final class State {
        private int rule = 0;
        private int kinds = 3;
        private final int[] left = new int[10];
        private final int[] right = new int[10];
        private final TreeMap<Integer, List<String>> garlands = new TreeMap<>();

        private State copy() {
            State copy = new State();
            copy.rule = rule;
            copy.kinds = kinds;
            System.arraycopy(left, 0, copy.left, 0, 10);
            System.arraycopy(right, 0, copy.right, 0, 10);
            for (Map.Entry<Integer, List<String>> each : garlands.entrySet()) {
                copy.garlands.put(each.getKey(), new ArrayList<>(each.getValue()));
            }
            return copy;
        }
    }

    private State now = new State();
    private State snapshot = null;
    private final Deque<State> history = new ArrayDeque<>();
    private final StringBuilder text = new StringBuilder();

    Model() {
        for (int kind = 0; kind < 10; kind++) {
            now.left[kind] = kind % 6;
            now.right[kind] = (kind + 1) % 6;
        }
    }

    int kinds() {
        return now.kinds;
    }

    String text() {
        return text.toString();
    }

    private static boolean mirrored(String doll) {
        return doll.endsWith("'");
    }

    private static int kindOf(String doll) {
        return doll.charAt(0) - '0';
    }

    private static String mirror(String doll) {
        return mirrored(doll) ? doll.substring(0, 1) : doll + "'";
    }

    private static List<String> turned(List<String> dolls) {
        List<String> turned = new ArrayList<>();
        for (String doll : dolls) {
            turned.add(0, mirror(doll));
        }
        return turned;
    }

    private static int leftHand(State state, String doll) {
        return (mirrored(doll) ? state.right : state.left)[kindOf(doll)];
    }

    private static int rightHand(State state, String doll) {
        return (mirrored(doll) ? state.left : state.right)[kindOf(doll)];
    }

    private static boolean clash(State state, String doll, String next) {
        int right = rightHand(state, doll);
        int left = leftHand(state, next);
        if (right == 0 || left == 0) {
            return false;
        }
        if (state.rule == 0) {
            return right == left && (mirrored(doll) ^ mirrored(next));
        }
        return state.rule == 1 ? right == left : right != left;
    }

    private static boolean hangs(State state, List<String> dolls) {
        for (int i = 0; i + 1 < dolls.size(); i++) {
            if (clash(state, dolls.get(i), dolls.get(i + 1))) {
                return false;
            }
        }
        return true;
    }

    private static boolean allHang(State state) {
        for (List<String> dolls : state.garlands.values()) {
            if (!hangs(state, dolls)) {
                return false;
            }
        }
        return true;
    }

    private void become(State next) {
        history.addLast(now);
        if (history.size() > 4) {
            history.removeFirst();
        }
        now = next;
    }

    private boolean isKind(int kind) {
        return kind >= 0 && kind < now.kinds;
    }

    private List<String> of(int garland) {
        return now.garlands.get(garland);
    }

    private int makeNew(State next, List<String> dolls) {
        int number = 0;
        while (next.garlands.containsKey(number)) {
            number++;
        }
        next.garlands.put(number, new ArrayList<>(dolls));
        return number;
    }

    int setHands(int kind, int left, int right) {
        if (!isKind(kind)) {
            return UNKNOWN;
        }
        if (left < 0 || left > 5 || right < 0 || right > 5) {
            return BAD_VALUE;
        }
        State next = now.copy();
        next.left[kind] = left;
        next.right[kind] = right;
        if (!allHang(next)) {
            return NOT_POSSIBLE;
        }
        int before = 10 * now.left[kind] + now.right[kind];
        if (before == 10 * left + right) {
            return NONE;
        }
        become(next);
        return before;
    }

    int setRule(int rule) {
        if (rule < 0 || rule > 2) {
            return BAD_VALUE;
        }
        State next = now.copy();
        next.rule = rule;
        if (!allHang(next)) {
            return NOT_POSSIBLE;
        }
        int before = now.rule;
        if (before == rule) {
            return NONE;
        }
        become(next);
        return before;
    }

    int setKinds(int kinds) {
        if (kinds < 1 || kinds > 10) {
            return BAD_VALUE;
        }
        for (List<String> dolls : now.garlands.values()) {
            for (String doll : dolls) {
                if (kindOf(doll) >= kinds) {
                    return NOT_POSSIBLE;
                }
            }
        }
        int before = now.kinds;
        if (before == kinds) {
            return NONE;
        }
        State next = now.copy();
        next.kinds = kinds;
        become(next);
        return before;
    }

    int cutDoll(int kind, boolean mirrored) {
        if (!isKind(kind)) {
            return UNKNOWN;
        }
        if (now.garlands.size() == 8) {
            return FULL;
        }
        State next = now.copy();
        int number = makeNew(next, List.of(kind + (mirrored ? "'" : "")));
        become(next);
        return number;
    }

    int join(int garland, int other) {
        if (of(garland) == null || of(other) == null) {
            return UNKNOWN;
        }
        if (garland == other) {
            return BAD_VALUE;
        }
        List<String> joined = new ArrayList<>(of(garland));
        joined.addAll(of(other));
        if (!hangs(now, joined)) {
            return NOT_POSSIBLE;
        }
        if (joined.size() > 32) {
            return FULL;
        }
        State next = now.copy();
        next.garlands.put(garland, joined);
        next.garlands.remove(other);
        become(next);
        return joined.size();
    }

    int cutApart(int garland, int place) {
        List<String> dolls = of(garland);
        if (dolls == null) {
            return UNKNOWN;
        }
        if (place < 1 || place > dolls.size() - 1) {
            return BAD_VALUE;
        }
        if (now.garlands.size() == 8) {
            return FULL;
        }
        State next = now.copy();
        int number = makeNew(next, dolls.subList(place, dolls.size()));
        next.garlands.put(garland, new ArrayList<>(dolls.subList(0, place)));
        become(next);
        return number;
    }

    int turn(int garland) {
        List<String> dolls = of(garland);
        if (dolls == null) {
            return UNKNOWN;
        }
        if (turned(dolls).equals(dolls)) {
            return NONE;
        }
        State next = now.copy();
        next.garlands.put(garland, turned(dolls));
        become(next);
        return garland(garland, 3);
    }

    int fold(int garland) {
        if (of(garland) == null) {
            return UNKNOWN;
        }
        List<String> folded = new ArrayList<>(of(garland));
        folded.addAll(turned(of(garland)));
        if (!hangs(now, folded)) {
            return NOT_POSSIBLE;
        }
        if (folded.size() > 32) {
            return FULL;
        }
        State next = now.copy();
        next.garlands.put(garland, folded);
        become(next);
        return folded.size();
    }

    int takeAway(int garland) {
        if (of(garland) == null) {
            return UNKNOWN;
        }
        int size = of(garland).size();
        State next = now.copy();
        next.garlands.remove(garland);
        become(next);
        return size;
    }

    int type(char character) {
        if (text.length() == 80) {
            return FULL;
        }
        text.append(character);
        return text.length();
    }

    int clearText() {
        int before = text.length();
        text.setLength(0);
        return before;
    }

    int readGarland() {
        for (int end = 1; end <= text.length(); end++) {
            if (!BEGINNING.matcher(text.substring(0, end)).matches()) {
                return -100 - (end - 1);
            }
        }
        if (!GARLAND.matcher(text).matches()) {
            return -100 - text.length();
        }
        List<String> dolls = List.of(text.toString().split(","));
        for (String doll : dolls) {
            if (!isKind(kindOf(doll))) {
                return UNKNOWN;
            }
        }
        if (!hangs(now, dolls)) {
            return NOT_POSSIBLE;
        }
        if (now.garlands.size() == 8) {
            return FULL;
        }
        State next = now.copy();
        int number = makeNew(next, dolls);
        become(next);
        return number;
    }

    int undo() {
        if (history.isEmpty()) {
            return NONE;
        }
        now = history.removeLast();
        return history.size();
    }

    int keep() {
        snapshot = now.copy();
        return now.garlands.size();
    }

    int restore() {
        if (snapshot == null) {
            return NONE;
        }
        become(snapshot.copy());
        return now.garlands.size();
    }

    private List<String> allDolls() {
        List<String> all = new ArrayList<>();
        for (List<String> dolls : now.garlands.values()) {
            all.addAll(dolls);
        }
        return all;
    }

    private static int howMany(List<String> dolls, String pattern) {
        return (int) dolls.stream().filter(doll -> doll.matches(pattern)).count();
    }

    int kind(int kind, int what) {
        if (!isKind(kind)) {
            return UNKNOWN;
        }
        int[] told = {now.left[kind], now.right[kind], howMany(allDolls(), kind + "'?"),
            howMany(allDolls(), kind + "'"), now.left[kind] == now.right[kind] ? 1 : 0};
        return what < 0 || what >= told.length ? BAD_VALUE : told[what];
    }

    private static int repeat(List<String> dolls) {
        for (int step = 1; step < dolls.size(); step++) {
            if (dolls.subList(step, dolls.size()).equals(dolls.subList(0, dolls.size() - step))) {
                return step;
            }
        }
        return dolls.size();
    }

    private int lowestLike(List<String> dolls) {
        for (Map.Entry<Integer, List<String>> each : now.garlands.entrySet()) {
            if (each.getValue().equals(dolls) || turned(each.getValue()).equals(dolls)) {
                return each.getKey();
            }
        }
        throw new IllegalStateException();
    }

    int garland(int garland, int what) {
        List<String> dolls = of(garland);
        if (dolls == null) {
            return UNKNOWN;
        }
        int kinds = 0;
        for (int kind = 0; kind < 10; kind++) {
            kinds += howMany(dolls, kind + "'?") > 0 ? (int) Math.pow(2, kind) : 0;
        }
        int[] told = {dolls.size(), leftHand(now, dolls.get(0)), rightHand(now, dolls.get(dolls.size() - 1)),
            howMany(dolls, ".'"), kinds, turned(dolls).equals(dolls) ? 1 : 0, repeat(dolls), lowestLike(dolls)};
        return what < 0 || what >= told.length ? BAD_VALUE : told[what];
    }

    int doll(int garland, int place, int what) {
        if (of(garland) == null || place < 0 || place >= of(garland).size()) {
            return UNKNOWN;
        }
        String doll = of(garland).get(place);
        int[] told = {kindOf(doll), mirrored(doll) ? 1 : 0, leftHand(now, doll), rightHand(now, doll)};
        return what < 0 || what >= told.length ? BAD_VALUE : told[what];
    }

    int reason(int garland, int other) {
        if (of(garland) == null || of(other) == null) {
            return UNKNOWN;
        }
        if (garland == other) {
            return 1;
        }
        List<String> joined = new ArrayList<>(of(garland));
        joined.addAll(of(other));
        return !hangs(now, joined) ? 2 : joined.size() > 32 ? 3 : 0;
    }

    private List<String> dollsToCut() {
        List<String> dolls = new ArrayList<>();
        for (int kind = 0; kind < now.kinds; kind++) {
            dolls.add(String.valueOf(kind));
            dolls.add(kind + "'");
        }
        return dolls;
    }

    int between(int garland, int other) {
        if (of(garland) == null || of(other) == null) {
            return UNKNOWN;
        }
        String first = of(other).get(0);
        Set<String> ends = new HashSet<>();
        ends.add(of(garland).get(of(garland).size() - 1));
        for (int dolls = 0; dolls <= 40; dolls++) {
            Set<String> next = new HashSet<>();
            for (String end : ends) {
                if (!clash(now, end, first)) {
                    return dolls;
                }
                for (String doll : dollsToCut()) {
                    if (!clash(now, end, doll)) {
                        next.add(doll);
                    }
                }
            }
            ends = next;
        }
        return NONE;
    }

    private int waysOn(String last, int more, Map<String, Integer> known) {
        if (more == 0) {
            return 1;
        }
        Integer ready = known.get(last + more);
        if (ready != null) {
            return ready;
        }
        int ways = 0;
        for (String doll : dollsToCut()) {
            ways += last.isEmpty() || !clash(now, last, doll) ? waysOn(doll, more - 1, known) : 0;
        }
        known.put(last + more, ways);
        return ways;
    }

    private int ownOn(List<String> half, int length) {
        if (2 * half.size() == length) {
            List<String> whole = new ArrayList<>(half);
            whole.addAll(turned(half));
            return hangs(now, whole) && turned(whole).equals(whole) ? 1 : 0;
        }
        int own = 0;
        for (String doll : dollsToCut()) {
            half.add(doll);
            own += ownOn(half, length);
            half.remove(half.size() - 1);
        }
        return own;
    }

    int ways(int length, int what) {
        if (length < 1 || length > 6 || what < 0 || what > 2) {
            return BAD_VALUE;
        }
        int all = what == 1 ? 0 : waysOn("", length, new HashMap<>());
        int own = what == 0 || length % 2 == 1 ? 0 : ownOn(new ArrayList<>(), length);
        return what == 0 ? all : what == 1 ? own : own + (all - own) / 2;
    }

    int longest() {
        int longest = NONE;
        for (int garland : now.garlands.keySet()) {
            if (longest == NONE || of(garland).size() > of(longest).size()) {
                longest = garland;
            }
        }
        return longest;
    }

    private int meetings() {
        int meetings = 0;
        for (List<String> dolls : now.garlands.values()) {
            for (int i = 1; i < dolls.size(); i++) {
                meetings += rightHand(now, dolls.get(i - 1)) * leftHand(now, dolls.get(i)) > 0 ? 1 : 0;
            }
        }
        return meetings;
    }

    int count(int what) {
        Set<Set<List<String>>> different = new HashSet<>();
        int own = 0;
        for (List<String> dolls : now.garlands.values()) {
            Set<List<String>> both = new HashSet<>();
            both.add(dolls);
            both.add(turned(dolls));
            different.add(both);
            own += both.size() == 1 ? 1 : 0;
        }
        int[] told = {now.garlands.size(), allDolls().size(), howMany(allDolls(), ".'"), own, now.rule, now.kinds,
            meetings(), different.size(), history.size(), text.length()};
        return what < 0 || what >= told.length ? BAD_VALUE : told[what];
    }
}
