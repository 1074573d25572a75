import java.util.Random;

/** Long runs of drawn calls (the same ones each time), each answer compared with the model's. */
public final class ModelTest {
    private static final int RUNS = 1500;
    private static final int CALLS = 512;

    private final Random random;
    private final DollGarlands x = new DollGarlands();
    private final Model model = new Model();
    private final int run;
    /** Few hands make many clashes and repeats, many hands make few. */
    private final int hands;
    /** How many of a hundred acts make a garland longer. */
    private final int growth;
    private int calls = 0;

    private ModelTest(int run) {
        this.run = run;
        random = new Random(run);
        hands = 1 + random.nextInt(6);
        growth = random.nextInt(60);
    }

    public static void main(String[] args) {
        for (int run = 1; run <= RUNS; run++) {
            ModelTest test = new ModelTest(run);
            while (test.calls < CALLS) {
                test.step();
            }
        }
        Check.finish();
    }

    private void due(String call, int got, int want) {
        calls++;
        // What an object answers behind its last promised call is free.
        if (calls <= CALLS) {
            Check.due("run " + run + ", call " + calls + ": " + call, got, want);
        }
    }

    /** Mostly a number below the bound, seldom one that is out of range or far away. */
    private int number(int bound) {
        int draw = random.nextInt(100);
        if (draw >= 8) {
            return random.nextInt(bound);
        }
        int[] wrong = {-1, bound, bound + 1, -7, Integer.MIN_VALUE, Integer.MAX_VALUE, 1 << 28, -1 - bound};
        return wrong[draw];
    }

    private int garland() {
        return random.nextInt(3) == 0 ? number(8) : number(4);
    }

    private void step() {
        int draw = random.nextInt(100);
        if (draw < growth) {
            grow(random.nextInt(4));
        } else if (draw < 60 + growth / 3) {
            act(random.nextInt(16));
        } else {
            ask(random.nextInt(9));
        }
    }

    private void grow(int act) {
        int garland = garland();
        int other = garland();
        switch (act) {
            case 0:
                due("fold(" + garland + ")", x.fold(garland), model.fold(garland));
                break;
            case 1:
            case 2:
                due("join(" + garland + ", " + other + ")", x.join(garland, other), model.join(garland, other));
                break;
            default:
                typeText();
                due("readGarland()", x.readGarland(), model.readGarland());
        }
    }

    private void act(int act) {
        int garland = garland();
        int kind = number(model.kinds());
        switch (act) {
            case 0:
            case 1:
                int left = number(hands);
                int right = number(hands);
                due("setHands(" + kind + ", " + left + ", " + right + ")", x.setHands(kind, left, right),
                    model.setHands(kind, left, right));
                break;
            case 2:
                int rule = number(3);
                due("setRule(" + rule + ")", x.setRule(rule), model.setRule(rule));
                break;
            case 3:
                int kinds = number(10) + (random.nextInt(9) == 0 ? 0 : 1);
                due("setKinds(" + kinds + ")", x.setKinds(kinds), model.setKinds(kinds));
                break;
            case 4:
            case 5:
            case 6:
                boolean mirrored = random.nextBoolean();
                due("cutDoll(" + kind + ", " + mirrored + ")", x.cutDoll(kind, mirrored), model.cutDoll(kind, mirrored));
                break;
            case 7:
                int place = number(random.nextInt(2) == 0 ? 4 : 32);
                due("cutApart(" + garland + ", " + place + ")", x.cutApart(garland, place), model.cutApart(garland, place));
                break;
            case 8:
            case 9:
                due("turn(" + garland + ")", x.turn(garland), model.turn(garland));
                break;
            case 10:
                due("takeAway(" + garland + ")", x.takeAway(garland), model.takeAway(garland));
                break;
            default:
                actOnAll(act);
        }
    }

    private void actOnAll(int act) {
        switch (act) {
            case 11:
                due("undo()", x.undo(), model.undo());
                break;
            case 12:
                if (random.nextInt(3) == 0) {
                    due("keep()", x.keep(), model.keep());
                }
                break;
            case 13:
                if (random.nextInt(3) == 0) {
                    due("restore()", x.restore(), model.restore());
                }
                break;
            case 14:
                due("readGarland()", x.readGarland(), model.readGarland());
                break;
            default:
                grow(random.nextInt(4));
        }
    }

    private void type(char character) {
        due("type((char) " + (int) character + ")", x.type(character), model.type(character));
    }

    /** Types what may come next, a few times, and seldom what may not. */
    private void typeText() {
        if (random.nextInt(3) > 0) {
            due("clearText()", x.clearText(), model.clearText());
        }
        int most = random.nextInt(4) == 0 ? 85 : 1 + random.nextInt(7);
        for (int i = 0; i < most; i++) {
            String text = model.text();
            char last = text.isEmpty() ? ',' : text.charAt(text.length() - 1);
            int draw = random.nextInt(400);
            if (draw < 6) {
                type("',0a\u0130 ".charAt(draw));
            } else if (last == ',') {
                type((char) ('0' + random.nextInt(draw < 30 ? 10 : model.kinds())));
            } else if (last == '\'' || draw < 300) {
                type(',');
            } else {
                type('\'');
            }
        }
        if (model.text().endsWith(",") && random.nextInt(8) > 0) {
            type('0');
        }
    }

    private void ask(int question) {
        int garland = garland();
        int other = garland();
        int what = number(10);
        switch (question) {
            case 0:
                int kind = number(model.kinds());
                due("kind(" + kind + ", " + what + ")", x.kind(kind, what), model.kind(kind, what));
                break;
            case 1:
            case 2:
                due("garland(" + garland + ", " + what + ")", x.garland(garland, what), model.garland(garland, what));
                break;
            case 3:
                int place = number(random.nextBoolean() ? 4 : 32);
                due("doll(" + garland + ", " + place + ", " + what % 6 + ")", x.doll(garland, place, what % 6),
                    model.doll(garland, place, what % 6));
                break;
            case 4:
                due("reason(" + garland + ", " + other + ")", x.reason(garland, other), model.reason(garland, other));
                break;
            case 5:
                due("between(" + garland + ", " + other + ")", x.between(garland, other), model.between(garland, other));
                break;
            case 6:
                int length = number(7);
                int counted = number(3);
                due("ways(" + length + ", " + counted + ")", x.ways(length, counted), model.ways(length, counted));
                break;
            case 7:
                due("longest()", x.longest(), model.longest());
                break;
            default:
                due("count(" + what + ")", x.count(what), model.count(what));
                askAll();
        }
    }

    /** Seldom compares the whole garlands, so that nothing wrong stays unseen for long. */
    private void askAll() {
        if (random.nextInt(4) > 0) {
            return;
        }
        for (int garland = 0; garland < 8; garland++) {
            int length = model.garland(garland, 0);
            due("garland(" + garland + ", 0)", x.garland(garland, 0), length);
            for (int place = 0; place < length; place++) {
                due("doll(" + garland + ", " + place + ", 0)", x.doll(garland, place, 0), model.doll(garland, place, 0));
                due("doll(" + garland + ", " + place + ", 1)", x.doll(garland, place, 1), model.doll(garland, place, 1));
            }
        }
    }
}
