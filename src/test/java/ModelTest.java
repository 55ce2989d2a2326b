import java.util.Random;

/** Random runs of at most 512 calls, each answer compared with the plain model's. */
public final class ModelTest {
    private static final int RUNS = 1500;
    private static final int MOST_CALLS = 512;
    private static final int CALLS_THAT_LOOK = 200;

    private final CoauthorText real = new CoauthorText();
    private final PlainModel model = new PlainModel();
    private final Random random;
    private final int run;
    private final int authors;
    private final int shareOfWrong;
    private int calls = 0;

    private ModelTest(int run) {
        this.run = run;
        random = new Random(run);
        authors = 2 + random.nextInt(3);
        shareOfWrong = random.nextInt(4) == 0 ? 5 : 40;
    }

    public static void main(String[] args) {
        for (int run = 0; run < RUNS; run++) {
            new ModelTest(run).go();
        }
        Check.end();
    }

    private void go() {
        int changes = 40 + random.nextInt(MOST_CALLS - CALLS_THAT_LOOK - 40);
        while (calls < changes) {
            oneCall();
        }
        lookAtTexts();
        lookAtMoney();
        while (calls < MOST_CALLS) {
            oneCall();
        }
    }

    private void same(String call, Check.Call due, Check.Call made) {
        if (calls < MOST_CALLS) {
            calls++;
            Check.told("run " + run + ", call " + calls + ": " + call,
                    Check.outcome(due), Check.outcome(made));
        }
    }

    /** Mostly 0 to most, at times just outside or far away. */
    private int number(int most) {
        if (random.nextInt(shareOfWrong) == 0) {
            int[] wrong = {-1, most + 1, Integer.MIN_VALUE, Integer.MAX_VALUE};
            return wrong[random.nextInt(wrong.length)];
        }
        return random.nextInt(most + 1);
    }

    private int author() {
        return number(authors - 1);
    }

    private int textLength(int author) {
        return author < 0 || author > 3 ? 5 : model.length(author);
    }

    private void oneCall() {
        int kind = random.nextInt(100);
        if (kind < 20) {
            insert();
        } else if (kind < 30) {
            int a = author();
            int p = number(Math.max(0, textLength(a) - 1));
            same("remove(" + a + ", " + p + ")", () -> model.remove(a, p), () -> real.remove(a, p));
        } else if (kind < 42) {
            int a = author();
            int s = number(Math.max(0, model.signs() - 1));
            same("restore(" + a + ", " + s + ")",
                    () -> model.restore(a, s), () -> real.restore(a, s));
        } else if (kind < 52) {
            int a = author();
            int f = author();
            same("learn(" + a + ", " + f + ")", () -> model.learn(a, f), () -> real.learn(a, f));
        } else if (kind < 72) {
            askText();
        } else {
            tradeEditions();
        }
    }

    private void insert() {
        int a = author();
        int p = number(textLength(a));
        int l = number(25);
        same("insert(" + a + ", " + p + ", " + l + ")",
                () -> model.insert(a, p, l), () -> real.insert(a, p, l));
    }

    private void askText() {
        int a = author();
        int b = author();
        int p = number(Math.max(0, textLength(a) - 1));
        int s = number(Math.max(0, model.signs() - 1));
        switch (random.nextInt(8)) {
            case 0 -> same("length(" + a + ")", () -> model.length(a), () -> real.length(a));
            case 1 -> same("signAt(" + a + ", " + p + ")",
                    () -> model.signAt(a, p), () -> real.signAt(a, p));
            case 2 -> same("letterAt(" + a + ", " + p + ")",
                    () -> model.letterAt(a, p), () -> real.letterAt(a, p));
            case 3 -> same("areAlike(" + a + ", " + b + ")",
                    () -> model.areAlike(a, b), () -> real.areAlike(a, b) ? 1 : 0);
            case 4 -> same("signs()", model::signs, real::signs);
            case 5 -> same("authorOf(" + s + ")", () -> model.authorOf(s), () -> real.authorOf(s));
            case 6 -> same("behind(" + s + ")", () -> model.behind(s), () -> real.behind(s));
            default -> same("clock(" + a + ")", () -> model.clock(a), () -> real.clock(a));
        }
    }

    private void tradeEditions() {
        int a = author();
        int e = number(7);
        int percent = number(25);
        int advance = number(random.nextBoolean() ? 300 : 100000);
        int amount = number(random.nextBoolean() ? 300 : 1000000);
        switch (random.nextInt(8)) {
            case 0 -> same("print(" + a + ")", () -> model.print(a), () -> real.print(a));
            case 1 -> same("printed(" + e + ", " + a + ")",
                    () -> model.printed(e, a), () -> real.printed(e, a));
            case 2 -> same("setFloor(" + percent + ")",
                    () -> model.setFloor(percent), () -> real.setFloor(percent));
            case 3 -> same("advance(" + a + ", " + advance + ")",
                    () -> model.advance(a, advance), () -> real.advance(a, advance));
            case 4 -> same("paid(" + a + ")", () -> model.paid(a), () -> real.paid(a));
            case 5 -> same("left(" + a + ")", () -> model.left(a), () -> real.left(a));
            default -> same("sell(" + e + ", " + amount + ")",
                    () -> model.sell(e, amount), () -> real.sell(e, amount));
        }
    }

    private void lookAtTexts() {
        for (int author = 0; author < 4; author++) {
            int a = author;
            same("length(" + a + ")", () -> model.length(a), () -> real.length(a));
            same("clock(" + a + ")", () -> model.clock(a), () -> real.clock(a));
            for (int place = 0; place < 30; place++) {
                int p = place;
                same("signAt(" + a + ", " + p + ")",
                        () -> model.signAt(a, p), () -> real.signAt(a, p));
            }
        }
        same("areAlike(0, 1)", () -> model.areAlike(0, 1), () -> real.areAlike(0, 1) ? 1 : 0);
    }

    private void lookAtMoney() {
        for (int author = 0; author < 4; author++) {
            int a = author;
            same("paid(" + a + ")", () -> model.paid(a), () -> real.paid(a));
            same("left(" + a + ")", () -> model.left(a), () -> real.left(a));
        }
    }
}
