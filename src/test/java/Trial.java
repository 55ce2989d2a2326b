import java.util.ArrayList;
import java.util.List;

/**
 * An object under test, and the calls that brought it where it is, so that twins of it
 * can be made. Of each call that must change nothing, what two twins answer afterwards
 * is compared: one that the call was made on, and one that it was not made on.
 */
final class Trial {
    static final int[] AUTHORS = {0, 1, 2, 3};
    static final int[] NO_AUTHORS = {-1, 4, Integer.MIN_VALUE, Integer.MAX_VALUE};

    private static final int MOST_CALLS = 512;

    interface Call {
        long on(CoauthorText x);
    }

    private final CoauthorText x = new CoauthorText();
    private final List<Call> changes = new ArrayList<>();
    private int calls = 0;

    /** A call that is not made before it is said what it must answer. */
    final class Step {
        private final String told;
        private final boolean asksOnly;
        private final Call call;

        private Step(String told, boolean asksOnly, Call call) {
            this.told = told;
            this.asksOnly = asksOnly;
            this.call = call;
        }

        void is(long want) {
            make(String.valueOf(want));
            if (!asksOnly) {
                changes.add(call);
            }
        }

        void is(boolean want) {
            is(want ? 1 : 0);
        }

        void isAndChangesNothing(long want) {
            make(String.valueOf(want));
            Probes.compare(told, changes, call);
        }

        void isRefused(String thrown) {
            make(thrown);
            Probes.compare(told, changes, call);
        }

        /** For long runs, whose twins would need more calls than an object is used for. */
        void isRefusedAtTheEnd(String thrown) {
            make(thrown);
        }

        private void make(String want) {
            calls++;
            if (calls > MOST_CALLS) {
                Check.told("the calls of this test", "at most " + MOST_CALLS, "" + calls);
            }
            Check.told(told, want, Check.outcome(() -> call.on(x)));
        }
    }

    int calls() {
        return calls;
    }

    private Step step(String name, Call call, int... arguments) {
        return new Step(told(name, arguments), false, call);
    }

    private Step asks(String name, Call call, int... arguments) {
        return new Step(told(name, arguments), true, call);
    }

    private static String told(String name, int... arguments) {
        StringBuilder told = new StringBuilder(name).append('(');
        for (int n = 0; n < arguments.length; n++) {
            told.append(n == 0 ? "" : ", ").append(arguments[n]);
        }
        return told.append(')').toString();
    }

    // ---- editing

    Step insert(int author, int place, int letter) {
        return step("insert", x -> x.insert(author, place, letter), author, place, letter);
    }

    Step remove(int author, int place) {
        return step("remove", x -> x.remove(author, place), author, place);
    }

    Step restore(int author, int sign) {
        return step("restore", x -> x.restore(author, sign), author, sign);
    }

    Step learn(int author, int from) {
        return step("learn", x -> x.learn(author, from), author, from);
    }

    // ---- texts

    Step length(int author) {
        return asks("length", x -> x.length(author), author);
    }

    Step signAt(int author, int place) {
        return asks("signAt", x -> x.signAt(author, place), author, place);
    }

    Step letterAt(int author, int place) {
        return asks("letterAt", x -> x.letterAt(author, place), author, place);
    }

    Step areAlike(int author, int other) {
        return asks("areAlike", x -> x.areAlike(author, other) ? 1 : 0, author, other);
    }

    Step signs() {
        return asks("signs", x -> x.signs());
    }

    Step authorOf(int sign) {
        return asks("authorOf", x -> x.authorOf(sign), sign);
    }

    Step behind(int sign) {
        return asks("behind", x -> x.behind(sign), sign);
    }

    Step clock(int author) {
        return asks("clock", x -> x.clock(author), author);
    }

    // ---- editions and sales

    Step print(int author) {
        return step("print", x -> x.print(author), author);
    }

    Step printed(int edition, int author) {
        return asks("printed", x -> x.printed(edition, author), edition, author);
    }

    Step setFloor(int percent) {
        return step("setFloor", x -> x.setFloor(percent), percent);
    }

    Step advance(int author, int amount) {
        return step("advance", x -> x.advance(author, amount), author, amount);
    }

    Step sell(int edition, int amount) {
        return step("sell", x -> x.sell(edition, amount), edition, amount);
    }

    Step paid(int author) {
        return asks("paid", x -> x.paid(author), author);
    }

    Step left(int author) {
        return asks("left", x -> x.left(author), author);
    }

    // ---- what many tests do

    /** The signs of a copy's text, as the calls tell them one by one. */
    void textIs(int author, int... signs) {
        length(author).is(signs.length);
        for (int place = 0; place < signs.length; place++) {
            signAt(author, place).is(signs[place]);
        }
    }

    void clocksAre(int... clocks) {
        for (int author : AUTHORS) {
            clock(author).is(clocks[author]);
        }
    }

    void printedIs(int edition, int... signs) {
        for (int author : AUTHORS) {
            printed(edition, author).is(signs[author]);
        }
    }

    void paidIs(long... amounts) {
        for (int author : AUTHORS) {
            paid(author).is(amounts[author]);
        }
    }

    void leftIs(int... amounts) {
        for (int author : AUTHORS) {
            left(author).is(amounts[author]);
        }
    }

    /** One author inserts so many signs, each behind the one before. */
    void write(int author, int signs, int firstSign, int firstPlace) {
        for (int n = 0; n < signs; n++) {
            insert(author, firstPlace + n, (firstSign + n) % 26).is(firstSign + n);
        }
    }

    /** The authors write so many signs each, in copies that know nothing of each other. */
    static Trial written(int... signs) {
        Trial t = new Trial();
        int all = 0;
        for (int author = 0; author < signs.length; author++) {
            t.write(author, signs[author], all, 0);
            all += signs[author];
        }
        return t;
    }

    /** As written, and an edition 0 of all signs is printed from the copy of author 3. */
    static Trial printedOf(int... signs) {
        Trial t = written(signs);
        for (int author = 0; author < Math.min(signs.length, 3); author++) {
            t.learn(3, author).is(signs[author]);
        }
        t.print(3).is(0);
        return t;
    }
}
