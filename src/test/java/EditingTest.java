/** Promises 1 to 5: a new object, insert, remove, restore, learn. */
public final class EditingTest {
    private static final int LEAST = Integer.MIN_VALUE;
    private static final int MOST = Integer.MAX_VALUE;
    private static final int[] NO_AUTHORS = {-1, 4, LEAST, MOST};

    public static void main(String[] args) {
        newObject();
        insertAtPlaces();
        insertBehindOneSign();
        insertWrongly();
        insertSixtySigns();
        removeSigns();
        removeWrongly();
        restoreSigns();
        restoreWrongly();
        learnSigns();
        learnTheGreaterStamp();
        learnTheStampOfRemoving();
        learnRemovedSigns();
        learnTheClock();
        learnWrongly();
        orderOfCopies();
        deepChain();
        Check.end();
    }

    private static void newObject() {
        CoauthorText x = new CoauthorText();
        Check.due("NONE", -1, () -> CoauthorText.NONE);
        Check.due("signs()", 0, x::signs);
        Check.due("setFloor(0)", 0, () -> x.setFloor(0));
        for (int author = 0; author < 4; author++) {
            int a = author;
            Check.text(x, a);
            Check.due("clock(" + a + ")", 0, () -> x.clock(a));
            Check.due("paid(" + a + ")", 0, () -> x.paid(a));
            Check.due("left(" + a + ")", 0, () -> x.left(a));
        }
        Check.indexOut("printed(0, 0)", () -> x.printed(0, 0));
        Check.indexOut("authorOf(0)", () -> x.authorOf(0));
        x.insert(0, 0, 0);
        Check.due("signs() of another one", 0, () -> new CoauthorText().signs());
    }

    private static void insertAtPlaces() {
        CoauthorText x = new CoauthorText();
        Check.due("insert(1, 0, 0)", 0, () -> x.insert(1, 0, 0));
        Check.due("insert(1, 1, 25)", 1, () -> x.insert(1, 1, 25));
        Check.due("insert(1, 1, 7)", 2, () -> x.insert(1, 1, 7));
        Check.due("insert(1, 0, 8)", 3, () -> x.insert(1, 0, 8));
        Check.text(x, 1, 3, 0, 2, 1);
        Check.text(x, 0);
        Check.due("clock(1)", 4, () -> x.clock(1));
        Check.due("clock(0)", 0, () -> x.clock(0));
    }

    private static void insertBehindOneSign() {
        CoauthorText x = new CoauthorText();
        x.insert(0, 0, 0);
        x.learn(1, 0);
        x.learn(2, 0);
        x.insert(1, 1, 1);
        x.insert(2, 1, 2);
        x.insert(2, 2, 3);
        x.insert(0, 1, 4);
        x.insert(0, 1, 5);
        x.learn(3, 0);
        x.learn(3, 1);
        x.learn(3, 2);
        // 5 has clock 3; 2, 1 and 4 have clock 2 of the authors 2, 1 and 0; 3 is behind 2.
        Check.text(x, 3, 0, 5, 2, 3, 1, 4);
    }

    private static void insertWrongly() {
        CoauthorText x = new CoauthorText();
        x.insert(0, 0, 3);
        for (int author : NO_AUTHORS) {
            Check.argumentOut("insert(" + author + ", 9, 26)", () -> x.insert(author, 9, 26));
            Check.argumentOut("insert(" + author + ", 0, 0)", () -> x.insert(author, 0, 0));
        }
        for (int letter : new int[] {-1, 26, LEAST, MOST}) {
            Check.argumentOut("insert(0, 0, " + letter + ")", () -> x.insert(0, 0, letter));
            Check.argumentOut("insert(0, 2, " + letter + ")", () -> x.insert(0, 2, letter));
        }
        for (int place : new int[] {-1, 2, LEAST, MOST}) {
            Check.indexOut("insert(0, " + place + ", 0)", () -> x.insert(0, place, 0));
        }
        Check.indexOut("insert(1, 1, 0)", () -> x.insert(1, 1, 0));
        Check.due("signs()", 1, x::signs);
        Check.due("clock(0)", 1, () -> x.clock(0));
        Check.due("clock(1)", 0, () -> x.clock(1));
        Check.text(x, 0, 0);
    }

    private static void insertSixtySigns() {
        CoauthorText x = new CoauthorText();
        for (int sign = 0; sign < 60; sign++) {
            int s = sign;
            Check.due("insert " + s, s, () -> x.insert(s % 4, 0, s % 26));
        }
        Check.stateOut("insert(0, 0, 0) beyond 60", () -> x.insert(0, 0, 0));
        Check.stateOut("insert(0, 15, 0) beyond 60", () -> x.insert(0, 15, 0));
        Check.indexOut("insert(0, 16, 0) beyond 60", () -> x.insert(0, 16, 0));
        Check.indexOut("insert(0, -1, 0) beyond 60", () -> x.insert(0, -1, 0));
        Check.argumentOut("insert(0, 0, 26) beyond 60", () -> x.insert(0, 0, 26));
        Check.argumentOut("insert(4, 0, 0) beyond 60", () -> x.insert(4, 0, 0));
        Check.due("signs()", 60, x::signs);
        Check.due("clock(0)", 15, () -> x.clock(0));
        Check.due("length(0)", 15, () -> x.length(0));
        Check.due("remove(0, 0)", 56, () -> x.remove(0, 0));
        Check.stateOut("insert(0, 0, 0) after a removal", () -> x.insert(0, 0, 0));
    }

    private static void removeSigns() {
        CoauthorText x = new CoauthorText();
        x.insert(0, 0, 0);
        x.insert(0, 1, 1);
        x.insert(0, 2, 2);
        x.learn(1, 0);
        Check.due("remove(0, 1)", 1, () -> x.remove(0, 1));
        Check.text(x, 0, 0, 2);
        Check.text(x, 1, 0, 1, 2);
        Check.due("clock(0)", 4, () -> x.clock(0));
        Check.due("remove(0, 1)", 2, () -> x.remove(0, 1));
        Check.due("remove(0, 0)", 0, () -> x.remove(0, 0));
        Check.text(x, 0);
        Check.due("signs()", 3, x::signs);
        // What was inserted behind a removed sign stays, and a removed sign is no place.
        Check.due("insert(0, 0, 4)", 3, () -> x.insert(0, 0, 4));
        Check.due("behind(3)", -1, () -> x.behind(3));
        Check.due("remove(1, 0)", 0, () -> x.remove(1, 0));
        Check.text(x, 1, 1, 2);
        Check.due("insert(1, 1, 5)", 4, () -> x.insert(1, 1, 5));
        Check.due("behind(4)", 1, () -> x.behind(4));
    }

    private static void removeWrongly() {
        CoauthorText x = new CoauthorText();
        x.insert(0, 0, 0);
        x.learn(1, 0);
        x.remove(1, 0);
        for (int author : NO_AUTHORS) {
            Check.argumentOut("remove(" + author + ", 0)", () -> x.remove(author, 0));
            Check.argumentOut("remove(" + author + ", 7)", () -> x.remove(author, 7));
        }
        for (int place : new int[] {-1, 1, LEAST, MOST}) {
            Check.indexOut("remove(0, " + place + ")", () -> x.remove(0, place));
        }
        Check.indexOut("remove(1, 0)", () -> x.remove(1, 0));
        Check.indexOut("remove(2, 0)", () -> x.remove(2, 0));
        Check.due("clock(0)", 1, () -> x.clock(0));
        Check.due("clock(1)", 2, () -> x.clock(1));
        Check.due("clock(2)", 0, () -> x.clock(2));
        Check.text(x, 0, 0);
    }

    private static void restoreSigns() {
        CoauthorText x = new CoauthorText();
        x.insert(2, 0, 0);
        x.insert(2, 1, 1);
        x.insert(2, 2, 2);
        x.remove(2, 0);
        x.remove(2, 1);
        Check.due("restore(2, 2)", 1, () -> x.restore(2, 2));
        Check.text(x, 2, 1, 2);
        Check.due("restore(2, 0)", 0, () -> x.restore(2, 0));
        Check.text(x, 2, 0, 1, 2);
        Check.due("clock(2)", 7, () -> x.clock(2));
        x.learn(3, 2);
        x.remove(2, 2);
        Check.stateOut("restore(3, 2)", () -> x.restore(3, 2));
        x.learn(3, 2);
        Check.due("restore(3, 2)", 2, () -> x.restore(3, 2));
        Check.text(x, 2, 0, 1);
    }

    private static void restoreWrongly() {
        CoauthorText x = new CoauthorText();
        x.insert(0, 0, 0);
        x.insert(0, 0, 0);
        x.remove(0, 0);
        for (int sign : new int[] {-1, 2, 60, LEAST, MOST}) {
            Check.indexOut("restore(0, " + sign + ")", () -> x.restore(0, sign));
            Check.indexOut("restore(4, " + sign + ")", () -> x.restore(4, sign));
        }
        for (int author : NO_AUTHORS) {
            Check.argumentOut("restore(" + author + ", 1)", () -> x.restore(author, 1));
            Check.argumentOut("restore(" + author + ", 0)", () -> x.restore(author, 0));
        }
        Check.stateOut("restore(0, 0)", () -> x.restore(0, 0));
        Check.stateOut("restore(1, 1)", () -> x.restore(1, 1));
        Check.due("clock(0)", 3, () -> x.clock(0));
        Check.due("clock(1)", 0, () -> x.clock(1));
        Check.due("restore(0, 1)", 0, () -> x.restore(0, 1));
        Check.stateOut("restore(0, 1) again", () -> x.restore(0, 1));
        Check.due("clock(0)", 4, () -> x.clock(0));
    }

    private static void learnSigns() {
        CoauthorText x = new CoauthorText();
        x.insert(0, 0, 0);
        x.insert(0, 1, 1);
        x.insert(1, 0, 2);
        Check.due("learn(1, 0)", 2, () -> x.learn(1, 0));
        Check.due("learn(1, 0) again", 0, () -> x.learn(1, 0));
        Check.text(x, 0, 0, 1);
        // 2 and 0 have the clock 1; the greater author comes first.
        Check.text(x, 1, 2, 0, 1);
        Check.due("learn(2, 1)", 3, () -> x.learn(2, 1));
        Check.due("learn(2, 0)", 0, () -> x.learn(2, 0));
        Check.due("learn(0, 3)", 0, () -> x.learn(0, 3));
        Check.text(x, 0, 0, 1);
    }

    private static void learnTheGreaterStamp() {
        CoauthorText x = new CoauthorText();
        x.insert(0, 0, 0);
        x.learn(1, 0);
        x.learn(2, 0);
        x.remove(1, 0);
        Check.due("learn(2, 1)", 0, () -> x.learn(2, 1));
        Check.text(x, 2);
        // A stamp that is not greater does not count, in either direction.
        Check.due("learn(1, 0)", 0, () -> x.learn(1, 0));
        Check.text(x, 1);
        x.remove(0, 0);
        x.restore(0, 0);
        x.learn(1, 0);
        Check.text(x, 1, 0);
        // Now two stamps with the same clock: author 2 restores, author 1 removes.
        CoauthorText y = new CoauthorText();
        y.insert(0, 0, 0);
        y.remove(0, 0);
        y.learn(1, 0);
        y.learn(2, 0);
        y.learn(3, 0);
        y.restore(1, 0);
        y.remove(1, 0);
        y.insert(2, 0, 5);
        y.restore(2, 0);
        Check.due("clock(1)", 4, () -> y.clock(1));
        Check.due("clock(2)", 4, () -> y.clock(2));
        y.learn(1, 2);
        Check.text(y, 1, 1, 0);
        y.learn(3, 2);
        y.learn(3, 1);
        Check.text(y, 3, 1, 0);
        y.learn(2, 1);
        Check.text(y, 2, 1, 0);
    }

    /** Author 1 restores and author 3 removes one sign, both with the clock 4. */
    private static void learnTheStampOfRemoving() {
        CoauthorText x = new CoauthorText();
        x.insert(0, 0, 0);
        x.remove(0, 0);
        x.learn(1, 0);
        x.learn(3, 0);
        x.insert(1, 0, 0);
        x.restore(1, 0);
        x.restore(3, 0);
        x.remove(3, 0);
        x.learn(1, 3);
        Check.text(x, 1, 1);
        x.learn(3, 1);
        Check.text(x, 3, 1);
    }

    private static void learnRemovedSigns() {
        CoauthorText x = new CoauthorText();
        x.insert(0, 0, 0);
        x.insert(0, 1, 1);
        x.remove(0, 0);
        Check.due("learn(3, 0)", 2, () -> x.learn(3, 0));
        Check.text(x, 3, 1);
        Check.due("restore(3, 0)", 0, () -> x.restore(3, 0));
        Check.text(x, 3, 0, 1);
        Check.due("learn(0, 3)", 0, () -> x.learn(0, 3));
        Check.text(x, 0, 0, 1);
    }

    private static void learnTheClock() {
        CoauthorText x = new CoauthorText();
        x.insert(0, 0, 0);
        x.insert(0, 0, 0);
        x.insert(1, 0, 0);
        x.learn(0, 1);
        Check.due("clock(0) stays", 2, () -> x.clock(0));
        x.learn(1, 0);
        Check.due("clock(1) becomes that of 0", 2, () -> x.clock(1));
        Check.due("clock(0)", 2, () -> x.clock(0));
        x.insert(1, 0, 0);
        Check.due("clock(1)", 3, () -> x.clock(1));
        x.learn(2, 3);
        Check.due("clock(2)", 0, () -> x.clock(2));
    }

    private static void learnWrongly() {
        CoauthorText x = new CoauthorText();
        x.insert(0, 0, 0);
        for (int author : NO_AUTHORS) {
            Check.argumentOut("learn(" + author + ", 0)", () -> x.learn(author, 0));
            Check.argumentOut("learn(1, " + author + ")", () -> x.learn(1, author));
            Check.argumentOut("learn twice " + author, () -> x.learn(author, author));
        }
        for (int author = 0; author < 4; author++) {
            int a = author;
            Check.argumentOut("learn(" + a + ", " + a + ")", () -> x.learn(a, a));
        }
        Check.due("length(1)", 0, () -> x.length(1));
        Check.due("clock(1)", 0, () -> x.clock(1));
    }

    /** Two authors write at once behind one sign; all that is behind goes with it. */
    private static void orderOfCopies() {
        CoauthorText x = new CoauthorText();
        x.insert(0, 0, 0);
        x.insert(0, 1, 1);
        x.learn(1, 0);
        x.insert(0, 1, 2);
        x.insert(0, 2, 3);
        x.insert(1, 1, 4);
        x.insert(1, 2, 5);
        x.insert(1, 2, 6);
        Check.text(x, 0, 0, 2, 3, 1);
        Check.text(x, 1, 0, 4, 6, 5, 1);
        x.learn(0, 1);
        x.learn(1, 0);
        Check.text(x, 0, 0, 4, 6, 5, 2, 3, 1);
        Check.text(x, 1, 0, 4, 6, 5, 2, 3, 1);
        Check.due("insert(0, 5, 0)", 7, () -> x.insert(0, 5, 0));
        Check.due("behind(7)", 2, () -> x.behind(7));
        Check.text(x, 0, 0, 4, 6, 5, 2, 7, 3, 1);
    }

    private static void deepChain() {
        CoauthorText x = new CoauthorText();
        int[] ascending = new int[60];
        for (int sign = 0; sign < 60; sign++) {
            x.insert(3, sign, 0);
            ascending[sign] = sign;
        }
        Check.text(x, 3, ascending);
        Check.due("learn(0, 3)", 60, () -> x.learn(0, 3));
        Check.due("signAt(0, 59)", 59, () -> x.signAt(0, 59));
        Check.due("behind(59)", 58, () -> x.behind(59));
    }
}
