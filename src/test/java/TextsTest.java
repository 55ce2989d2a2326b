/** Promises 6 to 13: length, signAt, letterAt, areAlike, signs, authorOf, behind, clock. */
public final class TextsTest {
    private static final int LEAST = Integer.MIN_VALUE;
    private static final int MOST = Integer.MAX_VALUE;
    private static final int[] NO_AUTHORS = {-1, 4, LEAST, MOST};

    public static void main(String[] args) {
        lengths();
        signsAtPlaces();
        lettersAtPlaces();
        alikeTexts();
        signsOfAllCopies();
        clocks();
        Check.end();
    }

    private static CoauthorText twoWriters() {
        CoauthorText x = new CoauthorText();
        x.insert(0, 0, 4);
        x.insert(0, 1, 25);
        x.learn(2, 0);
        x.insert(2, 1, 0);
        x.remove(2, 0);
        return x;
    }

    private static void lengths() {
        CoauthorText x = twoWriters();
        Check.due("length(0)", 2, () -> x.length(0));
        Check.due("length(1)", 0, () -> x.length(1));
        Check.due("length(2)", 2, () -> x.length(2));
        Check.due("length(3)", 0, () -> x.length(3));
        for (int author : NO_AUTHORS) {
            Check.argumentOut("length(" + author + ")", () -> x.length(author));
        }
        x.remove(0, 0);
        Check.due("length(0) after a removal", 1, () -> x.length(0));
        x.restore(0, 0);
        Check.due("length(0) after a restoration", 2, () -> x.length(0));
    }

    private static void signsAtPlaces() {
        CoauthorText x = twoWriters();
        Check.due("signAt(2, 0)", 2, () -> x.signAt(2, 0));
        Check.due("signAt(2, 1)", 1, () -> x.signAt(2, 1));
        for (int place : new int[] {-1, 2, LEAST, MOST}) {
            Check.indexOut("signAt(2, " + place + ")", () -> x.signAt(2, place));
        }
        Check.indexOut("signAt(1, 0)", () -> x.signAt(1, 0));
        for (int author : NO_AUTHORS) {
            Check.argumentOut("signAt(" + author + ", 0)", () -> x.signAt(author, 0));
            Check.argumentOut("signAt(" + author + ", -1)", () -> x.signAt(author, -1));
        }
    }

    private static void lettersAtPlaces() {
        CoauthorText x = twoWriters();
        Check.due("letterAt(0, 0)", 4, () -> x.letterAt(0, 0));
        Check.due("letterAt(0, 1)", 25, () -> x.letterAt(0, 1));
        Check.due("letterAt(2, 0)", 0, () -> x.letterAt(2, 0));
        for (int place : new int[] {-1, 2, LEAST, MOST}) {
            Check.indexOut("letterAt(0, " + place + ")", () -> x.letterAt(0, place));
        }
        Check.indexOut("letterAt(3, 0)", () -> x.letterAt(3, 0));
        for (int author : NO_AUTHORS) {
            Check.argumentOut("letterAt(" + author + ", 0)", () -> x.letterAt(author, 0));
            Check.argumentOut("letterAt(" + author + ", 9)", () -> x.letterAt(author, 9));
        }
    }

    private static void alikeTexts() {
        CoauthorText x = twoWriters();
        Check.due("areAlike(0, 0)", true, x.areAlike(0, 0));
        Check.due("areAlike(1, 3), both empty", true, x.areAlike(1, 3));
        Check.due("areAlike(0, 2), same length", false, x.areAlike(0, 2));
        Check.due("areAlike(0, 1)", false, x.areAlike(0, 1));
        Check.due("areAlike(1, 0)", false, x.areAlike(1, 0));
        // One that knows a sign as removed and one that does not know it have the same text.
        x.learn(1, 2);
        x.remove(1, 0);
        x.remove(1, 0);
        Check.due("areAlike(1, 3), nothing left", true, x.areAlike(1, 3));
        // The same letters by other signs are not the same text.
        CoauthorText y = new CoauthorText();
        y.insert(0, 0, 9);
        y.insert(1, 0, 9);
        Check.due("areAlike(0, 1), same letters", false, y.areAlike(0, 1));
        y.learn(0, 1);
        Check.due("areAlike(0, 1), one knows more", false, y.areAlike(0, 1));
        y.learn(1, 0);
        Check.due("areAlike(0, 1), both know all", true, y.areAlike(0, 1));
        for (int author : NO_AUTHORS) {
            Check.argumentOut("areAlike(" + author + ", 0)", () -> y.areAlike(author, 0) ? 1 : 0);
            Check.argumentOut("areAlike(0, " + author + ")", () -> y.areAlike(0, author) ? 1 : 0);
            Check.argumentOut("areAlike twice " + author,
                    () -> y.areAlike(author, author) ? 1 : 0);
        }
    }

    private static void signsOfAllCopies() {
        CoauthorText x = twoWriters();
        Check.due("signs()", 3, x::signs);
        Check.due("authorOf(0)", 0, () -> x.authorOf(0));
        Check.due("authorOf(1)", 0, () -> x.authorOf(1));
        Check.due("authorOf(2)", 2, () -> x.authorOf(2));
        Check.due("behind(0)", CoauthorText.NONE, () -> x.behind(0));
        Check.due("behind(1)", 0, () -> x.behind(1));
        Check.due("behind(2)", 0, () -> x.behind(2));
        for (int sign : new int[] {-1, 3, 59, 60, LEAST, MOST}) {
            Check.indexOut("authorOf(" + sign + ")", () -> x.authorOf(sign));
            Check.indexOut("behind(" + sign + ")", () -> x.behind(sign));
        }
        Check.due("insert(3, 0, 1)", 3, () -> x.insert(3, 0, 1));
        Check.due("signs()", 4, x::signs);
        Check.due("authorOf(3)", 3, () -> x.authorOf(3));
        x.remove(3, 0);
        Check.due("authorOf(3), removed", 3, () -> x.authorOf(3));
        Check.due("signs(), one removed", 4, x::signs);
    }

    private static void clocks() {
        CoauthorText x = twoWriters();
        Check.due("clock(0)", 2, () -> x.clock(0));
        Check.due("clock(1)", 0, () -> x.clock(1));
        Check.due("clock(2)", 4, () -> x.clock(2));
        x.remove(0, 1);
        x.restore(0, 1);
        Check.due("clock(0)", 4, () -> x.clock(0));
        x.print(0);
        x.areAlike(0, 2);
        Check.due("clock(0) after printing", 4, () -> x.clock(0));
        for (int author : NO_AUTHORS) {
            Check.argumentOut("clock(" + author + ")", () -> x.clock(author));
        }
    }
}
