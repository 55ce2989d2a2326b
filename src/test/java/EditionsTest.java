/** Promises 14 to 20: print, printed, setFloor, advance, sell, paid, left. */
public final class EditionsTest {
    private static final int LEAST = Integer.MIN_VALUE;
    private static final int MOST = Integer.MAX_VALUE;
    private static final int[] NO_AUTHORS = {-1, 4, LEAST, MOST};

    public static void main(String[] args) {
        editionsKeepTheirSigns();
        printWrongly();
        twentyEditions();
        printedWrongly();
        floors();
        advances();
        salesBySigns();
        salesWithFloor();
        salesAgainstAdvances();
        salesWrongly();
        greatSales();
        moneyOfNoOne();
        Check.end();
    }

    /** The authors get as many signs as told, and the copy of author 3 knows all of them. */
    private static CoauthorText written(int... signs) {
        CoauthorText x = new CoauthorText();
        for (int author = 0; author < signs.length; author++) {
            for (int n = 0; n < signs[author]; n++) {
                x.insert(author, 0, n % 26);
            }
            if (author != 3) {
                x.learn(3, author);
            }
        }
        return x;
    }

    private static void printedIs(CoauthorText x, int edition, int... signs) {
        for (int author = 0; author < 4; author++) {
            int a = author;
            Check.due("printed(" + edition + ", " + a + ")", signs[a],
                    () -> x.printed(edition, a));
        }
    }

    private static void paidIs(CoauthorText x, long... amounts) {
        for (int author = 0; author < 4; author++) {
            int a = author;
            Check.due("paid(" + a + ")", amounts[a], () -> x.paid(a));
        }
    }

    private static void editionsKeepTheirSigns() {
        CoauthorText x = written(2, 0, 3);
        Check.due("print(3)", 0, () -> x.print(3));
        printedIs(x, 0, 2, 0, 3, 0);
        Check.due("print(2)", 1, () -> x.print(2));
        printedIs(x, 1, 0, 0, 3, 0);
        x.remove(3, 0);
        x.insert(3, 0, 1);
        printedIs(x, 0, 2, 0, 3, 0);
        Check.due("print(3)", 2, () -> x.print(3));
        printedIs(x, 2, 2, 0, 2, 1);
        printedIs(x, 0, 2, 0, 3, 0);
    }

    private static void printWrongly() {
        CoauthorText x = written(1);
        Check.stateOut("print(1), empty", () -> x.print(1));
        for (int author : NO_AUTHORS) {
            Check.argumentOut("print(" + author + ")", () -> x.print(author));
        }
        x.remove(0, 0);
        Check.stateOut("print(0), all removed", () -> x.print(0));
        Check.indexOut("printed(0, 0)", () -> x.printed(0, 0));
        Check.due("print(3)", 0, () -> x.print(3));
    }

    private static void twentyEditions() {
        CoauthorText x = written(1, 1);
        for (int edition = 0; edition < 20; edition++) {
            int e = edition;
            Check.due("print " + e, e, () -> x.print(e % 2));
        }
        Check.stateOut("print(0) beyond 20", () -> x.print(0));
        Check.stateOut("print(2) beyond 20", () -> x.print(2));
        Check.argumentOut("print(4) beyond 20", () -> x.print(4));
        printedIs(x, 19, 0, 1, 0, 0);
        printedIs(x, 18, 1, 0, 0, 0);
        Check.due("sell(19, 5)", 5, () -> x.sell(19, 5));
        paidIs(x, 0, 5, 0, 0);
        Check.indexOut("printed(20, 0)", () -> x.printed(20, 0));
        Check.indexOut("sell(20, 1)", () -> x.sell(20, 1));
    }

    private static void printedWrongly() {
        CoauthorText x = written(1);
        x.print(0);
        for (int edition : new int[] {-1, 1, 19, 20, LEAST, MOST}) {
            Check.indexOut("printed(" + edition + ", 0)", () -> x.printed(edition, 0));
            Check.indexOut("printed(" + edition + ", 4)", () -> x.printed(edition, 4));
        }
        for (int author : NO_AUTHORS) {
            Check.argumentOut("printed(0, " + author + ")", () -> x.printed(0, author));
        }
    }

    private static void floors() {
        CoauthorText x = new CoauthorText();
        Check.due("setFloor(25)", 0, () -> x.setFloor(25));
        Check.due("setFloor(7)", 25, () -> x.setFloor(7));
        for (int percent : new int[] {-1, 26, 100, LEAST, MOST}) {
            Check.argumentOut("setFloor(" + percent + ")", () -> x.setFloor(percent));
        }
        Check.due("setFloor(0)", 7, () -> x.setFloor(0));
        Check.due("setFloor(0)", 0, () -> x.setFloor(0));
    }

    private static void advances() {
        CoauthorText x = new CoauthorText();
        Check.due("advance(1, 1)", 1, () -> x.advance(1, 1));
        Check.due("advance(1, 100000)", 100001, () -> x.advance(1, 100000));
        Check.due("advance(2, 5)", 5, () -> x.advance(2, 5));
        Check.due("left(1)", 100001, () -> x.left(1));
        Check.due("left(2)", 5, () -> x.left(2));
        Check.due("left(0)", 0, () -> x.left(0));
        for (int amount : new int[] {-1, 0, 100001, LEAST, MOST}) {
            Check.argumentOut("advance(1, " + amount + ")", () -> x.advance(1, amount));
        }
        for (int author : NO_AUTHORS) {
            Check.argumentOut("advance(" + author + ", 5)", () -> x.advance(author, 5));
            Check.argumentOut("advance(" + author + ", 0)", () -> x.advance(author, 0));
        }
        Check.due("left(1)", 100001, () -> x.left(1));
        paidIs(x, 0, 0, 0, 0);
        for (int turn = 0; turn < 400; turn++) {
            x.advance(3, 100000);
        }
        Check.due("left(3)", 40000000, () -> x.left(3));
    }

    private static void salesBySigns() {
        CoauthorText x = written(0, 1, 2, 4);
        x.print(3);
        // 10/7 and 20/7 and 40/7 rounded down are 1, 2 and 5; author 1 gets the 2 left over.
        Check.due("sell(0, 10)", 10, () -> x.sell(0, 10));
        paidIs(x, 0, 3, 2, 5);
        Check.due("sell(0, 1)", 1, () -> x.sell(0, 1));
        paidIs(x, 0, 4, 2, 5);
        Check.due("sell(0, 7)", 7, () -> x.sell(0, 7));
        paidIs(x, 0, 5, 4, 9);
        // An edition sells as it was printed, whatever the text is now.
        x.remove(3, 0);
        x.remove(3, 0);
        Check.due("sell(0, 7)", 7, () -> x.sell(0, 7));
        paidIs(x, 0, 6, 6, 13);
    }

    private static void salesWithFloor() {
        CoauthorText x = written(3, 0, 1);
        x.print(3);
        x.setFloor(10);
        // The floor is 9; of the 81 left 60 and 20; the 1 left over goes to author 0.
        Check.due("sell(0, 99)", 99, () -> x.sell(0, 99));
        paidIs(x, 70, 0, 29, 0);
        x.setFloor(25);
        // The floor of 3 is 0.
        Check.due("sell(0, 3)", 3, () -> x.sell(0, 3));
        paidIs(x, 73, 0, 29, 0);
        Check.due("sell(0, 4)", 4, () -> x.sell(0, 4));
        // The floor is 1 each; of the 2 left 1 and 0; the last goes to author 0.
        paidIs(x, 76, 0, 30, 0);
        CoauthorText y = written(1, 1, 1, 50);
        y.print(3);
        y.setFloor(25);
        Check.due("sell(0, 1000)", 1000, () -> y.sell(0, 1000));
        paidIs(y, 250, 250, 250, 250);
        // The floor is 250 and 3 are left: 2 for author 3, and 1 for author 0.
        Check.due("sell(0, 1003)", 1003, () -> y.sell(0, 1003));
        paidIs(y, 501, 500, 500, 502);
        y.print(1);
        Check.due("sell(1, 10)", 10, () -> y.sell(1, 10));
        paidIs(y, 501, 510, 500, 502);
    }

    private static void salesAgainstAdvances() {
        CoauthorText x = written(1, 1);
        x.print(3);
        x.advance(0, 70);
        x.advance(2, 9);
        Check.due("sell(0, 100)", 50, () -> x.sell(0, 100));
        paidIs(x, 0, 50, 0, 0);
        Check.due("left(0)", 20, () -> x.left(0));
        Check.due("sell(0, 41)", 21, () -> x.sell(0, 41));
        paidIs(x, 1, 70, 0, 0);
        Check.due("left(0)", 0, () -> x.left(0));
        Check.due("advance(0, 4)", 4, () -> x.advance(0, 4));
        Check.due("sell(0, 8)", 4, () -> x.sell(0, 8));
        Check.due("left(0)", 0, () -> x.left(0));
        paidIs(x, 1, 74, 0, 0);
        x.advance(1, 100000);
        x.advance(0, 100000);
        Check.due("sell(0, 1000), all held", 0, () -> x.sell(0, 1000));
        Check.due("left(1)", 99500, () -> x.left(1));
        Check.due("left(2)", 9, () -> x.left(2));
    }

    private static void salesWrongly() {
        CoauthorText x = written(1);
        for (int edition : new int[] {-1, 0, 20, LEAST, MOST}) {
            Check.indexOut("sell(" + edition + ", 0)", () -> x.sell(edition, 0));
            Check.indexOut("sell(" + edition + ", 1)", () -> x.sell(edition, 1));
        }
        x.print(0);
        x.advance(0, 10);
        for (int amount : new int[] {-1, 0, 1000001, LEAST, MOST}) {
            Check.argumentOut("sell(0, " + amount + ")", () -> x.sell(0, amount));
            Check.indexOut("sell(1, " + amount + ")", () -> x.sell(1, amount));
        }
        paidIs(x, 0, 0, 0, 0);
        Check.due("left(0)", 10, () -> x.left(0));
        Check.due("sell(0, 1)", 0, () -> x.sell(0, 1));
        Check.due("left(0)", 9, () -> x.left(0));
    }

    private static void greatSales() {
        CoauthorText x = written(59, 1);
        x.print(3);
        x.print(0);
        x.setFloor(25);
        // The floor is 250000; of 500000 left 491666 and 8333; 1 is left over.
        Check.due("sell(0, 1000000)", 1000000, () -> x.sell(0, 1000000));
        paidIs(x, 741667, 258333, 0, 0);
        for (int turn = 0; turn < 400; turn++) {
            x.sell(1, 1000000);
        }
        paidIs(x, 400741667L, 258333, 0, 0);
    }

    private static void moneyOfNoOne() {
        CoauthorText x = new CoauthorText();
        for (int author : NO_AUTHORS) {
            Check.argumentOut("paid(" + author + ")", () -> x.paid(author));
            Check.argumentOut("left(" + author + ")", () -> x.left(author));
        }
    }
}
