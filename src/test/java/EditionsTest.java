/** Promises 14 to 17: print, printed, setFloor, advance. */
public final class EditionsTest {
    private static final int LEAST = Integer.MIN_VALUE;
    private static final int MOST = Integer.MAX_VALUE;

    public static void main(String[] args) {
        Check.runTests(EditionsTest.class, "promise14", "promise15", "promise16", "promise17");
    }

    private static Trial twentyEditions() {
        Trial t = Trial.written(1, 2);
        for (int edition = 0; edition < 20; edition++) {
            t.print(edition % 2).is(edition);
        }
        return t;
    }

    // ---- promise 14: print

    private static void promise14_authorIs0To3() {
        Trial t = Trial.written(1, 1, 1, 1);
        for (int author : Trial.NO_AUTHORS) {
            t.print(author).isRefused(Check.ARGUMENT);
            new Trial().print(author).isRefused(Check.ARGUMENT);
        }
        t.print(3).is(0);
        t.print(0).is(1);
        t.print(1).is(2);
        t.print(2).is(3);
        t.printedIs(0, 0, 0, 0, 1);
        t.printedIs(3, 0, 0, 1, 0);
    }

    private static void promise14_noTextInANewObject() {
        for (int author : Trial.AUTHORS) {
            new Trial().print(author).isRefused(Check.STATE);
        }
    }

    private static void promise14_theTextOfTheCopyIsEmpty() {
        Trial t = Trial.written(2);
        t.print(1).isRefused(Check.STATE);
        t.remove(0, 0).is(0);
        t.remove(0, 0).is(1);
        t.print(0).isRefused(Check.STATE);
        t.learn(1, 0).is(2);
        t.print(1).isRefused(Check.STATE);
        t.restore(1, 1).is(0);
        t.print(0).isRefused(Check.STATE);
        // One sign is enough, and nothing that was refused has taken a number.
        t.print(1).is(0);
        t.printedIs(0, 1, 0, 0, 0);
    }

    private static void promise14_aTextOf60() {
        Trial t = Trial.printedOf(20, 20, 19, 1);
        t.printedIs(0, 20, 20, 19, 1);
        t.print(2).is(1);
        t.printedIs(1, 0, 0, 19, 0);
    }

    /** 'Printing and selling': there are at most 20. */
    private static void promise14_selling_atMost20() {
        Trial t = twentyEditions();
        t.printedIs(19, 0, 2, 0, 0);
        t.print(0).isRefused(Check.STATE);
        t.print(1).isRefused(Check.STATE);
        t.insert(2, 0, 0).is(3);
        t.print(2).isRefused(Check.STATE);
        t.printedIs(19, 0, 2, 0, 0);
        t.printedIs(0, 1, 0, 0, 0);
    }

    private static void promise14_terms_emptyTextAnd20Editions() {
        Trial t = twentyEditions();
        t.print(3).isRefused(Check.STATE);
    }

    private static void promise14_terms_firstListedException() {
        Trial t = twentyEditions();
        t.print(4).isRefused(Check.ARGUMENT);
        t.print(-1).isRefused(Check.ARGUMENT);
        new Trial().print(4).isRefused(Check.ARGUMENT);
    }

    private static void promise14_selling_numberedFrom0OverAllCopies() {
        Trial t = Trial.written(1, 1);
        t.print(1).is(0);
        t.print(0).is(1);
        t.print(1).is(2);
        t.printedIs(0, 0, 1, 0, 0);
        t.printedIs(1, 1, 0, 0, 0);
        t.printedIs(2, 0, 1, 0, 0);
    }

    /** 'Printing and selling': it keeps how many signs each author has written. */
    private static void promise14_selling_itKeepsWhatWasPrinted() {
        Trial t = Trial.printedOf(2, 0, 3);
        t.remove(3, 0).is(2);
        t.insert(3, 0, 1).is(5);
        t.learn(0, 3).is(4);
        t.printedIs(0, 2, 0, 3, 0);
        t.print(3).is(1);
        t.printedIs(1, 2, 0, 2, 1);
        t.restore(3, 2).is(1);
        t.printedIs(0, 2, 0, 3, 0);
        t.printedIs(1, 2, 0, 2, 1);
    }

    private static void promise14_printingChangesNoText() {
        Trial t = Trial.printedOf(2, 1);
        t.textIs(3, 2, 0, 1);
        t.textIs(0, 0, 1);
        t.clocksAre(2, 1, 0, 2);
        t.signs().is(3);
        t.paidIs(0, 0, 0, 0);
    }

    // ---- promise 15: printed

    private static void promise15_noEditionInANewObject() {
        for (int edition : new int[] {-1, 0, 1, 19, 20, LEAST, MOST}) {
            new Trial().printed(edition, 0).isRefused(Check.INDEX);
        }
    }

    private static void promise15_editionIs0ToTheLastOne() {
        Trial t = Trial.printedOf(2, 1);
        t.print(1).is(1);
        t.printed(0, 0).isAndChangesNothing(2);
        t.printed(0, 1).isAndChangesNothing(1);
        t.printed(1, 0).isAndChangesNothing(0);
        t.printed(1, 1).isAndChangesNothing(1);
        for (int edition : new int[] {-1, 2, 19, 20, LEAST, MOST}) {
            t.printed(edition, 0).isRefused(Check.INDEX);
        }
    }

    private static void promise15_editionsWhenAll20ArePrinted() {
        Trial t = twentyEditions();
        t.printed(0, 0).is(1);
        t.printed(18, 0).is(1);
        t.printed(19, 1).is(2);
        t.printed(20, 0).isRefused(Check.INDEX);
        t.printed(-1, 0).isRefused(Check.INDEX);
    }

    private static void promise15_authorIs0To3() {
        Trial t = Trial.printedOf(4, 3, 2, 1);
        for (int author : Trial.NO_AUTHORS) {
            t.printed(0, author).isRefused(Check.ARGUMENT);
        }
        t.printedIs(0, 4, 3, 2, 1);
    }

    private static void promise15_terms_firstListedException() {
        Trial t = Trial.printedOf(1);
        t.printed(1, 4).isRefused(Check.INDEX);
        t.printed(-1, -1).isRefused(Check.INDEX);
        t.printed(20, MOST).isRefused(Check.INDEX);
        t.printed(0, 4).isRefused(Check.ARGUMENT);
        new Trial().printed(0, 4).isRefused(Check.INDEX);
    }

    private static void promise15_noneAndAllOfTheSigns() {
        Trial t = Trial.written(60);
        t.print(0).is(0);
        t.printedIs(0, 60, 0, 0, 0);
        t.learn(2, 0).is(60);
        t.print(2).is(1);
        t.printedIs(1, 60, 0, 0, 0);
    }

    private static void promise15_removedSignsAreNotPrinted() {
        Trial t = Trial.written(2, 2);
        t.learn(2, 0).is(2);
        t.learn(2, 1).is(2);
        t.remove(2, 0).is(2);
        t.print(2).is(0);
        t.printedIs(0, 2, 1, 0, 0);
        t.restore(2, 2).is(0);
        t.print(2).is(1);
        t.printedIs(1, 2, 2, 0, 0);
        t.printedIs(0, 2, 1, 0, 0);
    }

    // ---- promise 16: setFloor

    private static void promise16_percentIs0To25() {
        Trial t = Trial.printedOf(1, 1);
        t.setFloor(25).is(0);
        for (int percent : new int[] {-1, 26, 100, LEAST, MOST}) {
            t.setFloor(percent).isRefused(Check.ARGUMENT);
        }
        t.setFloor(0).is(25);
        for (int percent : new int[] {-1, 26, LEAST, MOST}) {
            t.setFloor(percent).isRefused(Check.ARGUMENT);
        }
        t.setFloor(1).is(0);
        t.setFloor(24).is(1);
        t.setFloor(25).is(24);
    }

    /** 'Printing and selling': a floor, which is 0 at first. */
    private static void promise16_selling_0AtFirst() {
        new Trial().setFloor(7).is(0);
        Trial t = Trial.printedOf(3, 1);
        t.sell(0, 100).is(100);
        t.paidIs(75, 25, 0, 0);
        t.setFloor(0).is(0);
        t.sell(0, 100).is(100);
        t.paidIs(150, 50, 0, 0);
    }

    private static void promise16_returnsTheFloorBefore() {
        Trial t = new Trial();
        t.setFloor(5).is(0);
        t.setFloor(5).is(5);
        t.setFloor(12).is(5);
        t.setFloor(0).is(12);
        t.setFloor(0).is(0);
    }

    /** 'Printing and selling': "With a floor .. a sale is split": the one set at the sale. */
    private static void promise16_selling_theFloorSetWhenItIsSold() {
        Trial t = Trial.written(9, 1);
        t.setFloor(25).is(0);
        t.learn(1, 0).is(9);
        t.print(1).is(0);
        t.setFloor(10).is(25);
        t.sell(0, 100).is(100);
        // 10 each, and of the 80 left 72 and 8.
        t.paidIs(82, 18, 0, 0);
        t.setFloor(0).is(10);
        t.sell(0, 100).is(100);
        t.paidIs(172, 28, 0, 0);
    }

    private static void promise16_whatItIs_512Calls() {
        Trial t = new Trial();
        for (int call = 0; call < 512; call++) {
            t.setFloor(call % 26).is((call + 25) % 26 * (call == 0 ? 0 : 1));
        }
    }

    // ---- promise 17: advance

    private static void promise17_authorIs0To3() {
        Trial t = Trial.printedOf(1);
        for (int author : Trial.NO_AUTHORS) {
            t.advance(author, 1).isRefused(Check.ARGUMENT);
            t.advance(author, 100000).isRefused(Check.ARGUMENT);
            t.advance(author, 0).isRefused(Check.ARGUMENT);
        }
        for (int author : Trial.AUTHORS) {
            t.advance(author, 10 + author).is(10 + author);
        }
        t.leftIs(10, 11, 12, 13);
    }

    private static void promise17_amountIs1To100000() {
        Trial t = Trial.printedOf(1, 1);
        t.advance(1, 1).is(1);
        t.advance(3, 100000).is(100000);
        for (int amount : new int[] {-1, 0, 100001, LEAST, MOST}) {
            t.advance(0, amount).isRefused(Check.ARGUMENT);
            t.advance(1, amount).isRefused(Check.ARGUMENT);
        }
        t.leftIs(0, 1, 0, 100000);
    }

    /** "Returns the advance of the author then": with what was left of it before. */
    private static void promise17_advancesAddUp() {
        Trial t = new Trial();
        t.advance(2, 5).is(5);
        t.advance(2, 1).is(6);
        t.advance(2, 100000).is(100006);
        t.advance(1, 7).is(7);
        t.leftIs(0, 7, 100006, 0);
    }

    private static void promise17_theAdvanceThenIsWhatSalesHaveLeftOfIt() {
        Trial t = Trial.printedOf(1);
        t.advance(0, 50).is(50);
        t.sell(0, 20).is(0);
        t.advance(0, 5).is(35);
        t.sell(0, 35).is(0);
        t.advance(0, 3).is(3);
        t.sell(0, 10).is(7);
        t.advance(0, 1).is(1);
    }

    private static void promise17_anAdvanceIsNotPaidBySales() {
        Trial t = Trial.printedOf(1);
        t.advance(0, 100).is(100);
        t.paidIs(0, 0, 0, 0);
        t.printedIs(0, 1, 0, 0, 0);
    }

    private static void promise17_whatItIs_512Calls() {
        Trial t = new Trial();
        for (int call = 1; call < 512; call++) {
            t.advance(3, 100000).is(100000 * call);
        }
        t.left(3).is(51100000);
    }
}
