/** Promises 18 to 20: sell, paid, left. */
public final class SalesTest {
    private static final int LEAST = Integer.MIN_VALUE;
    private static final int MOST = Integer.MAX_VALUE;

    public static void main(String[] args) {
        Check.runTests(SalesTest.class, "promise18", "promise19", "promise20");
    }

    // ---- promise 18: sell

    private static void promise18_noEditionInANewObject() {
        for (int edition : new int[] {-1, 0, 1, 19, 20, LEAST, MOST}) {
            new Trial().sell(edition, 1).isRefused(Check.INDEX);
        }
    }

    private static void promise18_editionIs0ToTheLastOne() {
        Trial t = Trial.printedOf(1, 1);
        t.print(1).is(1);
        t.advance(0, 3).is(3);
        for (int edition : new int[] {-1, 2, 19, 20, LEAST, MOST}) {
            t.sell(edition, 10).isRefused(Check.INDEX);
        }
        t.sell(0, 10).is(7);
        t.paidIs(2, 5, 0, 0);
        t.sell(1, 10).is(10);
        t.paidIs(2, 15, 0, 0);
    }

    private static void promise18_editionsWhenAll20ArePrinted() {
        Trial t = Trial.written(1, 1);
        for (int edition = 0; edition < 20; edition++) {
            t.print(edition == 19 ? 1 : 0).is(edition);
        }
        t.sell(20, 5).isRefused(Check.INDEX);
        t.sell(-1, 5).isRefused(Check.INDEX);
        t.sell(19, 5).is(5);
        t.sell(18, 4).is(4);
        t.sell(0, 3).is(3);
        t.paidIs(7, 5, 0, 0);
    }

    private static void promise18_amountIs1To1000000() {
        Trial t = Trial.printedOf(1);
        t.advance(0, 10).is(10);
        for (int amount : new int[] {-1, 0, 1000001, LEAST, MOST}) {
            t.sell(0, amount).isRefused(Check.ARGUMENT);
        }
        t.sell(0, 1).is(0);
        t.left(0).is(9);
        t.sell(0, 1000000).is(999991);
        t.paid(0).is(999991);
    }

    private static void promise18_terms_firstListedException() {
        Trial t = Trial.printedOf(1);
        t.sell(1, 0).isRefused(Check.INDEX);
        t.sell(-1, 1000001).isRefused(Check.INDEX);
        t.sell(20, -1).isRefused(Check.INDEX);
        t.sell(0, 0).isRefused(Check.ARGUMENT);
        new Trial().sell(0, 0).isRefused(Check.INDEX);
        new Trial().sell(0, 1000001).isRefused(Check.INDEX);
    }

    private static void promise18_selling_oneAuthorGetsAll() {
        for (int author : Trial.AUTHORS) {
            Trial t = new Trial();
            t.insert(author, 0, 0).is(0);
            t.print(author).is(0);
            t.sell(0, 101).is(101);
            t.paid(author).is(101);
            t.setFloor(25).is(0);
            t.sell(0, 103).is(103);
            t.paid(author).is(204);
        }
    }

    /** 'Printing and selling': left * signs / all signs, rounded down. */
    private static void promise18_selling_sharesBySignsRoundedDown() {
        Trial t = Trial.printedOf(0, 1, 2, 4);
        t.sell(0, 700).is(700);
        t.paidIs(0, 100, 200, 400);
        // 10/7, 20/7 and 40/7 are 1, 2 and 5; the 2 left go to author 1.
        t.sell(0, 10).is(10);
        t.paidIs(0, 103, 202, 405);
        // 13/7, 26/7 and 52/7 are 1, 3 and 7, and again 2 are left.
        t.sell(0, 13).is(13);
        t.paidIs(0, 106, 205, 412);
    }

    /** 'Printing and selling': what is left then goes to the lowest who has a sign. */
    private static void promise18_selling_whatIsLeftGoesToTheLowestWithASign() {
        Trial first = Trial.printedOf(1, 1, 1, 1);
        first.sell(0, 3).is(3);
        first.paidIs(3, 0, 0, 0);
        Trial second = Trial.printedOf(0, 1, 1, 1);
        second.sell(0, 2).is(2);
        second.paidIs(0, 2, 0, 0);
        Trial third = Trial.printedOf(0, 0, 1, 1);
        third.sell(0, 1).is(1);
        third.paidIs(0, 0, 1, 0);
        Trial fourth = Trial.printedOf(0, 0, 0, 1);
        fourth.sell(0, 1).is(1);
        fourth.paidIs(0, 0, 0, 1);
    }

    private static void promise18_selling_theLowestIsOneOfTheEdition() {
        Trial t = Trial.printedOf(3, 1, 2);
        t.print(1).is(1);
        t.print(2).is(2);
        t.remove(3, 0).is(4);
        t.remove(3, 1).is(3);
        t.sell(2, 1).is(1);
        t.paidIs(0, 0, 1, 0);
        t.sell(1, 1).is(1);
        t.paidIs(0, 1, 1, 0);
        t.sell(0, 1).is(1);
        t.paidIs(1, 1, 1, 0);
    }

    /** 'Printing and selling': an edition keeps its signs, whatever the text is now. */
    private static void promise18_selling_asItWasPrinted() {
        Trial t = Trial.printedOf(1, 1);
        t.remove(3, 0).is(1);
        t.remove(3, 0).is(0);
        t.insert(2, 0, 0).is(2);
        t.sell(0, 10).is(10);
        t.paidIs(5, 5, 0, 0);
        t.sell(0, 10).is(10);
        t.paidIs(10, 10, 0, 0);
    }

    /** 'Printing and selling': each author with a sign gets the floor, the others nothing. */
    private static void promise18_selling_theFloorForEachWithASign() {
        Trial t = Trial.printedOf(3, 0, 1);
        t.setFloor(10).is(0);
        // The floor is 10; of the 80 left 60 and 20.
        t.sell(0, 100).is(100);
        t.paidIs(70, 0, 30, 0);
    }

    private static void promise18_selling_theFloorRoundedDown() {
        Trial t = Trial.printedOf(3, 0, 1);
        t.setFloor(10).is(0);
        // The floor of 99 is 9; of the 81 left 60 and 20, and 1 is left for author 0.
        t.sell(0, 99).is(99);
        t.paidIs(70, 0, 29, 0);
        t.setFloor(25).is(10);
        // The floor of 3 is 0: of 3 left 2 and 0, and 1 is left.
        t.sell(0, 3).is(3);
        t.paidIs(73, 0, 29, 0);
        // The floor of 4 is 1: of 2 left 1 and 0, and 1 is left.
        t.sell(0, 4).is(4);
        t.paidIs(76, 0, 30, 0);
    }

    private static void promise18_selling_theLeastFloor() {
        Trial t = Trial.printedOf(59, 1);
        t.setFloor(1).is(0);
        // The floor of 99 is 0, and author 1 gets 99/60.
        t.sell(0, 99).is(99);
        t.paidIs(98, 1, 0, 0);
        // The floor of 100 is 1: of the 98 left 96 and 1, and 1 is left.
        t.sell(0, 100).is(100);
        t.paidIs(196, 3, 0, 0);
    }

    private static void promise18_selling_aFloorOf0() {
        Trial t = Trial.printedOf(59, 1);
        t.setFloor(25).is(0);
        t.setFloor(0).is(25);
        t.sell(0, 59).is(59);
        t.paidIs(59, 0, 0, 0);
        t.sell(0, 60).is(60);
        t.paidIs(118, 1, 0, 0);
    }

    /** Four floors of 25 percent leave nothing, or what rounding down leaves. */
    private static void promise18_selling_theGreatestFloorOfAllFour() {
        Trial t = Trial.printedOf(1, 1, 1, 50);
        t.setFloor(25).is(0);
        t.sell(0, 1000).is(1000);
        t.paidIs(250, 250, 250, 250);
        // The floor of 1003 is 250 and 3 are left: 2 for author 3, and 1 for author 0.
        t.sell(0, 1003).is(1003);
        t.paidIs(501, 500, 500, 502);
        t.sell(0, 1).is(1);
        t.paidIs(502, 500, 500, 502);
        t.sell(0, 1000000).is(1000000);
        t.paidIs(250502, 250500, 250500, 250502);
    }

    private static void promise18_selling_theGreatestSaleOfTheMostSigns() {
        Trial t = Trial.printedOf(59, 1);
        t.sell(0, 1000000).is(1000000);
        // 59000000/60 and 1000000/60 are 983333 and 16666, and 1 is left.
        t.paidIs(983334, 16666, 0, 0);
        t.setFloor(25).is(0);
        // The floor is 250000; of the 500000 left 491666 and 8333, and 1 is left.
        t.sell(0, 1000000).is(1000000);
        t.paidIs(1725001, 274999, 0, 0);
    }

    /** 'Printing and selling': it lowers the advance, as far as it goes. */
    private static void promise18_selling_anAdvanceThatIsLarger() {
        Trial t = Trial.printedOf(1, 1);
        t.advance(0, 51).is(51);
        t.sell(0, 100).is(50);
        t.leftIs(1, 0, 0, 0);
        t.paidIs(0, 50, 0, 0);
    }

    private static void promise18_selling_anAdvanceThatIsTheSame() {
        Trial t = Trial.printedOf(1, 1);
        t.advance(1, 50).is(50);
        t.sell(0, 100).is(50);
        t.leftIs(0, 0, 0, 0);
        t.paidIs(50, 0, 0, 0);
        t.sell(0, 100).is(100);
        t.paidIs(100, 50, 0, 0);
    }

    private static void promise18_selling_anAdvanceThatIsSmaller() {
        Trial t = Trial.printedOf(1, 1);
        t.advance(0, 49).is(49);
        t.sell(0, 100).is(51);
        t.leftIs(0, 0, 0, 0);
        t.paidIs(1, 50, 0, 0);
    }

    private static void promise18_selling_anAdvanceOverSeveralSales() {
        Trial t = Trial.printedOf(1, 1);
        t.advance(0, 70).is(70);
        t.sell(0, 100).is(50);
        t.leftIs(20, 0, 0, 0);
        t.sell(0, 41).is(21);
        t.leftIs(0, 0, 0, 0);
        t.paidIs(1, 70, 0, 0);
        t.sell(0, 10).is(10);
        t.paidIs(6, 75, 0, 0);
    }

    private static void promise18_selling_advancesOfAll() {
        Trial t = Trial.printedOf(1, 1, 1, 1);
        t.advance(0, 10).is(10);
        t.advance(1, 25).is(25);
        t.advance(2, 26).is(26);
        t.advance(3, 100000).is(100000);
        t.sell(0, 100).is(15);
        t.leftIs(0, 0, 1, 99975);
        t.paidIs(15, 0, 0, 0);
        t.advance(0, 100000).is(100000);
        t.advance(1, 100000).is(100000);
        t.advance(2, 100000).is(100001);
        t.sell(0, 1000).is(0);
        t.leftIs(99750, 99750, 99751, 99725);
        t.paidIs(15, 0, 0, 0);
    }

    /** The floor and what is left then are gotten too, and held against the advance. */
    private static void promise18_selling_allThatIsGottenIsHeldAgainstTheAdvance() {
        Trial t = Trial.printedOf(3, 0, 1);
        t.setFloor(10).is(0);
        t.advance(0, 70).is(70);
        t.advance(2, 29).is(29);
        // As without advances: 9 + 60 + 1, and 9 + 20.
        t.sell(0, 99).is(0);
        t.leftIs(0, 0, 0, 0);
        t.paidIs(0, 0, 0, 0);
        t.sell(0, 99).is(99);
        t.paidIs(70, 0, 29, 0);
    }

    private static void promise18_selling_whoGetsNothingKeepsTheAdvance() {
        Trial t = Trial.printedOf(59, 1);
        t.advance(1, 5).is(5);
        t.advance(2, 6).is(6);
        t.sell(0, 59).is(59);
        t.leftIs(0, 5, 6, 0);
        t.paidIs(59, 0, 0, 0);
    }

    // ---- promise 19: paid

    private static void promise19_authorIs0To3() {
        Trial t = Trial.printedOf(4, 3, 2, 1);
        t.sell(0, 10).is(10);
        for (int author : Trial.NO_AUTHORS) {
            t.paid(author).isRefused(Check.ARGUMENT);
            new Trial().paid(author).isRefused(Check.ARGUMENT);
        }
        for (int author : Trial.AUTHORS) {
            t.paid(author).isAndChangesNothing(4 - author);
            new Trial().paid(author).isAndChangesNothing(0);
        }
    }

    private static void promise19_salesAddUp() {
        Trial t = Trial.printedOf(1, 1);
        t.print(1).is(1);
        t.sell(0, 20).is(20);
        t.sell(1, 5).is(5);
        t.sell(0, 20).is(20);
        t.paidIs(20, 25, 0, 0);
    }

    private static void promise19_advancesAreNotCounted() {
        Trial t = Trial.printedOf(1);
        t.advance(0, 100).is(100);
        t.paid(0).is(0);
        t.sell(0, 60).is(0);
        t.paid(0).is(0);
        t.sell(0, 60).is(20);
        t.paid(0).is(20);
        t.advance(0, 5).is(5);
        t.paid(0).is(20);
    }

    private static void promise19_whatItIs_512Calls() {
        Trial t = Trial.written(1);
        t.print(0).is(0);
        for (int call = 2; call < 511; call++) {
            t.sell(0, 1000000).is(1000000);
        }
        t.paid(0).is(509000000L);
        Check.told("calls", "512", "" + t.calls());
    }

    // ---- promise 20: left

    private static void promise20_authorIs0To3() {
        Trial t = Trial.printedOf(1);
        for (int author : Trial.AUTHORS) {
            t.advance(author, 30 + author).is(30 + author);
        }
        for (int author : Trial.NO_AUTHORS) {
            t.left(author).isRefused(Check.ARGUMENT);
            new Trial().left(author).isRefused(Check.ARGUMENT);
        }
        for (int author : Trial.AUTHORS) {
            t.left(author).isAndChangesNothing(30 + author);
            new Trial().left(author).isAndChangesNothing(0);
        }
    }

    private static void promise20_itIsNeverLessThan0() {
        Trial t = Trial.printedOf(1);
        t.advance(0, 3).is(3);
        t.sell(0, 2).is(0);
        t.left(0).is(1);
        t.sell(0, 1).is(0);
        t.left(0).is(0);
        t.sell(0, 1).is(1);
        t.left(0).is(0);
    }

    private static void promise20_onlyAdvancesAndSalesChangeIt() {
        Trial t = Trial.printedOf(1, 1);
        t.advance(0, 8).is(8);
        t.setFloor(20).is(0);
        t.print(3).is(1);
        t.remove(3, 0).is(1);
        t.leftIs(8, 0, 0, 0);
        t.sell(1, 4).is(2);
        t.leftIs(6, 0, 0, 0);
    }

    private static void promise20_whatItIs_theGreatestAdvanceAndSale() {
        Trial t = Trial.printedOf(1);
        for (int turn = 1; turn <= 11; turn++) {
            t.advance(0, 100000).is(100000 * turn);
        }
        t.sell(0, 1000000).is(0);
        t.left(0).is(100000);
        t.sell(0, 1000000).is(900000);
        t.left(0).is(0);
        t.paid(0).is(900000);
    }
}
