/** Promises 1 to 5: a new object, insert, remove, restore, learn. */
public final class EditingTest {
    private static final int LEAST = Integer.MIN_VALUE;
    private static final int MOST = Integer.MAX_VALUE;

    public static void main(String[] args) {
        Check.runTests(EditingTest.class,
                "promise01", "promise02", "promise03", "promise04", "promise05");
    }

    // ---- promise 1: a new object

    private static void promise01_copiesAreEmpty() {
        Trial t = new Trial();
        t.signs().is(0);
        for (int author : Trial.AUTHORS) {
            t.length(author).is(0);
            t.signAt(author, 0).isRefused(Check.INDEX);
            for (int other : Trial.AUTHORS) {
                t.areAlike(author, other).is(true);
            }
        }
    }

    private static void promise01_clocksAre0() {
        new Trial().clocksAre(0, 0, 0, 0);
    }

    private static void promise01_noEditions() {
        Trial t = new Trial();
        t.printed(0, 0).isRefused(Check.INDEX);
        t.sell(0, 1).isRefused(Check.INDEX);
    }

    private static void promise01_floorIs0AndNoMoneyIsThere() {
        Trial t = new Trial();
        t.paidIs(0, 0, 0, 0);
        t.leftIs(0, 0, 0, 0);
        t.setFloor(0).is(0);
    }

    private static void promise01_objectsShareNothing() {
        Trial first = new Trial();
        Trial second = new Trial();
        first.insert(0, 0, 3).is(0);
        first.print(0).is(0);
        first.setFloor(9).is(0);
        first.advance(1, 5).is(5);
        second.signs().is(0);
        second.clocksAre(0, 0, 0, 0);
        second.printed(0, 0).isRefused(Check.INDEX);
        second.leftIs(0, 0, 0, 0);
        second.setFloor(0).is(0);
        second.insert(2, 0, 4).is(0);
        first.authorOf(0).is(0);
        second.authorOf(0).is(2);
    }

    /** 'What it is': an object is used for 512 calls, the last of which still holds. */
    private static void promise01_whatItIs_512Calls() {
        Trial t = new Trial();
        t.insert(0, 0, 1).is(0);
        for (int pair = 0; pair < 255; pair++) {
            t.remove(0, 0).is(0);
            t.restore(0, 0).is(0);
        }
        t.clock(0).is(511);
        Check.told("calls", "512", "" + t.calls());
    }

    private static void promise01_whatItIs_call512IsRefused() {
        Trial t = new Trial();
        t.insert(0, 0, 1).is(0);
        for (int ask = 0; ask < 510; ask++) {
            t.signAt(0, 0).is(0);
        }
        t.insert(0, 2, 1).isRefusedAtTheEnd(Check.INDEX);
        Check.told("calls", "512", "" + t.calls());
    }

    // ---- promise 2: insert

    private static void promise02_authorIs0To3() {
        Trial t = new Trial();
        t.insert(0, 0, 0).is(0);
        t.insert(3, 0, 0).is(1);
        t.insert(1, 0, 0).is(2);
        t.insert(2, 0, 0).is(3);
        for (int author : Trial.NO_AUTHORS) {
            t.insert(author, 0, 0).isRefused(Check.ARGUMENT);
        }
    }

    private static void promise02_authorOutOfRangeInANewObject() {
        for (int author : Trial.NO_AUTHORS) {
            new Trial().insert(author, 0, 0).isRefused(Check.ARGUMENT);
        }
    }

    private static void promise02_letterIs0To25() {
        Trial t = new Trial();
        t.insert(0, 0, 0).is(0);
        t.insert(0, 1, 25).is(1);
        t.letterAt(0, 0).is(0);
        t.letterAt(0, 1).is(25);
        for (int letter : new int[] {-1, 26, LEAST, MOST}) {
            t.insert(0, 0, letter).isRefused(Check.ARGUMENT);
        }
    }

    private static void promise02_placeIs0InAnEmptyText() {
        Trial t = new Trial();
        for (int place : new int[] {-1, 1, LEAST, MOST}) {
            t.insert(2, place, 0).isRefused(Check.INDEX);
        }
        t.insert(2, 0, 0).is(0);
        t.textIs(2, 0);
    }

    private static void promise02_placeIs0ToTheLength() {
        Trial t = Trial.written(3);
        for (int place : new int[] {-1, 4, LEAST, MOST}) {
            t.insert(0, place, 0).isRefused(Check.INDEX);
        }
        t.insert(0, 3, 0).is(3);
        t.textIs(0, 0, 1, 2, 3);
        t.insert(0, 0, 0).is(4);
        t.textIs(0, 4, 0, 1, 2, 3);
    }

    private static void promise02_placeIsInTheTextOfTheCopy() {
        Trial t = Trial.written(3, 1);
        t.insert(1, 2, 0).isRefused(Check.INDEX);
        t.insert(2, 1, 0).isRefused(Check.INDEX);
        t.insert(1, 1, 0).is(4);
        t.textIs(1, 3, 4);
    }

    private static void promise02_removedSignsAreNoPlaces() {
        Trial t = Trial.written(2);
        t.remove(0, 1).is(1);
        t.insert(0, 2, 0).isRefused(Check.INDEX);
        t.remove(0, 0).is(0);
        t.insert(0, 1, 0).isRefused(Check.INDEX);
        t.insert(0, 0, 0).is(2);
    }

    /** 'Signs': numbered from 0, over all copies, in the order in which they are inserted. */
    private static void promise02_signs_numbersGoOverAllCopies() {
        Trial t = new Trial();
        t.insert(3, 0, 0).is(0);
        t.insert(0, 0, 0).is(1);
        t.insert(3, 0, 0).is(2);
        t.remove(3, 0).is(2);
        t.insert(1, 0, 0).is(3);
        t.textIs(3, 0);
        t.textIs(0, 1);
        t.textIs(1, 3);
    }

    /** 'Signs': at most 60 are. */
    private static void promise02_signs_sixtyOfOneAuthor() {
        Trial t = Trial.written(59);
        t.insert(0, 59, 7).is(59);
        t.insert(0, 0, 0).isRefused(Check.STATE);
        t.insert(0, 60, 0).isRefused(Check.STATE);
        t.insert(1, 0, 0).isRefused(Check.STATE);
        t.signAt(0, 59).is(59);
        t.signs().is(60);
    }

    private static void promise02_signs_sixtyOverAllCopies() {
        Trial t = Trial.written(15, 15, 15, 14);
        t.insert(1, 15, 25).is(59);
        for (int author : Trial.AUTHORS) {
            t.insert(author, 0, 0).isRefused(Check.STATE);
        }
    }

    private static void promise02_signs_removedOnesCountAmongThe60() {
        Trial t = Trial.written(59);
        t.remove(0, 58).is(58);
        t.insert(0, 0, 0).is(59);
        t.remove(0, 0).is(59);
        t.insert(0, 0, 0).isRefused(Check.STATE);
    }

    /** 'Terms': if several exceptions apply, the one that is listed first. */
    private static void promise02_terms_firstListedException() {
        Trial t = Trial.written(60);
        t.insert(4, 0, 0).isRefused(Check.ARGUMENT);
        t.insert(0, 0, 26).isRefused(Check.ARGUMENT);
        t.insert(-1, 61, 0).isRefused(Check.ARGUMENT);
        t.insert(0, 61, -1).isRefused(Check.ARGUMENT);
        t.insert(0, -1, 26).isRefused(Check.ARGUMENT);
        t.insert(0, 61, 0).isRefused(Check.INDEX);
        t.insert(0, -1, 0).isRefused(Check.INDEX);
        t.insert(1, 1, 0).isRefused(Check.INDEX);
        Trial few = Trial.written(1);
        few.insert(4, 2, 0).isRefused(Check.ARGUMENT);
        few.insert(-1, -1, 26).isRefused(Check.ARGUMENT);
        few.insert(0, 2, 26).isRefused(Check.ARGUMENT);
        few.insert(0, -1, -1).isRefused(Check.ARGUMENT);
    }

    /** 'Editing': for the place 0, a sign behind the beginning. */
    private static void promise02_editing_place0IsTheBeginning() {
        Trial t = Trial.written(1);
        t.insert(0, 0, 0).is(1);
        t.behind(0).is(CoauthorText.NONE);
        t.behind(1).is(CoauthorText.NONE);
        t.textIs(0, 1, 0);
        t.remove(0, 0).is(1);
        t.insert(0, 0, 0).is(2);
        t.behind(2).is(CoauthorText.NONE);
        t.remove(0, 0).is(2);
        t.remove(0, 0).is(0);
        t.insert(0, 0, 0).is(3);
        t.behind(3).is(CoauthorText.NONE);
    }

    /** 'Editing': behind the sign at the place ahead in the text of this copy. */
    private static void promise02_editing_behindTheSignAtThePlaceAhead() {
        Trial t = Trial.written(3);
        t.insert(0, 1, 0).is(3);
        t.behind(3).is(0);
        t.textIs(0, 0, 3, 1, 2);
        t.insert(0, 4, 0).is(4);
        t.behind(4).is(2);
        t.insert(0, 3, 0).is(5);
        t.behind(5).is(1);
        t.textIs(0, 0, 3, 1, 5, 2, 4);
    }

    private static void promise02_editing_removedSignsAreNotAhead() {
        Trial t = Trial.written(3);
        t.remove(0, 1).is(1);
        t.insert(0, 1, 0).is(3);
        t.behind(3).is(0);
        t.textIs(0, 0, 3, 2);
        t.insert(0, 3, 0).is(4);
        t.behind(4).is(2);
    }

    private static void promise02_signs_clockBecomes1More() {
        Trial t = new Trial();
        t.insert(2, 0, 0).is(0);
        t.clocksAre(0, 0, 1, 0);
        t.insert(2, 1, 0).is(1);
        t.clocksAre(0, 0, 2, 0);
        t.insert(0, 0, 0).is(2);
        t.clocksAre(1, 0, 2, 0);
    }

    /** 'Signs': the clock, one more already, is that of the sign. */
    private static void promise02_signs_theClockIsThatOfTheSign() {
        Trial t = new Trial();
        t.insert(0, 0, 0).is(0);
        t.insert(1, 0, 0).is(1);
        t.remove(0, 0).is(0);
        t.restore(0, 0).is(0);
        t.insert(0, 0, 0).is(2);
        // Author 1 gets to 3 and inserts with 4, the same as the clock of sign 2.
        t.remove(1, 0).is(1);
        t.restore(1, 1).is(0);
        t.insert(1, 0, 0).is(3);
        t.learn(3, 0).is(2);
        t.learn(3, 1).is(2);
        t.textIs(3, 3, 2, 1, 0);
    }

    private static void promise02_otherCopiesDoNotKnowTheSign() {
        Trial t = Trial.written(1);
        t.textIs(0, 0);
        for (int author = 1; author < 4; author++) {
            t.length(author).is(0);
            t.restore(author, 0).isRefused(Check.STATE);
        }
    }

    // ---- promise 3: remove

    private static void promise03_authorIs0To3() {
        Trial t = Trial.written(1, 1, 1, 1);
        for (int author : Trial.NO_AUTHORS) {
            t.remove(author, 0).isRefused(Check.ARGUMENT);
        }
        for (int author : Trial.AUTHORS) {
            t.remove(author, 0).is(author);
        }
    }

    private static void promise03_noPlaceInAnEmptyText() {
        Trial t = new Trial();
        for (int place : new int[] {-1, 0, 1, LEAST, MOST}) {
            t.remove(0, place).isRefused(Check.INDEX);
        }
    }

    private static void promise03_placeIs0ToTheLastOne() {
        Trial t = Trial.written(3);
        for (int place : new int[] {-1, 3, LEAST, MOST}) {
            t.remove(0, place).isRefused(Check.INDEX);
        }
        t.remove(0, 2).is(2);
        t.textIs(0, 0, 1);
        t.remove(0, 2).isRefused(Check.INDEX);
        t.remove(0, 0).is(0);
        t.textIs(0, 1);
        t.remove(0, 1).isRefused(Check.INDEX);
        t.remove(0, 0).is(1);
        t.textIs(0);
        t.remove(0, 0).isRefused(Check.INDEX);
    }

    private static void promise03_placesOfAFullText() {
        Trial t = Trial.written(60);
        t.remove(0, 60).isRefused(Check.INDEX);
        t.remove(0, -1).isRefused(Check.INDEX);
        t.remove(0, 59).is(59);
        t.remove(0, 59).isRefused(Check.INDEX);
        t.remove(0, 0).is(0);
        t.length(0).is(58);
    }

    private static void promise03_placeIsInTheTextOfTheCopy() {
        Trial t = Trial.written(2);
        t.learn(1, 0).is(2);
        t.remove(1, 0).is(0);
        t.remove(1, 1).isRefused(Check.INDEX);
        t.remove(2, 0).isRefused(Check.INDEX);
        t.remove(0, 1).is(1);
        t.textIs(0, 0);
        t.textIs(1, 1);
    }

    private static void promise03_terms_firstListedException() {
        Trial t = Trial.written(1);
        t.remove(4, 1).isRefused(Check.ARGUMENT);
        t.remove(-1, -1).isRefused(Check.ARGUMENT);
        new Trial().remove(4, 0).isRefused(Check.ARGUMENT);
    }

    private static void promise03_signs_clockBecomes1More() {
        Trial t = Trial.written(1, 1);
        t.remove(1, 0).is(1);
        t.clocksAre(1, 2, 0, 0);
        t.remove(0, 0).is(0);
        t.clocksAre(2, 2, 0, 0);
    }

    private static void promise03_whatIsBehindARemovedSignStays() {
        Trial t = Trial.written(3);
        t.remove(0, 0).is(0);
        t.textIs(0, 1, 2);
        t.behind(1).is(0);
        t.remove(0, 0).is(1);
        t.textIs(0, 2);
        t.signs().is(3);
    }

    /** 'Editing': a new stamp, which is greater than the one before. */
    private static void promise03_editing_theLatestStampOfACopyCounts() {
        Trial t = Trial.written(1);
        t.learn(1, 0).is(1);
        t.remove(0, 0).is(0);
        t.restore(0, 0).is(0);
        t.remove(0, 0).is(0);
        // The stamp by author 1 is (3, 1), and that of author 0 is (4, 0).
        t.remove(1, 0).is(0);
        t.restore(1, 0).is(0);
        t.learn(1, 0).is(0);
        t.textIs(1);
    }

    // ---- promise 4: restore

    private static void promise04_noSignInANewObject() {
        Trial t = new Trial();
        for (int sign : new int[] {-1, 0, 1, 59, 60, LEAST, MOST}) {
            t.restore(0, sign).isRefused(Check.INDEX);
        }
    }

    private static void promise04_signIs0ToTheLastOne() {
        Trial t = Trial.written(3);
        t.remove(0, 0).is(0);
        t.remove(0, 1).is(2);
        for (int sign : new int[] {-1, 3, 59, 60, LEAST, MOST}) {
            t.restore(0, sign).isRefused(Check.INDEX);
        }
        t.restore(0, 2).is(1);
        t.restore(0, 0).is(0);
        t.textIs(0, 0, 1, 2);
    }

    private static void promise04_signsWhenAll60AreInserted() {
        Trial t = Trial.written(60);
        t.remove(0, 59).is(59);
        t.restore(0, 60).isRefused(Check.INDEX);
        t.restore(0, -1).isRefused(Check.INDEX);
        t.restore(0, 59).is(59);
        t.remove(0, 0).is(0);
        t.restore(0, 0).is(0);
        t.length(0).is(60);
    }

    private static void promise04_authorIs0To3() {
        Trial t = Trial.written(1, 1, 1, 1);
        for (int author : Trial.AUTHORS) {
            t.remove(author, 0).is(author);
        }
        for (int author : Trial.NO_AUTHORS) {
            t.restore(author, 0).isRefused(Check.ARGUMENT);
        }
        for (int author : Trial.AUTHORS) {
            t.restore(author, author).is(0);
        }
    }

    private static void promise04_copyDoesNotKnowTheSign() {
        Trial t = Trial.written(1, 1);
        t.remove(0, 0).is(0);
        t.restore(1, 0).isRefused(Check.STATE);
        t.restore(2, 0).isRefused(Check.STATE);
        t.restore(0, 1).isRefused(Check.STATE);
    }

    private static void promise04_copyKnowsTheSignAsNeverRemoved() {
        Trial t = Trial.written(2);
        t.restore(0, 0).isRefused(Check.STATE);
        t.restore(0, 1).isRefused(Check.STATE);
        t.learn(1, 0).is(2);
        t.remove(0, 0).is(0);
        t.restore(1, 0).isRefused(Check.STATE);
        // A refused restoration leaves no stamp, which with this clock would be the greater one.
        t.write(1, 3, 2, 2);
        t.restore(1, 0).isRefused(Check.STATE);
        t.learn(1, 0).is(0);
        t.restore(1, 0).is(0);
    }

    private static void promise04_copyKnowsTheSignAsRestored() {
        Trial t = Trial.written(1);
        t.remove(0, 0).is(0);
        t.learn(1, 0).is(1);
        t.restore(0, 0).is(0);
        t.restore(0, 0).isRefused(Check.STATE);
        t.learn(1, 0).is(0);
        t.restore(1, 0).isRefused(Check.STATE);
        t.remove(0, 0).is(0);
        t.write(1, 3, 1, 1);
        t.restore(1, 0).isRefused(Check.STATE);
        t.learn(1, 0).is(0);
        t.restore(1, 0).is(0);
    }

    private static void promise04_aRemovalOfAnotherAuthorThatIsKnown() {
        Trial t = Trial.written(1);
        t.learn(1, 0).is(1);
        t.remove(0, 0).is(0);
        t.learn(1, 0).is(0);
        t.learn(2, 0).is(1);
        t.restore(1, 0).is(0);
        t.restore(2, 0).is(0);
        t.textIs(0);
        t.textIs(1, 0);
        t.textIs(2, 0);
    }

    private static void promise04_terms_firstListedException() {
        Trial t = Trial.written(1);
        t.restore(4, 1).isRefused(Check.INDEX);
        t.restore(-1, -1).isRefused(Check.INDEX);
        t.restore(MOST, 60).isRefused(Check.INDEX);
        t.restore(4, 0).isRefused(Check.ARGUMENT);
        t.restore(-1, 0).isRefused(Check.ARGUMENT);
        new Trial().restore(4, 0).isRefused(Check.INDEX);
    }

    private static void promise04_returnsThePlaceInTheTextThen() {
        Trial t = Trial.written(4);
        t.remove(0, 3).is(3);
        t.restore(0, 3).is(3);
        t.remove(0, 1).is(1);
        t.restore(0, 1).is(1);
        t.remove(0, 0).is(0);
        t.remove(0, 0).is(1);
        // What is removed ahead of it is no place.
        t.remove(0, 0).is(2);
        t.restore(0, 2).is(0);
        t.textIs(0, 2, 3);
        t.restore(0, 0).is(0);
        t.restore(0, 1).is(1);
    }

    private static void promise04_returnsThePlaceInItsOwnText() {
        Trial t = Trial.written(1, 1);
        t.learn(2, 0).is(1);
        t.learn(2, 1).is(1);
        t.remove(0, 0).is(0);
        t.remove(2, 1).is(0);
        t.restore(2, 0).is(1);
        t.restore(0, 0).is(0);
    }

    private static void promise04_signs_clockBecomes1More() {
        Trial t = Trial.written(1);
        t.remove(0, 0).is(0);
        t.learn(3, 0).is(1);
        t.restore(3, 0).is(0);
        t.clocksAre(2, 0, 0, 3);
        t.restore(0, 0).is(0);
        t.clocksAre(3, 0, 0, 3);
    }

    // ---- promise 5: learn

    private static void promise05_authorAndFromAre0To3() {
        Trial t = Trial.written(1, 1, 1, 1);
        for (int author : Trial.NO_AUTHORS) {
            t.learn(author, 0).isRefused(Check.ARGUMENT);
            t.learn(author, 3).isRefused(Check.ARGUMENT);
            t.learn(0, author).isRefused(Check.ARGUMENT);
            t.learn(3, author).isRefused(Check.ARGUMENT);
            t.learn(author, author).isRefused(Check.ARGUMENT);
            t.learn(author, -1 - author).isRefused(Check.ARGUMENT);
        }
        t.learn(0, 3).is(1);
        t.learn(3, 0).is(1);
        t.learn(1, 2).is(1);
        t.learn(2, 1).is(1);
    }

    private static void promise05_everyCopyLearnsFromEveryOtherOne() {
        for (int author : Trial.AUTHORS) {
            for (int from : Trial.AUTHORS) {
                if (author != from) {
                    Trial t = Trial.written(1, 2, 3, 4);
                    t.learn(author, from).is(from + 1);
                    t.length(author).is(author + from + 2);
                    t.length(from).is(from + 1);
                    t.clock(author).is(Math.max(author, from) + 1);
                }
            }
        }
    }

    private static void promise05_fromIsAnotherOne() {
        Trial t = Trial.written(1, 1);
        for (int author : Trial.AUTHORS) {
            t.learn(author, author).isRefused(Check.ARGUMENT);
        }
    }

    private static void promise05_learnsNothingFromAnEmptyCopy() {
        Trial t = new Trial();
        t.learn(0, 1).is(0);
        t.insert(0, 0, 1).is(0);
        t.learn(0, 1).is(0);
        t.textIs(0, 0);
        t.textIs(1);
        t.clocksAre(1, 0, 0, 0);
    }

    private static void promise05_learnsAll60() {
        Trial t = Trial.written(60);
        t.learn(3, 0).is(60);
        t.learn(3, 0).is(0);
        t.areAlike(0, 3).is(true);
        t.length(3).is(60);
        t.signAt(3, 0).is(0);
        t.signAt(3, 59).is(59);
    }

    private static void promise05_returnsHowManyItDidNotKnow() {
        Trial t = Trial.written(2, 3);
        t.learn(0, 1).is(3);
        t.learn(0, 1).is(0);
        t.insert(1, 0, 0).is(5);
        t.learn(0, 1).is(1);
        t.learn(1, 0).is(2);
        t.learn(2, 1).is(6);
        t.learn(2, 0).is(0);
    }

    /** 'Editing': it knows all signs then that the other one knows, removed ones too. */
    private static void promise05_editing_removedSignsAreLearnedAndCount() {
        Trial t = Trial.written(3);
        t.remove(0, 1).is(1);
        t.learn(1, 0).is(3);
        t.textIs(1, 0, 2);
        t.restore(1, 1).is(1);
        t.textIs(1, 0, 1, 2);
        t.learn(1, 0).is(0);
        t.learn(0, 1).is(0);
        t.textIs(0, 0, 1, 2);
    }

    private static void promise05_editing_removedWithNothingElse() {
        Trial t = Trial.written(1);
        t.remove(0, 0).is(0);
        t.learn(3, 0).is(1);
        t.textIs(3);
        t.learn(3, 0).is(0);
        t.learn(2, 3).is(1);
        t.restore(2, 0).is(0);
    }

    private static void promise05_removalsAreNotSignsThatItDidNotKnow() {
        Trial t = Trial.written(2);
        t.learn(1, 0).is(2);
        t.remove(0, 0).is(0);
        t.learn(1, 0).is(0);
        t.textIs(1, 1);
        t.restore(0, 0).is(0);
        t.learn(1, 0).is(0);
        t.textIs(1, 0, 1);
    }

    private static void promise05_theOtherCopyLearnsNothing() {
        Trial t = Trial.written(1, 3);
        t.remove(0, 0).is(0);
        t.learn(0, 1).is(3);
        t.textIs(1, 1, 2, 3);
        t.restore(1, 0).isRefused(Check.STATE);
        t.clocksAre(3, 3, 0, 0);
    }

    private static void promise05_whatItKnewItStillKnows() {
        Trial t = Trial.written(2, 1);
        t.remove(0, 0).is(0);
        t.learn(0, 1).is(1);
        t.textIs(0, 2, 1);
        t.restore(0, 0).is(1);
        t.textIs(0, 2, 0, 1);
    }

    private static void promise05_signsOfThirdOnesAreLearnedToo() {
        Trial t = Trial.written(1);
        t.learn(1, 0).is(1);
        t.insert(1, 1, 0).is(1);
        t.learn(2, 1).is(2);
        t.insert(2, 2, 0).is(2);
        t.learn(3, 2).is(3);
        t.textIs(3, 0, 1, 2);
        t.textIs(0, 0);
    }

    /** Sign 0 is removed by the author 0 with the stamp (2, 0), and all copies know that. */
    private static Trial removedEverywhere() {
        Trial t = Trial.written(1);
        t.remove(0, 0).is(0);
        for (int author = 1; author < 4; author++) {
            t.learn(author, 0).is(1);
        }
        return t;
    }

    /** Two authors set the sign 0: one restores it, the other one ends with it removed. */
    private static Trial setByTwo(int restorer, int restoredAt, int remover, int removedAt) {
        Trial t = removedEverywhere();
        for (int clock = 2; clock < restoredAt; clock += 2) {
            t.restore(restorer, 0).is(0);
            if (clock + 1 < restoredAt) {
                t.remove(restorer, 0).is(0);
            }
        }
        for (int clock = 2; clock < removedAt; clock += 2) {
            t.restore(remover, 0).is(0);
            t.remove(remover, 0).is(0);
        }
        t.clock(remover).is(removedAt);
        return t;
    }

    private static void eachOfBothHolds(Trial t, int one, int other, boolean removed) {
        int[] text = removed ? new int[0] : new int[] {0};
        int third = 0;
        while (third == one || third == other) {
            third++;
        }
        // A third copy hears of both, the later stamp first and last.
        t.learn(third, one).is(0);
        t.learn(third, other).is(0);
        t.learn(third, one).is(0);
        t.textIs(third, text);
        t.learn(one, other).is(0);
        t.textIs(one, text);
        t.learn(other, one).is(0);
        t.textIs(other, text);
    }

    /** 'Editing': the greater clock counts, whichever author is greater. */
    private static void promise05_editing_greaterClockOfTheRestoration() {
        for (int restorer : Trial.AUTHORS) {
            for (int remover : Trial.AUTHORS) {
                if (restorer != remover) {
                    Trial t = setByTwo(restorer, 5, remover, 4);
                    t.clock(restorer).is(5);
                    eachOfBothHolds(t, restorer, remover, false);
                }
            }
        }
    }

    private static void promise05_editing_greaterClockOfTheRemoval() {
        for (int restorer : Trial.AUTHORS) {
            for (int remover : Trial.AUTHORS) {
                if (restorer != remover) {
                    Trial t = setByTwo(restorer, 3, remover, 4);
                    t.clock(restorer).is(3);
                    eachOfBothHolds(t, remover, restorer, true);
                }
            }
        }
    }

    /** 'Editing': with the same clock the greater author counts. */
    private static void promise05_editing_greaterAuthorOfTheSameClock() {
        for (int restorer : Trial.AUTHORS) {
            for (int remover : Trial.AUTHORS) {
                if (restorer != remover) {
                    sameClock(restorer, remover);
                }
            }
        }
    }

    private static void sameClock(int restorer, int remover) {
        Trial t = removedEverywhere();
        t.insert(restorer, 0, 0).is(1);
        t.restore(restorer, 0).is(1);
        t.restore(remover, 0).is(0);
        t.remove(remover, 0).is(0);
        t.clock(restorer).is(4);
        t.clock(remover).is(4);
        int[] text = restorer > remover ? new int[] {1, 0} : new int[] {1};
        t.learn(restorer, remover).is(0);
        t.textIs(restorer, text);
        t.learn(remover, restorer).is(1);
        t.textIs(remover, text);
    }

    /** 'Editing': one that was never removed has a stamp that is less than all others. */
    private static void promise05_editing_neverRemovedIsLessThanTheLeastStamp() {
        Trial t = Trial.written(1);
        t.learn(3, 0).is(1);
        // The clock of copy 3 is greater, but it set nothing about the sign 0.
        t.write(3, 4, 1, 1);
        t.remove(0, 0).is(0);
        t.learn(0, 3).is(4);
        t.textIs(0, 1, 2, 3, 4);
        t.learn(3, 0).is(0);
        t.textIs(3, 1, 2, 3, 4);
    }

    private static void promise05_editing_neverRemovedIsLessThanARestoration() {
        Trial t = Trial.written(1);
        for (int author = 1; author < 4; author++) {
            t.learn(author, 0).is(1);
        }
        t.remove(0, 0).is(0);
        t.restore(0, 0).is(0);
        t.remove(2, 0).is(0);
        // The restoration is (3, 0) and the removal (2, 2): copy 1 takes the first along.
        t.learn(1, 0).is(0);
        t.learn(1, 2).is(0);
        t.textIs(1, 0);
        // Copy 3 takes the removal first, and then the restoration.
        t.learn(3, 2).is(0);
        t.textIs(3);
        t.learn(3, 0).is(0);
        t.textIs(3, 0);
    }

    private static void promise05_editing_sameStampChangesNothing() {
        Trial t = removedEverywhere();
        t.learn(1, 0).isAndChangesNothing(0);
        t.learn(3, 2).isAndChangesNothing(0);
        t.textIs(1);
        t.restore(2, 0).is(0);
        t.learn(3, 2).is(0);
        t.learn(2, 3).isAndChangesNothing(0);
        t.textIs(2, 0);
        t.textIs(3, 0);
    }

    /** 'Signs': a copy knows "whether it is removed, with a stamp": of a sign that is new to it too. */
    private static void promise05_editing_aNewSignComesWithTheStampOfItsRemoval() {
        Trial t = Trial.written(1);
        t.learn(2, 0).is(1);
        t.remove(0, 0).is(0);
        t.restore(0, 0).is(0);
        t.remove(0, 0).is(0);
        t.remove(2, 0).is(0);
        t.restore(2, 0).is(0);
        // The removal is (4, 0), and the restoration (3, 2).
        t.learn(1, 0).is(1);
        t.learn(1, 2).is(0);
        t.textIs(1);
        t.learn(3, 1).is(1);
        t.learn(3, 2).is(0);
        t.textIs(3);
        t.learn(2, 3).is(0);
        t.textIs(2);
    }

    private static void promise05_editing_aNewSignComesWithTheStampOfItsRestoration() {
        Trial t = Trial.written(1);
        t.learn(2, 0).is(1);
        t.remove(0, 0).is(0);
        t.restore(0, 0).is(0);
        t.remove(2, 0).is(0);
        // The restoration is (3, 0), and the removal (2, 2).
        t.learn(1, 0).is(1);
        t.learn(1, 2).is(0);
        t.textIs(1, 0);
        t.learn(3, 1).is(1);
        t.learn(3, 2).is(0);
        t.textIs(3, 0);
        t.learn(2, 3).is(0);
        t.textIs(2, 0);
    }

    private static void promise05_editing_aNewSignThatWasNeverRemovedHasTheLeastStamp() {
        Trial t = Trial.written(1);
        t.write(1, 5, 1, 0);
        t.learn(1, 0).is(1);
        t.remove(0, 0).is(0);
        t.learn(1, 0).is(0);
        t.textIs(1, 1, 2, 3, 4, 5);
    }

    /** 'Editing': the clock becomes that of the other one, if that is greater. */
    private static void promise05_editing_theClockIfTheOtherIsGreater() {
        Trial less = Trial.written(3, 2);
        less.learn(0, 1).is(2);
        less.clocksAre(3, 2, 0, 0);
        Trial same = Trial.written(3, 3);
        same.learn(0, 1).is(3);
        same.clocksAre(3, 3, 0, 0);
        Trial greater = Trial.written(3, 4);
        greater.learn(0, 1).is(4);
        greater.clocksAre(4, 4, 0, 0);
        greater.insert(0, 0, 0).is(7);
        greater.clocksAre(5, 4, 0, 0);
        greater.learn(2, 3).is(0);
        greater.clocksAre(5, 4, 0, 0);
        greater.learn(2, 0).is(8);
        greater.clocksAre(5, 4, 5, 0);
    }

    private static void promise05_editing_theClockThoughNothingIsLearned() {
        Trial t = Trial.written(1);
        t.learn(1, 0).is(1);
        t.remove(0, 0).is(0);
        t.restore(0, 0).is(0);
        t.learn(1, 0).is(0);
        t.clocksAre(3, 3, 0, 0);
    }
}
