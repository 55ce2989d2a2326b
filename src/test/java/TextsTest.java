/** Promises 6 to 13: length, signAt, letterAt, areAlike, signs, authorOf, behind, clock. */
public final class TextsTest {
    private static final int LEAST = Integer.MIN_VALUE;
    private static final int MOST = Integer.MAX_VALUE;

    public static void main(String[] args) {
        Check.runTests(TextsTest.class, "promise06", "promise07", "promise08", "promise09",
                "promise10", "promise11", "promise12", "promise13");
    }

    /** Copy 0 knows the signs 0 and 1; copy 2 also sign 2, and sign 0 as removed. */
    private static Trial twoWriters() {
        Trial t = new Trial();
        t.insert(0, 0, 4).is(0);
        t.insert(0, 1, 25).is(1);
        t.learn(2, 0).is(2);
        t.insert(2, 1, 0).is(2);
        t.remove(2, 0).is(0);
        return t;
    }

    // ---- promise 6: length

    private static void promise06_authorIs0To3() {
        Trial t = Trial.written(4, 3, 2, 1);
        for (int author : Trial.NO_AUTHORS) {
            t.length(author).isRefused(Check.ARGUMENT);
            new Trial().length(author).isRefused(Check.ARGUMENT);
        }
        for (int author : Trial.AUTHORS) {
            t.length(author).isAndChangesNothing(4 - author);
        }
    }

    private static void promise06_emptyAndFull() {
        Trial t = new Trial();
        t.length(0).is(0);
        t.write(0, 59, 0, 0);
        t.length(0).is(59);
        t.insert(0, 0, 0).is(59);
        t.length(0).is(60);
        t.length(1).is(0);
    }

    private static void promise06_removedSignsAreNotInTheText() {
        Trial t = twoWriters();
        t.length(0).is(2);
        t.length(2).is(2);
        t.remove(0, 0).is(0);
        t.length(0).is(1);
        t.remove(0, 0).is(1);
        t.length(0).is(0);
        t.restore(0, 1).is(0);
        t.length(0).is(1);
    }

    // ---- promise 7: signAt

    private static void promise07_authorIs0To3() {
        Trial t = Trial.written(1, 1, 1, 1);
        for (int author : Trial.NO_AUTHORS) {
            t.signAt(author, 0).isRefused(Check.ARGUMENT);
        }
        for (int author : Trial.AUTHORS) {
            t.signAt(author, 0).isAndChangesNothing(author);
        }
    }

    private static void promise07_placeIs0ToTheLastOne() {
        Trial t = twoWriters();
        t.signAt(2, 0).is(2);
        t.signAt(2, 1).is(1);
        t.signAt(0, 0).is(0);
        t.signAt(0, 1).is(1);
        for (int place : new int[] {-1, 2, LEAST, MOST}) {
            t.signAt(2, place).isRefused(Check.INDEX);
            t.signAt(0, place).isRefused(Check.INDEX);
        }
    }

    private static void promise07_noPlaceInAnEmptyText() {
        Trial t = twoWriters();
        t.remove(2, 0).is(2);
        t.remove(2, 0).is(1);
        for (int place : new int[] {-1, 0, 1, LEAST, MOST}) {
            t.signAt(1, place).isRefused(Check.INDEX);
            t.signAt(2, place).isRefused(Check.INDEX);
            new Trial().signAt(0, place).isRefused(Check.INDEX);
        }
    }

    private static void promise07_placesOfAFullText() {
        Trial t = Trial.written(60);
        t.signAt(0, 0).is(0);
        t.signAt(0, 59).is(59);
        t.signAt(0, 60).isRefused(Check.INDEX);
        t.signAt(0, -1).isRefused(Check.INDEX);
    }

    private static void promise07_terms_firstListedException() {
        Trial t = twoWriters();
        t.signAt(4, 2).isRefused(Check.ARGUMENT);
        t.signAt(-1, -1).isRefused(Check.ARGUMENT);
        t.signAt(MOST, MOST).isRefused(Check.ARGUMENT);
    }

    // ---- promise 8: letterAt

    private static void promise08_authorIs0To3() {
        Trial t = new Trial();
        for (int author : Trial.AUTHORS) {
            t.insert(author, 0, 20 + author).is(author);
        }
        for (int author : Trial.NO_AUTHORS) {
            t.letterAt(author, 0).isRefused(Check.ARGUMENT);
        }
        for (int author : Trial.AUTHORS) {
            t.letterAt(author, 0).isAndChangesNothing(20 + author);
        }
    }

    private static void promise08_everyLetter() {
        Trial t = new Trial();
        for (int letter = 0; letter < 26; letter++) {
            t.insert(0, letter, letter).is(letter);
        }
        for (int letter = 0; letter < 26; letter++) {
            t.letterAt(0, letter).is(letter);
        }
    }

    private static void promise08_placeIs0ToTheLastOne() {
        Trial t = twoWriters();
        t.letterAt(0, 0).is(4);
        t.letterAt(0, 1).is(25);
        t.letterAt(2, 0).is(0);
        t.letterAt(2, 1).is(25);
        for (int place : new int[] {-1, 2, LEAST, MOST}) {
            t.letterAt(0, place).isRefused(Check.INDEX);
            t.letterAt(2, place).isRefused(Check.INDEX);
        }
    }

    private static void promise08_noPlaceInAnEmptyText() {
        Trial t = twoWriters();
        t.remove(0, 0).is(0);
        t.remove(0, 0).is(1);
        for (int place : new int[] {-1, 0, 1, LEAST, MOST}) {
            t.letterAt(0, place).isRefused(Check.INDEX);
            t.letterAt(3, place).isRefused(Check.INDEX);
            new Trial().letterAt(0, place).isRefused(Check.INDEX);
        }
    }

    private static void promise08_placesOfAFullText() {
        Trial t = Trial.written(60);
        t.letterAt(0, 0).is(0);
        t.letterAt(0, 59).is(59 % 26);
        t.letterAt(0, 60).isRefused(Check.INDEX);
        t.letterAt(0, -1).isRefused(Check.INDEX);
    }

    private static void promise08_terms_firstListedException() {
        Trial t = twoWriters();
        t.letterAt(4, 2).isRefused(Check.ARGUMENT);
        t.letterAt(-1, -1).isRefused(Check.ARGUMENT);
        t.letterAt(LEAST, LEAST).isRefused(Check.ARGUMENT);
    }

    private static void promise08_theLetterGoesWithItsSign() {
        Trial t = twoWriters();
        t.learn(1, 2).is(3);
        t.letterAt(1, 0).is(0);
        t.restore(1, 0).is(0);
        t.letterAt(1, 0).is(4);
        t.letterAt(1, 1).is(0);
        t.letterAt(1, 2).is(25);
    }

    // ---- promise 9: areAlike

    private static void promise09_authorAndOtherAre0To3() {
        Trial t = Trial.written(1, 0, 0, 1);
        for (int author : Trial.NO_AUTHORS) {
            t.areAlike(author, 0).isRefused(Check.ARGUMENT);
            t.areAlike(author, 3).isRefused(Check.ARGUMENT);
            t.areAlike(0, author).isRefused(Check.ARGUMENT);
            t.areAlike(3, author).isRefused(Check.ARGUMENT);
            t.areAlike(author, author).isRefused(Check.ARGUMENT);
        }
        t.areAlike(0, 3).isAndChangesNothing(0);
        t.areAlike(3, 0).isAndChangesNothing(0);
        t.areAlike(1, 2).isAndChangesNothing(1);
    }

    private static void promise09_everyCopyIsLikeItself() {
        Trial t = Trial.written(2, 0, 1);
        for (int author : Trial.AUTHORS) {
            t.areAlike(author, author).is(true);
            new Trial().areAlike(author, author).is(true);
        }
    }

    private static void promise09_emptyTexts() {
        Trial t = Trial.written(1);
        t.areAlike(0, 1).is(false);
        t.areAlike(1, 0).is(false);
        t.areAlike(1, 3).is(true);
        t.remove(0, 0).is(0);
        // It knows a sign, but its text is empty too.
        t.areAlike(0, 1).is(true);
        t.areAlike(1, 0).is(true);
    }

    private static void promise09_fullTexts() {
        Trial t = Trial.written(60);
        t.areAlike(0, 1).is(false);
        t.learn(1, 0).is(60);
        t.areAlike(0, 1).is(true);
        t.remove(1, 59).is(59);
        t.areAlike(0, 1).is(false);
        t.remove(0, 0).is(0);
        t.areAlike(0, 1).is(false);
        t.remove(1, 0).is(0);
        t.remove(0, 58).is(59);
        t.areAlike(0, 1).is(true);
    }

    private static void promise09_sameLettersOfOtherSigns() {
        Trial t = new Trial();
        t.insert(0, 0, 9).is(0);
        t.insert(1, 0, 9).is(1);
        t.areAlike(0, 1).is(false);
        t.learn(0, 1).is(1);
        t.areAlike(0, 1).is(false);
        t.areAlike(1, 0).is(false);
        t.learn(1, 0).is(1);
        t.areAlike(0, 1).is(true);
    }

    private static void promise09_oneIsTheBeginningOrTheEndOfTheOther() {
        Trial t = Trial.written(2);
        t.learn(1, 0).is(2);
        t.learn(2, 0).is(2);
        t.remove(1, 1).is(1);
        t.remove(2, 0).is(0);
        t.areAlike(0, 1).is(false);
        t.areAlike(1, 0).is(false);
        t.areAlike(0, 2).is(false);
        t.areAlike(2, 0).is(false);
        t.areAlike(1, 2).is(false);
    }

    private static void promise09_sameTextOfOtherKnowledge() {
        Trial t = Trial.written(1);
        t.learn(1, 0).is(1);
        t.insert(1, 1, 0).is(1);
        t.areAlike(0, 1).is(false);
        t.remove(1, 1).is(1);
        t.areAlike(0, 1).is(true);
        // Alike by stamps that are not the same.
        t.remove(0, 0).is(0);
        t.remove(1, 0).is(0);
        t.areAlike(0, 1).is(true);
        t.restore(1, 0).is(0);
        t.areAlike(0, 1).is(false);
    }

    // ---- promise 10: signs

    private static void promise10_emptyAndFull() {
        Trial t = new Trial();
        t.signs().isAndChangesNothing(0);
        t.insert(3, 0, 0).is(0);
        t.signs().isAndChangesNothing(1);
        t.write(0, 58, 1, 0);
        t.signs().is(59);
        t.insert(1, 0, 0).is(59);
        t.signs().isAndChangesNothing(60);
        t.insert(1, 0, 0).isRefused(Check.STATE);
        t.signs().is(60);
    }

    private static void promise10_onlyInsertingMakesThemMore() {
        Trial t = twoWriters();
        t.signs().is(3);
        t.learn(1, 2).is(3);
        t.remove(1, 0).is(2);
        t.restore(1, 2).is(0);
        t.print(1).is(0);
        t.signs().is(3);
        t.insert(1, 3, 0).isRefused(Check.INDEX);
        t.signs().is(3);
    }

    // ---- promise 11: authorOf

    private static void promise11_noSignInANewObject() {
        for (int sign : new int[] {-1, 0, 1, 59, 60, LEAST, MOST}) {
            new Trial().authorOf(sign).isRefused(Check.INDEX);
        }
    }

    private static void promise11_signIs0ToTheLastOne() {
        Trial t = twoWriters();
        t.authorOf(0).isAndChangesNothing(0);
        t.authorOf(1).isAndChangesNothing(0);
        t.authorOf(2).isAndChangesNothing(2);
        for (int sign : new int[] {-1, 3, 59, 60, LEAST, MOST}) {
            t.authorOf(sign).isRefused(Check.INDEX);
        }
    }

    private static void promise11_signsWhenAll60AreInserted() {
        Trial t = Trial.written(58, 0, 1, 1);
        t.authorOf(57).is(0);
        t.authorOf(58).is(2);
        t.authorOf(59).is(3);
        t.authorOf(60).isRefused(Check.INDEX);
        t.authorOf(-1).isRefused(Check.INDEX);
    }

    private static void promise11_theAuthorStays() {
        Trial t = twoWriters();
        t.learn(1, 2).is(3);
        t.remove(1, 0).is(2);
        t.authorOf(2).is(2);
        t.restore(1, 2).is(0);
        t.authorOf(2).is(2);
        t.authorOf(0).is(0);
    }

    // ---- promise 12: behind

    private static void promise12_noSignInANewObject() {
        for (int sign : new int[] {-1, 0, 1, 59, 60, LEAST, MOST}) {
            new Trial().behind(sign).isRefused(Check.INDEX);
        }
    }

    private static void promise12_noneIsTheBeginning() {
        Check.told("NONE", "-1", String.valueOf(CoauthorText.NONE));
        Trial t = Trial.written(1, 1);
        t.insert(0, 0, 0).is(2);
        for (int sign = 0; sign < 3; sign++) {
            t.behind(sign).isAndChangesNothing(-1);
        }
    }

    private static void promise12_signIs0ToTheLastOne() {
        Trial t = twoWriters();
        t.behind(0).isAndChangesNothing(CoauthorText.NONE);
        t.behind(1).isAndChangesNothing(0);
        t.behind(2).isAndChangesNothing(0);
        for (int sign : new int[] {-1, 3, 59, 60, LEAST, MOST}) {
            t.behind(sign).isRefused(Check.INDEX);
        }
    }

    private static void promise12_signsWhenAll60AreInserted() {
        Trial t = Trial.written(60);
        t.behind(0).is(CoauthorText.NONE);
        t.behind(1).is(0);
        t.behind(59).is(58);
        t.behind(60).isRefused(Check.INDEX);
        t.behind(-1).isRefused(Check.INDEX);
    }

    /** What is inserted between later, or removed, is not behind which a sign was inserted. */
    private static void promise12_itStaysAsItWasWhenInserted() {
        Trial t = Trial.written(2);
        t.insert(0, 1, 0).is(2);
        t.textIs(0, 0, 2, 1);
        t.behind(1).is(0);
        t.remove(0, 0).is(0);
        t.behind(1).is(0);
        t.behind(2).is(0);
        t.learn(3, 0).is(3);
        t.insert(3, 1, 0).is(3);
        t.behind(3).is(2);
    }

    // ---- promise 13: clock

    private static void promise13_authorIs0To3() {
        Trial t = Trial.written(4, 3, 2, 1);
        for (int author : Trial.NO_AUTHORS) {
            t.clock(author).isRefused(Check.ARGUMENT);
            new Trial().clock(author).isRefused(Check.ARGUMENT);
        }
        for (int author : Trial.AUTHORS) {
            t.clock(author).isAndChangesNothing(4 - author);
        }
    }

    /** 'Signs': 0 at first, and 1 more whenever its author inserts, removes or restores. */
    private static void promise13_signs_0AtFirstAndThen1More() {
        Trial t = new Trial();
        t.clock(1).is(0);
        t.insert(1, 0, 0).is(0);
        t.clock(1).is(1);
        t.remove(1, 0).is(0);
        t.clock(1).is(2);
        t.restore(1, 0).is(0);
        t.clock(1).is(3);
        t.clocksAre(0, 3, 0, 0);
    }

    private static void promise13_signs_nothingElseMovesIt() {
        Trial t = Trial.written(2, 1);
        t.learn(0, 1).is(1);
        t.learn(0, 2).is(0);
        t.print(0).is(0);
        t.setFloor(4).is(0);
        t.advance(0, 4).is(4);
        t.sell(0, 40).is(36);
        t.length(0).is(3);
        t.areAlike(0, 1).is(false);
        t.insert(0, 4, 0).isRefused(Check.INDEX);
        t.remove(0, 3).isRefused(Check.INDEX);
        t.restore(0, 0).isRefused(Check.STATE);
        t.clocksAre(2, 1, 0, 0);
    }

    private static void promise13_editing_learningBringsTheGreaterOne() {
        Trial t = Trial.written(2, 5);
        t.learn(0, 1).is(5);
        t.clock(0).is(5);
        t.learn(2, 0).is(7);
        t.clock(2).is(5);
        t.insert(2, 0, 0).is(7);
        t.learn(1, 2).is(3);
        t.clocksAre(5, 6, 6, 0);
    }

    private static void promise13_whatItIs_theClockGoesRoundThroughAllCopies() {
        Trial t = Trial.written(1);
        int clock = 1;
        for (int turn = 0; turn < 127; turn++) {
            int author = (turn + 1) % 4;
            t.learn(author, turn % 4).is(turn < 3 ? 1 : 0);
            t.clock(author).is(clock);
            if (turn % 2 == 0) {
                t.remove(author, 0).is(0);
            } else {
                t.restore(author, 0).is(0);
            }
            clock++;
            t.clock(author).is(clock);
        }
        Check.told("clock", "128", "" + clock);
    }
}
