/** Promise 7, the order of the signs: what 'The order' says of it. */
public final class OrderTest {
    private static final int[][] WAYS = {
        {0, 1, 2}, {0, 2, 1}, {1, 0, 2}, {1, 2, 0}, {2, 0, 1}, {2, 1, 0}};

    public static void main(String[] args) {
        Check.runTests(OrderTest.class, "promise07");
    }

    /** Copy 3 learns from the others in this order; what it holds then does not depend on it. */
    private static void learnAll(Trial t, int[] way, int... unknown) {
        for (int from : way) {
            t.learn(3, from).is(unknown[from]);
        }
    }

    private static void promise07_order_greaterClockFirstBehindTheBeginning() {
        Trial t = new Trial();
        t.insert(0, 0, 0).is(0);
        t.insert(0, 0, 0).is(1);
        t.insert(0, 0, 0).is(2);
        t.textIs(0, 2, 1, 0);
    }

    private static void promise07_order_greaterClockFirstBehindASign() {
        Trial t = Trial.written(1);
        t.insert(0, 1, 0).is(1);
        t.insert(0, 1, 0).is(2);
        t.insert(0, 1, 0).is(3);
        t.textIs(0, 0, 3, 2, 1);
    }

    private static void promise07_order_greaterAuthorOfTheSameClockBehindTheBeginning() {
        for (int[] way : WAYS) {
            Trial t = Trial.written(1, 1, 1, 1);
            learnAll(t, way, 1, 1, 1);
            t.textIs(3, 3, 2, 1, 0);
        }
    }

    private static void promise07_order_greaterAuthorOfTheSameClockBehindASign() {
        for (int[] way : WAYS) {
            Trial t = Trial.written(1);
            for (int author = 1; author < 4; author++) {
                t.learn(author, 0).is(1);
            }
            // The numbers of the signs do not matter: the greatest is that of author 0.
            for (int author = 3; author >= 0; author--) {
                t.insert(author, 1, 0).is(4 - author);
                t.clock(author).is(2);
            }
            learnAll(t, way, 1, 1, 1);
            t.textIs(3, 0, 1, 2, 3, 4);
        }
    }

    private static void promise07_order_clockAheadOfAuthor() {
        for (int less = 0; less < 4; less++) {
            for (int greater = less + 1; greater < 4; greater++) {
                Trial t = new Trial();
                t.insert(greater, 0, 0).is(0);
                t.insert(less, 0, 0).is(1);
                t.insert(less, 0, 0).is(2);
                // Of the clocks 2, 1, 1 the last two are told apart by the author.
                t.learn(greater, less).is(2);
                t.textIs(greater, 2, 0, 1);
                t.learn(less, greater).is(1);
                t.textIs(less, 2, 0, 1);
            }
        }
    }

    private static void promise07_order_theAuthorOfTheSignCountsNotTheCopy() {
        Trial t = Trial.written(1, 1);
        t.learn(3, 0).is(1);
        t.learn(3, 1).is(1);
        t.learn(2, 3).is(2);
        t.textIs(2, 1, 0);
        t.textIs(3, 1, 0);
    }

    private static void promise07_order_eachIsFollowedByWhatIsBehindIt() {
        Trial t = Trial.written(3, 3);
        t.learn(2, 0).is(3);
        t.learn(2, 1).is(3);
        t.textIs(2, 3, 4, 5, 0, 1, 2);
        t.insert(2, 0, 0).is(6);
        t.insert(2, 1, 0).is(7);
        t.textIs(2, 6, 7, 3, 4, 5, 0, 1, 2);
    }

    private static void promise07_order_inTheSameWayBehindThose() {
        for (int[] way : WAYS) {
            Trial t = Trial.written(2);
            t.learn(1, 0).is(2);
            t.learn(2, 0).is(2);
            // All three insert behind sign 0 with the clock 3, and behind that with 4 and 5.
            for (int author = 0; author < 3; author++) {
                t.insert(author, 1, 0).is(2 + 3 * author);
                t.insert(author, 2, 0).is(3 + 3 * author);
                t.insert(author, 2, 0).is(4 + 3 * author);
            }
            int first = way[0];
            int[] unknown = {3, 3, 3};
            unknown[first] = 5;
            learnAll(t, way, unknown);
            t.textIs(3, 0, 8, 10, 9, 5, 7, 6, 2, 4, 3, 1);
        }
    }

    private static void promise07_order_aLaterSignGoesAheadOfAllOfAnEarlierOne() {
        Trial t = Trial.written(1);
        t.insert(0, 1, 0).is(1);
        t.insert(0, 2, 0).is(2);
        t.insert(0, 3, 0).is(3);
        t.insert(0, 1, 0).is(4);
        t.textIs(0, 0, 4, 1, 2, 3);
    }

    private static void promise07_order_anEarlierSignGoesBehindAllOfALaterOne() {
        Trial t = Trial.written(1, 3);
        t.textIs(1, 1, 2, 3);
        t.learn(1, 0).is(1);
        t.textIs(1, 1, 2, 3, 0);
        // The greater author is first, though the other one's next sign has the clock 2.
        t.insert(0, 1, 0).is(4);
        t.learn(1, 0).is(1);
        t.textIs(1, 1, 2, 3, 0, 4);
    }

    private static void promise07_order_removedSignsKeepTheirPlaceInIt() {
        Trial t = Trial.written(3);
        t.learn(1, 0).is(3);
        t.remove(0, 1).is(1);
        t.insert(1, 2, 0).is(3);
        t.learn(0, 1).is(1);
        t.textIs(0, 0, 3, 2);
        t.restore(0, 1).is(1);
        t.textIs(0, 0, 1, 3, 2);
    }

    private static void promise07_order_aRemovedSiblingKeepsWhatIsBehindIt() {
        Trial t = Trial.written(2, 2);
        t.remove(1, 0).is(2);
        t.learn(0, 1).is(2);
        t.textIs(0, 3, 0, 1);
        t.restore(0, 2).is(0);
        t.textIs(0, 2, 3, 0, 1);
    }

    private static void promise07_order_signsOfOtherCopiesAreLeftOut() {
        Trial t = Trial.written(2);
        t.learn(1, 0).is(2);
        t.insert(0, 1, 0).is(2);
        t.insert(1, 1, 0).is(3);
        t.insert(1, 2, 0).is(4);
        t.textIs(0, 0, 2, 1);
        t.textIs(1, 0, 3, 4, 1);
        t.textIs(2);
        t.learn(0, 1).is(2);
        t.textIs(0, 0, 3, 4, 2, 1);
        t.textIs(1, 0, 3, 4, 1);
    }

    /** 'Signs' and 'The order': sixty, each behind the one before. */
    private static void promise07_order_sixtyDeep() {
        Trial t = Trial.written(60);
        int[] all = new int[60];
        for (int sign = 0; sign < 60; sign++) {
            all[sign] = sign;
        }
        t.textIs(0, all);
        t.learn(2, 0).is(60);
        t.textIs(2, all);
    }

    private static void promise07_order_sixtyBehindTheBeginning() {
        Trial t = new Trial();
        int[] all = new int[60];
        for (int sign = 0; sign < 60; sign++) {
            t.insert(3, 0, 0).is(sign);
            all[59 - sign] = sign;
        }
        t.textIs(3, all);
    }

    /** By turns of four that know nothing of each other: by clock, and then by author. */
    private static void promise07_order_sixtyByClockAndThenByAuthor() {
        Trial t = new Trial();
        for (int sign = 0; sign < 60; sign++) {
            t.insert(sign % 4, 0, 0).is(sign);
        }
        for (int from = 0; from < 3; from++) {
            t.learn(3, from).is(15);
        }
        int[] all = new int[60];
        for (int sign = 0; sign < 60; sign++) {
            all[59 - sign] = sign;
        }
        t.textIs(3, all);
    }
}
