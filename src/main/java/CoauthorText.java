/**
 * A text that four authors edit at once in copies of their own; what is printed
 * of it decides how sales are split among them. The promises are in DOC.md.
 */
public final class CoauthorText {
    public static final int NONE = -1;

    private static final int AUTHORS = 4;
    private static final int LETTERS = 26;
    private static final int MOST_SIGNS = 60;
    private static final int MOST_EDITIONS = 20;
    private static final int MOST_FLOOR = 25;
    private static final int MOST_ADVANCE = 100000;
    private static final int MOST_SALE = 1000000;

    private final Sign[] signsByNumber = new Sign[MOST_SIGNS];
    private int signCount = 0;

    // One chain serves all copies: the order of the signs that one copy knows is
    // the order of all signs with the others left out, because a copy that knows
    // a sign also knows the one behind which it was inserted.
    private Sign firstInOrder = null;

    private final int[] clocks = new int[AUTHORS];

    private final int[][] signsInEditions = new int[MOST_EDITIONS][AUTHORS];
    private int editionCount = 0;

    private int floorPercent = 0;
    private final int[] advancesLeft = new int[AUTHORS];
    private final long[] paidBySales = new long[AUTHORS];

    public CoauthorText() {
    }

    // ---- editing

    public int insert(int author, int place, int letter)
            throws IllegalArgumentException, IndexOutOfBoundsException, IllegalStateException {
        checkAuthor(author);
        checkRange(letter, 0, LETTERS - 1);
        if (place < 0) {
            throw new IndexOutOfBoundsException("no such place");
        }
        Sign ahead = place == 0 ? null : findAtPlace(author, place - 1);
        if (signCount >= MOST_SIGNS) {
            throw new IllegalStateException("all signs were inserted");
        }
        Sign sign = new Sign(signCount, author, letter, nextStamp(author), ahead);
        signsByNumber[signCount] = sign;
        signCount++;
        putInOrder(sign);
        return sign.number;
    }

    public int remove(int author, int place)
            throws IllegalArgumentException, IndexOutOfBoundsException {
        checkAuthor(author);
        Sign sign = findAtPlace(author, place);
        sign.setRemoved(author, true, nextStamp(author));
        return sign.number;
    }

    public int restore(int author, int sign)
            throws IndexOutOfBoundsException, IllegalArgumentException, IllegalStateException {
        Sign restored = findByNumber(sign);
        checkAuthor(author);
        if (!restored.isRemovedIn(author)) {
            throw new IllegalStateException("the copy does not know the sign as removed");
        }
        restored.setRemoved(author, false, nextStamp(author));
        return countAheadOf(author, restored);
    }

    public int learn(int author, int from) throws IllegalArgumentException {
        checkAuthor(author);
        checkAuthor(from);
        if (author == from) {
            throw new IllegalArgumentException("a copy learns from another one");
        }
        int learned = 0;
        for (Sign sign = firstInOrder; sign != null; sign = sign.next) {
            if (sign.isKnownIn(from) && !sign.isKnownIn(author)) {
                learned++;
            }
            sign.bringNewer(author, from);
        }
        clocks[author] = Math.max(clocks[author], clocks[from]);
        return learned;
    }

    // ---- texts

    public int length(int author) throws IllegalArgumentException {
        checkAuthor(author);
        return countAheadOf(author, null);
    }

    public int signAt(int author, int place)
            throws IllegalArgumentException, IndexOutOfBoundsException {
        checkAuthor(author);
        return findAtPlace(author, place).number;
    }

    public int letterAt(int author, int place)
            throws IllegalArgumentException, IndexOutOfBoundsException {
        checkAuthor(author);
        return findAtPlace(author, place).letter;
    }

    public boolean areAlike(int author, int other) throws IllegalArgumentException {
        checkAuthor(author);
        checkAuthor(other);
        // The order is the same in all copies, so the same signs are the same text.
        for (Sign sign = firstInOrder; sign != null; sign = sign.next) {
            if (sign.isInTextOf(author) != sign.isInTextOf(other)) {
                return false;
            }
        }
        return true;
    }

    public int signs() {
        return signCount;
    }

    public int authorOf(int sign) throws IndexOutOfBoundsException {
        return findByNumber(sign).author;
    }

    public int behind(int sign) throws IndexOutOfBoundsException {
        Sign ahead = findByNumber(sign).ahead;
        return ahead == null ? NONE : ahead.number;
    }

    public int clock(int author) throws IllegalArgumentException {
        checkAuthor(author);
        return clocks[author];
    }

    // ---- editions and sales

    public int print(int author) throws IllegalArgumentException, IllegalStateException {
        checkAuthor(author);
        if (countAheadOf(author, null) == 0) {
            throw new IllegalStateException("the text is empty");
        }
        if (editionCount >= MOST_EDITIONS) {
            throw new IllegalStateException("all editions were printed");
        }
        int[] signsOf = signsInEditions[editionCount];
        for (int writer = 0; writer < AUTHORS; writer++) {
            signsOf[writer] = countWrittenBy(writer, author);
        }
        editionCount++;
        return editionCount - 1;
    }

    public int printed(int edition, int author)
            throws IndexOutOfBoundsException, IllegalArgumentException {
        checkEdition(edition);
        checkAuthor(author);
        return signsInEditions[edition][author];
    }

    public int setFloor(int percent) throws IllegalArgumentException {
        checkRange(percent, 0, MOST_FLOOR);
        int before = floorPercent;
        floorPercent = percent;
        return before;
    }

    public int advance(int author, int amount) throws IllegalArgumentException {
        checkAuthor(author);
        checkRange(amount, 1, MOST_ADVANCE);
        advancesLeft[author] += amount;
        return advancesLeft[author];
    }

    public int sell(int edition, int amount)
            throws IndexOutOfBoundsException, IllegalArgumentException {
        checkEdition(edition);
        checkRange(amount, 1, MOST_SALE);
        int[] signsOf = signsInEditions[edition];
        int spare = amount;
        for (int author = 0; author < AUTHORS; author++) {
            spare -= shareOf(author, signsOf, amount);
        }
        int paidNow = 0;
        for (int author = 0; author < AUTHORS; author++) {
            if (signsOf[author] > 0) {
                paidNow += credit(author, shareOf(author, signsOf, amount) + spare);
                spare = 0;
            }
        }
        return paidNow;
    }

    public long paid(int author) throws IllegalArgumentException {
        checkAuthor(author);
        return paidBySales[author];
    }

    public int left(int author) throws IllegalArgumentException {
        checkAuthor(author);
        return advancesLeft[author];
    }

    // ---- what the calls look at first

    private static void checkAuthor(int author) {
        checkRange(author, 0, AUTHORS - 1);
    }

    private static void checkRange(int value, int least, int most) {
        if (value < least || value > most) {
            throw new IllegalArgumentException("out of range");
        }
    }

    private void checkEdition(int edition) {
        if (edition < 0 || edition >= editionCount) {
            throw new IndexOutOfBoundsException("no such edition");
        }
    }

    private Sign findByNumber(int number) {
        Sign sign = number >= 0 && number < signCount ? signsByNumber[number] : null;
        if (sign == null) {
            throw new IndexOutOfBoundsException("no such sign");
        }
        return sign;
    }

    private Sign findAtPlace(int copy, int place) {
        int passed = 0;
        for (Sign sign = firstInOrder; sign != null; sign = sign.next) {
            if (sign.isInTextOf(copy)) {
                if (passed == place) {
                    return sign;
                }
                passed++;
            }
        }
        throw new IndexOutOfBoundsException("no such place");
    }

    // ---- stamps and the order

    /** Moves the author's clock on; later stamps are greater, then those of greater authors. */
    private int nextStamp(int author) {
        clocks[author]++;
        return clocks[author] * AUTHORS + author;
    }

    /**
     * A sign's stamp is greater than that of the one ahead of it, so all that stands
     * behind a sibling that comes first is passed with it, and the first smaller
     * stamp ends what may come before the new sign.
     */
    private void putInOrder(Sign sign) {
        Sign before = sign.ahead;
        Sign after = before == null ? firstInOrder : before.next;
        while (after != null && after.stamp > sign.stamp) {
            before = after;
            after = after.next;
        }
        sign.next = after;
        if (before == null) {
            firstInOrder = sign;
        } else {
            before.next = sign;
        }
    }

    /** With null for the end, this is the length of the text. */
    private int countAheadOf(int copy, Sign end) {
        int count = 0;
        for (Sign sign = firstInOrder; sign != null && sign != end; sign = sign.next) {
            if (sign.isInTextOf(copy)) {
                count++;
            }
        }
        return count;
    }

    private int countWrittenBy(int writer, int copy) {
        int count = 0;
        for (Sign sign = firstInOrder; sign != null; sign = sign.next) {
            if (sign.author == writer && sign.isInTextOf(copy)) {
                count++;
            }
        }
        return count;
    }

    // ---- splitting a sale

    /** Without what rounding down leaves over. */
    private int shareOf(int author, int[] signsOf, int amount) {
        int writers = 0;
        int allSigns = 0;
        for (int writer = 0; writer < AUTHORS; writer++) {
            if (signsOf[writer] > 0) {
                writers++;
                allSigns += signsOf[writer];
            }
        }
        if (allSigns == 0 || signsOf[author] == 0) {
            return 0;
        }
        int floor = amount * floorPercent / 100;
        int rest = amount - writers * floor;
        return floor + rest * signsOf[author] / allSigns;
    }

    /** Returns what is paid after the advance has held back its part. */
    private int credit(int author, int amount) {
        int held = Math.min(amount, advancesLeft[author]);
        advancesLeft[author] -= held;
        paidBySales[author] += amount - held;
        return amount - held;
    }

    /** One sign, and what each copy holds about it. */
    private static final class Sign {
        // In this order, and below all real stamps, so that the greater one
        // counts for signs that a copy does not know yet, too.
        private static final int NOT_KNOWN = -1;
        private static final int NEVER_REMOVED = 0;

        private final int number;
        private final int author;
        private final int letter;
        private final int stamp;
        private final Sign ahead;
        private Sign next = null;

        private final int[] stampsInCopies = new int[AUTHORS];
        private final boolean[] removedInCopies = new boolean[AUTHORS];

        private Sign(int number, int author, int letter, int stamp, Sign ahead) {
            this.number = number;
            this.author = author;
            this.letter = letter;
            this.stamp = stamp;
            this.ahead = ahead;
            for (int copy = 0; copy < AUTHORS; copy++) {
                stampsInCopies[copy] = copy == author ? NEVER_REMOVED : NOT_KNOWN;
            }
        }

        private boolean isKnownIn(int copy) {
            return stampsInCopies[copy] != NOT_KNOWN;
        }

        private boolean isRemovedIn(int copy) {
            return isKnownIn(copy) && removedInCopies[copy];
        }

        private boolean isInTextOf(int copy) {
            return isKnownIn(copy) && !removedInCopies[copy];
        }

        private void setRemoved(int copy, boolean removed, int newStamp) {
            removedInCopies[copy] = removed;
            stampsInCopies[copy] = newStamp;
        }

        private void bringNewer(int copy, int from) {
            if (stampsInCopies[from] > stampsInCopies[copy]) {
                setRemoved(copy, removedInCopies[from], stampsInCopies[from]);
            }
        }
    }
}
