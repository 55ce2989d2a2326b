import java.util.ArrayList;
import java.util.Comparator;
import java.util.List;
import java.util.Map;
import java.util.TreeMap;

/**
 * The document's words, written down as plainly as they stand and without the
 * program's shortcuts: every copy is a map of its own, and its order is made anew
 * for each call by going down from the beginning.
 */
final class PlainModel {
    private record Stamp(int clock, int author) {
        private boolean isGreaterThan(Stamp other) {
            return clock > other.clock || clock == other.clock && author > other.author;
        }
    }

    private record Sign(int number, int author, int letter, int clock, int behind) {
    }

    private record Mark(boolean removed, Stamp stamp) {
    }

    private static final Stamp NEVER = new Stamp(-1, -1);

    private final List<Sign> inserted = new ArrayList<>();
    private final List<Map<Integer, Mark>> copies = new ArrayList<>();
    private final int[] clocks = new int[4];
    private final List<int[]> editions = new ArrayList<>();
    private int floorNow = 0;
    private final long[] advances = new long[4];
    private final long[] paidTo = new long[4];

    PlainModel() {
        for (int author = 0; author < 4; author++) {
            copies.add(new TreeMap<>());
        }
    }

    private static void argument(boolean holds) {
        if (!holds) {
            throw new IllegalArgumentException();
        }
    }

    private static void index(boolean holds) {
        if (!holds) {
            throw new IndexOutOfBoundsException();
        }
    }

    private static void state(boolean holds) {
        if (!holds) {
            throw new IllegalStateException();
        }
    }

    private static boolean isAuthor(int author) {
        return 0 <= author && author <= 3;
    }

    private List<Integer> order(int author) {
        List<Integer> order = new ArrayList<>();
        addBehind(author, -1, order);
        return order;
    }

    private void addBehind(int author, int behind, List<Integer> order) {
        List<Sign> siblings = new ArrayList<>();
        for (Sign sign : inserted) {
            if (sign.behind() == behind && copies.get(author).containsKey(sign.number())) {
                siblings.add(sign);
            }
        }
        siblings.sort(Comparator.comparingInt(Sign::clock).thenComparingInt(Sign::author).reversed());
        for (Sign sign : siblings) {
            order.add(sign.number());
            addBehind(author, sign.number(), order);
        }
    }

    private List<Integer> text(int author) {
        List<Integer> text = order(author);
        text.removeIf(sign -> copies.get(author).get(sign).removed());
        return text;
    }

    int insert(int author, int place, int letter) {
        argument(isAuthor(author) && 0 <= letter && letter <= 25);
        List<Integer> text = text(author);
        index(0 <= place && place <= text.size());
        state(inserted.size() < 60);
        clocks[author]++;
        int behind = place == 0 ? -1 : text.get(place - 1);
        Sign sign = new Sign(inserted.size(), author, letter, clocks[author], behind);
        inserted.add(sign);
        copies.get(author).put(sign.number(), new Mark(false, NEVER));
        return sign.number();
    }

    int remove(int author, int place) {
        argument(isAuthor(author));
        List<Integer> text = text(author);
        index(0 <= place && place < text.size());
        clocks[author]++;
        copies.get(author).put(text.get(place), new Mark(true, new Stamp(clocks[author], author)));
        return text.get(place);
    }

    int restore(int author, int sign) {
        index(0 <= sign && sign < inserted.size());
        argument(isAuthor(author));
        Mark mark = copies.get(author).get(sign);
        state(mark != null && mark.removed());
        clocks[author]++;
        copies.get(author).put(sign, new Mark(false, new Stamp(clocks[author], author)));
        return text(author).indexOf(sign);
    }

    int learn(int author, int from) {
        argument(isAuthor(author) && isAuthor(from) && author != from);
        int unknown = 0;
        for (Map.Entry<Integer, Mark> known : copies.get(from).entrySet()) {
            Mark mine = copies.get(author).get(known.getKey());
            if (mine == null) {
                unknown++;
            }
            if (mine == null || known.getValue().stamp().isGreaterThan(mine.stamp())) {
                copies.get(author).put(known.getKey(), known.getValue());
            }
        }
        if (clocks[from] > clocks[author]) {
            clocks[author] = clocks[from];
        }
        return unknown;
    }

    int length(int author) {
        argument(isAuthor(author));
        return text(author).size();
    }

    int signAt(int author, int place) {
        argument(isAuthor(author));
        List<Integer> text = text(author);
        index(0 <= place && place < text.size());
        return text.get(place);
    }

    int letterAt(int author, int place) {
        return inserted.get(signAt(author, place)).letter();
    }

    int areAlike(int author, int other) {
        argument(isAuthor(author) && isAuthor(other));
        return text(author).equals(text(other)) ? 1 : 0;
    }

    int signs() {
        return inserted.size();
    }

    int authorOf(int sign) {
        index(0 <= sign && sign < inserted.size());
        return inserted.get(sign).author();
    }

    int behind(int sign) {
        index(0 <= sign && sign < inserted.size());
        return inserted.get(sign).behind();
    }

    int clock(int author) {
        argument(isAuthor(author));
        return clocks[author];
    }

    int print(int author) {
        argument(isAuthor(author));
        state(!text(author).isEmpty() && editions.size() < 20);
        int[] written = new int[4];
        for (int sign : text(author)) {
            written[inserted.get(sign).author()]++;
        }
        editions.add(written);
        return editions.size() - 1;
    }

    int printed(int edition, int author) {
        index(0 <= edition && edition < editions.size());
        argument(isAuthor(author));
        return editions.get(edition)[author];
    }

    int setFloor(int percent) {
        argument(0 <= percent && percent <= 25);
        int before = floorNow;
        floorNow = percent;
        return before;
    }

    long advance(int author, int amount) {
        argument(isAuthor(author) && 1 <= amount && amount <= 100000);
        advances[author] += amount;
        return advances[author];
    }

    long sell(int edition, int amount) {
        index(0 <= edition && edition < editions.size());
        argument(1 <= amount && amount <= 1000000);
        int[] written = editions.get(edition);
        long[] gets = new long[4];
        long afterFloors = amount;
        long all = 0;
        for (int author = 0; author < 4; author++) {
            all += written[author];
            if (written[author] > 0) {
                gets[author] = (long) amount * floorNow / 100;
                afterFloors -= gets[author];
            }
        }
        long over = afterFloors;
        for (int author = 0; author < 4; author++) {
            long share = afterFloors * written[author] / all;
            gets[author] += share;
            over -= share;
        }
        int lowest = 0;
        while (written[lowest] == 0) {
            lowest++;
        }
        gets[lowest] += over;
        return pay(gets);
    }

    private long pay(long[] gets) {
        long paidNow = 0;
        for (int author = 0; author < 4; author++) {
            while (gets[author] > 0 && advances[author] > 0) {
                long held = Math.min(gets[author], advances[author]);
                gets[author] -= held;
                advances[author] -= held;
            }
            paidTo[author] += gets[author];
            paidNow += gets[author];
        }
        return paidNow;
    }

    long paid(int author) {
        argument(isAuthor(author));
        return paidTo[author];
    }

    long left(int author) {
        argument(isAuthor(author));
        return advances[author];
    }
}
