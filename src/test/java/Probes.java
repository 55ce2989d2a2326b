import java.util.ArrayList;
import java.util.List;

/**
 * What the other calls answer after a call that must change nothing. Each probe has an
 * object of its own, so that it may change that one to bring to light what no call tells
 * at once: which removed signs a copy knows, the stamps, the floor.
 */
final class Probes {
    private static final int MOST_CALLS = 512;
    private static final int AUTHORS = 4;
    private static final int KINDS = 9;

    private final CoauthorText x = new CoauthorText();
    private final List<String> seen = new ArrayList<>();
    private String looksAt = "";
    private int calls = 0;

    private Probes() {
    }

    static void compare(String told, List<Trial.Call> run, Trial.Call call) {
        for (int kind = 0; kind < KINDS; kind++) {
            for (int author = 0; author < AUTHORS; author++) {
                Probes due = after(run, null, kind, author);
                Probes got = after(run, call, kind, author);
                tellFirstDifference(told, due, got);
            }
        }
    }

    private static void tellFirstDifference(String told, Probes due, Probes got) {
        int at = 0;
        while (at < Math.min(due.seen.size(), got.seen.size()) - 1
                && due.seen.get(at).equals(got.seen.get(at))) {
            at++;
        }
        Check.told("after " + told + ", " + due.looksAt + ", answer " + at,
                due.seen.get(at), got.seen.get(at));
    }

    private static Probes after(List<Trial.Call> run, Trial.Call call, int kind, int author) {
        Probes probes = new Probes();
        for (Trial.Call made : run) {
            probes.make(made);
        }
        if (call != null) {
            probes.make(call);
        }
        probes.seen.clear();
        probes.look(kind, author);
        probes.seen.add("the end");
        if (probes.calls > MOST_CALLS) {
            Check.told("the calls of a probe", "at most " + MOST_CALLS, "" + probes.calls);
        }
        return probes;
    }

    private String make(Trial.Call call) {
        calls++;
        String answer = Check.outcome(() -> call.on(x));
        seen.add(answer);
        return answer;
    }

    private int count(Trial.Call call) {
        String answer = make(call);
        return answer.startsWith("throws") ? 0 : Math.min(Integer.parseInt(answer), MOST_CALLS);
    }

    private void look(int kind, int author) {
        switch (kind) {
            case 0 -> lookAtText(author);
            case 1 -> lookAtSigns(author);
            case 2 -> lookAtMoney(author);
            case 3, 4, 5 -> learnAndLook(author, (author + kind - 2) % AUTHORS);
            case 6 -> restoreAll(author);
            case 7 -> insertAndRemove(author);
            default -> printAndSell(author);
        }
    }

    private void lookAtText(int author) {
        looksAt += "clock, length, signs and letters of copy " + author;
        make(x -> x.clock(author));
        int length = count(x -> x.length(author));
        for (int place = 0; place < length; place++) {
            int at = place;
            make(x -> x.signAt(author, at));
            make(x -> x.letterAt(author, at));
        }
    }

    private void lookAtSigns(int author) {
        looksAt += "signs, authorOf and behind of each, areAlike of " + author;
        int signs = count(x -> x.signs());
        for (int sign = 0; sign < signs; sign++) {
            int s = sign;
            make(x -> x.authorOf(s));
            make(x -> x.behind(s));
        }
        for (int other = 0; other < AUTHORS; other++) {
            int o = other;
            make(x -> x.areAlike(author, o) ? 1 : 0);
        }
    }

    private void lookAtMoney(int author) {
        looksAt += "paid, left, printed and advance of " + author + ", the floor";
        make(x -> x.paid(author));
        make(x -> x.left(author));
        for (int edition = 0; edition < 21; edition++) {
            int e = edition;
            make(x -> x.printed(e, author));
        }
        make(x -> x.advance(author, 1));
        make(x -> x.setFloor(0));
    }

    /** A sign's stamp shows by what the other copy then holds. */
    private void learnAndLook(int author, int from) {
        looksAt += "learn(" + author + ", " + from + ") and then ";
        make(x -> x.learn(author, from));
        lookAtText(author);
    }

    private void restoreAll(int author) {
        looksAt += "signs, and restore by " + author + " of each";
        int signs = count(x -> x.signs());
        for (int sign = 0; sign < signs; sign++) {
            int s = sign;
            make(x -> x.restore(author, s));
        }
    }

    private void insertAndRemove(int author) {
        looksAt += "insert and remove by " + author + ", and then ";
        make(x -> x.insert(author, 0, 5));
        make(x -> x.remove(author, 0));
        lookAtText(author);
    }

    private void printAndSell(int author) {
        looksAt += "print(" + author + "), the sale of each edition, paid and left of each";
        make(x -> x.print(author));
        for (int edition = 0; edition < 21; edition++) {
            int e = edition;
            make(x -> x.sell(e, 997));
        }
        for (int writer = 0; writer < AUTHORS; writer++) {
            int w = writer;
            make(x -> x.paid(w));
            make(x -> x.left(w));
        }
    }
}
