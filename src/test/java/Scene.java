import java.util.ArrayList;
import java.util.List;
import java.util.NoSuchElementException;
import java.util.function.Function;

/**
 * A run of calls on a new object. It can be played again on another object, so that a call can be tried without going
 * into the run; whether the call changed anything is told by asking the same of two objects, one that got it and one
 * that didn't. No object gets more than 512 calls: what later ones answer is free.
 */
final class Scene {
    static final Object NO_SUCH = NoSuchElementException.class;
    static final Object ILLEGAL = IllegalArgumentException.class;
    static final int MOST_CALLS = 512;
    static final int LEAST_INT = Integer.MIN_VALUE;
    static final int MOST_INT = Integer.MAX_VALUE;

    /** One call of the face. */
    interface Call extends Function<SameAgain, Object> {
    }

    private record Question(String told, Call call) {
    }

    /** Calls that may change something and so tell what no other call does; then questions that change nothing. */
    private record Look(List<Question> first, List<Question> questions) {
    }

    private final List<Call> calls = new ArrayList<>();
    private final SameAgain here = new SameAgain();
    private List<Look> looks;
    private List<List<String>> before;

    /** The call goes into the run, whatever it answers. */
    Scene with(Call call) {
        go(call);
        return this;
    }

    /** The call goes into the run, and answers so. */
    Scene takes(String what, Object due, Call call) {
        Object got = go(call);
        Check.due(what, due, () -> got);
        return this;
    }

    /** The call answers so, and nothing is changed by it; it doesn't go into the run. */
    Scene refuses(String what, Object due, Call call) {
        SameAgain tried = played();
        Check.due(what, due, () -> call.apply(tried));
        if (looks == null) {
            looks = looks();
            before = answersOf(looks, null);
        }
        List<List<String>> after = answersOf(looks, call);
        Check.due(what + ", and nothing changes", "as it was", () -> change(before, after));
        return this;
    }

    /** A question answers so; it changes nothing, too. */
    Scene tells(String what, Object due, Call call) {
        return refuses(what, due, call);
    }

    int size() {
        return calls.size();
    }

    private Object go(Call call) {
        if (calls.size() == MOST_CALLS) {
            throw new IllegalStateException("a scene of more than 512 calls");
        }
        calls.add(call);
        looks = null;
        return Check.answerOf(() -> call.apply(here));
    }

    private SameAgain played() {
        SameAgain x = new SameAgain();
        for (Call call : calls) {
            Check.answerOf(() -> call.apply(x));
        }
        return x;
    }

    private static String change(List<List<String>> before, List<List<String>> after) {
        for (int look = 0; look < before.size(); look++) {
            for (int i = 0; i < before.get(look).size(); i++) {
                String was = before.get(look).get(i);
                String is = after.get(look).get(i);
                if (!was.equals(is)) {
                    return "was " + was + ", is " + is;
                }
            }
        }
        return "as it was";
    }

    private List<List<String>> answersOf(List<Look> all, Call tried) {
        List<List<String>> answers = new ArrayList<>();
        for (Look look : all) {
            answers.add(answersOf(look, tried));
        }
        return answers;
    }

    /** As many objects as are needed for all questions of a look, each played up to here and with the call tried. */
    private List<String> answersOf(Look look, Call tried) {
        List<String> answers = new ArrayList<>();
        int asked = 0;
        boolean goesOn = true;
        while (goesOn) {
            SameAgain x = played();
            if (tried != null) {
                Check.answerOf(() -> tried.apply(x));
            }
            int left = MOST_CALLS - calls.size() - 1;
            int atFirst = Math.min(left, look.first.size());
            ask(x, look.first.subList(0, atFirst), answers);
            int now = Math.min(left - atFirst, look.questions.size() - asked);
            ask(x, look.questions.subList(asked, asked + now), answers);
            asked += now;
            goesOn = now > 0 && asked < look.questions.size();
        }
        return answers;
    }

    private static void ask(SameAgain x, List<Question> questions, List<String> answers) {
        for (Question q : questions) {
            answers.add(q.told + " = " + Check.answerOf(() -> q.call.apply(x)));
        }
    }

    // What is asked.

    private List<Look> looks() {
        List<Integer> files = new ArrayList<>();
        List<Integer> sizes = new ArrayList<>();
        for (int i = 0; i < 60; i++) {
            int file = i;
            Object size = answerOf(x -> x.about(file, 3));
            if (size instanceof Integer n) {
                files.add(file);
                sizes.add(n);
            }
        }
        List<Look> all = new ArrayList<>();
        all.add(new Look(List.of(), countsAndGroups()));
        all.add(new Look(List.of(), files(sizes, files)));
        all.add(new Look(List.of(), folders()));
        all.add(new Look(wishes(), List.of()));
        all.add(new Look(leaves(), List.of()));
        all.add(new Look(unmergings(), bodiesOf(files)));
        all.add(new Look(List.of(new Question("merge(0)", x -> x.merge(0))), bodiesOf(files)));
        all.add(new Look(List.of(new Question("find()", x -> x.find()), new Question("reads()", x -> x.reads())),
            groupsOf(files)));
        all.add(new Look(newOnes(), List.of()));
        return all;
    }

    private Object answerOf(Call call) {
        SameAgain x = played();
        return Check.answerOf(() -> call.apply(x));
    }

    private static Question about(int file, int what) {
        return new Question("about(" + file + ", " + what + ")", x -> x.about(file, what));
    }

    private static List<Question> countsAndGroups() {
        List<Question> all = new ArrayList<>();
        for (int i = 0; i < 8; i++) {
            int what = i;
            all.add(new Question("count(" + what + ")", x -> x.count(what)));
        }
        all.add(new Question("reads()", x -> x.reads()));
        for (int i = 0; i <= 30; i++) {
            int group = i;
            all.add(new Question("member(" + group + ", -1)", x -> x.member(group, -1)));
            all.add(new Question("keep(" + group + ")", x -> x.keep(group)));
        }
        return all;
    }

    private static List<Question> files(List<Integer> sizes, List<Integer> files) {
        List<Question> all = new ArrayList<>();
        for (int i = 0; i < 60; i++) {
            all.add(about(i, 0));
        }
        for (int i = 0; i < files.size(); i++) {
            int file = files.get(i);
            for (int what = 1; what <= 8; what++) {
                all.add(about(file, what));
            }
            for (int j = 0; j < sizes.get(i); j++) {
                int place = j;
                all.add(new Question("at(" + file + ", " + place + ")", x -> x.at(file, place)));
            }
        }
        all.addAll(groupsOf(files));
        return all;
    }

    private static List<Question> groupsOf(List<Integer> files) {
        List<Question> all = new ArrayList<>();
        for (int file : files) {
            all.add(new Question("groupOf(" + file + ")", x -> x.groupOf(file)));
        }
        return all;
    }

    private static List<Question> bodiesOf(List<Integer> files) {
        List<Question> all = new ArrayList<>();
        for (int file : files) {
            all.add(about(file, 2));
            all.add(about(file, 4));
            all.add(about(file, 5));
        }
        return all;
    }

    private static List<Question> folders() {
        List<Question> all = new ArrayList<>();
        for (int i = 0; i < 16; i++) {
            for (int j = i; j < 16; j++) {
                int folder = i;
                int other = j;
                all.add(new Question("differ(" + i + ", " + j + ")", x -> x.differ(folder, other)));
            }
        }
        return all;
    }

    private static List<Question> wishes() {
        List<Question> all = new ArrayList<>();
        for (int i = 0; i < 3; i++) {
            int folder = i;
            all.add(new Question("wish(0, " + i + ")", x -> x.wish(0, folder)));
        }
        for (int i = 1; i < 6; i++) {
            int what = i;
            all.add(new Question("wish(" + i + ", 0)", x -> x.wish(what, 0)));
        }
        all.add(new Question("unwish()", x -> x.unwish()));
        return all;
    }

    private static List<Question> leaves() {
        List<Question> all = new ArrayList<>();
        for (int i = 0; i < 8; i++) {
            for (int j = 0; j < 8; j++) {
                int owner = i;
                int from = j;
                all.add(new Question("leave(" + i + ", " + j + ")", x -> x.leave(owner, from)));
            }
        }
        return all;
    }

    private static List<Question> unmergings() {
        List<Question> all = new ArrayList<>();
        for (int i = 0; i < 21; i++) {
            all.add(new Question("unmerge()", x -> x.unmerge()));
        }
        return all;
    }

    private static List<Question> newOnes() {
        return List.of(new Question("file(0, 998, 0, 1)", x -> x.file(0, 998, 0, 1)),
            new Question("link(0, 0, 997)", x -> x.link(0, 0, 997)),
            new Question("folder(0, 998)", x -> x.folder(0, 998)),
            new Question("days(0)", x -> x.days(0)));
    }
}
