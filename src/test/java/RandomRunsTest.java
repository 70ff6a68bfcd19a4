import java.util.ArrayList;
import java.util.List;
import java.util.Random;
import java.util.function.Supplier;

/** Many runs of 512 calls, the same ones each time, compared with PlainModel call by call (promises 1 to 27). */
public final class RandomRunsTest {
    private static final int RUNS = 600;
    private static final int CALLS = 512;
    private static final int[] ODD = {Integer.MIN_VALUE, Integer.MIN_VALUE + 1, -1000, -2, -1, 16, 60, 64, 65, 100,
        999, 1000, 1001, 6400, Integer.MAX_VALUE - 1, Integer.MAX_VALUE};

    private final Random random;
    private final SameAgain x = new SameAgain();
    private final PlainModel model = new PlainModel();
    private final List<String> told = new ArrayList<>();
    private final int sizes;
    private final int names;
    private final int owners;
    private final int oddOnce;
    private final boolean full;

    private RandomRunsTest(int seed) {
        random = new Random(seed);
        sizes = 1 + random.nextInt(4);
        names = random.nextBoolean() ? 6 : 200;
        owners = 1 + random.nextInt(4);
        oddOnce = random.nextBoolean() ? 12 : 200;
        full = random.nextInt(3) == 0;
    }

    public static void main(String[] args) {
        int wrong = 0;
        for (int seed = 0; seed < RUNS && wrong < 3; seed++) {
            if (!new RandomRunsTest(seed).run(seed)) {
                wrong++;
            }
        }
        System.out.println(RUNS + " runs of " + CALLS + " calls, " + wrong + " wrong");
        if (wrong != 0) {
            System.exit(1);
        }
    }

    private boolean run(int seed) {
        for (int i = 0; i < CALLS; i++) {
            if (!step()) {
                System.out.println("seed " + seed + ": " + String.join("; ", told));
                return false;
            }
        }
        return true;
    }

    private boolean same(String call, Supplier<Object> ours, Supplier<Object> theirs) {
        Object got = Check.answerOf(ours);
        Object due = Check.answerOf(theirs);
        told.add(call + " = " + got);
        if (!got.equals(due)) {
            System.out.println(call + ": answered " + got + ", due is " + due);
            return false;
        }
        return true;
    }

    /** Mostly below a bound; now and then a number that is wrong somewhere. */
    private int below(int bound) {
        return random.nextInt(oddOnce) == 0 ? ODD[random.nextInt(ODD.length)] : random.nextInt(Math.max(1, bound));
    }

    private int aFile() {
        return below(made() + (random.nextInt(20) == 0 ? 1 : 0));
    }

    /** About as many files as ever were: guided by the bodies, that x itself gets no call but those compared. */
    private int made() {
        return Math.min(model.count(7) + 8, 60);
    }

    private int aFolder() {
        return below(model.count(0) + (random.nextInt(20) == 0 ? 1 : 0));
    }

    private int aSize() {
        int[] common = {8, 20, 64, 9, 5, 3, 0, 17};
        return random.nextInt(8) == 0 ? below(65) : common[random.nextInt(sizes * 2)];
    }

    private int aPlace() {
        int[] common = {0, 4, 7, 8, 16};
        return random.nextInt(3) == 0 ? below(65) : common[random.nextInt(common.length)];
    }

    private boolean step() {
        int kind = random.nextInt(100);
        if (kind < 28) {
            return change();
        } else if (kind < 42) {
            return bytes();
        } else if (kind < 60) {
            return doubles();
        } else if (kind < 75) {
            return ask();
        } else if (kind < 82) {
            return nearOnes();
        } else {
            return mergeOrWish();
        }
    }

    private boolean change() {
        int file = aFile();
        int folder = aFolder();
        int name = below(names);
        switch (random.nextInt(full ? 5 : 9)) {
            case 0:
                return same("folder(" + folder + ", " + name + ")",
                    () -> x.folder(folder, name), () -> model.folder(folder, name));
            case 1:
            case 2:
                int owner = below(owners);
                int size = aSize();
                return same("file(" + folder + ", " + name + ", " + owner + ", " + size + ")",
                    () -> x.file(folder, name, owner, size), () -> model.file(folder, name, owner, size));
            case 3:
                return same("copy(" + file + ", " + folder + ", " + name + ")",
                    () -> x.copy(file, folder, name), () -> model.copy(file, folder, name));
            case 4:
                return same("link(" + file + ", " + folder + ", " + name + ")",
                    () -> x.link(file, folder, name), () -> model.link(file, folder, name));
            case 5:
                return same("move(" + file + ", " + folder + ", " + name + ")",
                    () -> x.move(file, folder, name), () -> model.move(file, folder, name));
            case 6:
                return same("remove(" + file + ")", () -> x.remove(file), () -> model.remove(file));
            default:
                boolean is = random.nextInt(3) == 0;
                return same("hold(" + file + ", " + is + ")", () -> x.hold(file, is), () -> model.hold(file, is));
        }
    }

    private boolean bytes() {
        int file = aFile();
        int place = aPlace();
        int to = random.nextInt(3) == 0 ? place : random.nextInt(5) == 0 ? below(66) : place + below(6);
        int value = random.nextInt(10) == 0 ? random.nextInt() : random.nextInt(3);
        switch (random.nextInt(3)) {
            case 0:
                return same("write(" + file + ", " + place + ", " + value + ")",
                    () -> x.write(file, place, value), () -> model.write(file, place, value));
            case 1:
                return same("fill(" + file + ", " + place + ", " + to + ", " + value + ")",
                    () -> x.fill(file, place, to, value), () -> model.fill(file, place, to, value));
            default:
                return same("at(" + file + ", " + place + ")", () -> x.at(file, place), () -> model.at(file, place));
        }
    }

    private boolean doubles() {
        int file = aFile();
        int group = below(6);
        int i = below(6) - 1;
        switch (random.nextInt(6)) {
            case 0:
            case 1:
                return same("find()", () -> x.find(), () -> model.find());
            case 2:
                return same("reads()", () -> x.reads(), () -> model.reads());
            case 3:
                return same("groupOf(" + file + ")", () -> x.groupOf(file), () -> model.groupOf(file));
            case 4:
                return same("member(" + group + ", " + i + ")",
                    () -> x.member(group, i), () -> model.member(group, i));
            default:
                return same("keep(" + group + ")", () -> x.keep(group), () -> model.keep(group));
        }
    }

    private boolean ask() {
        int file = aFile();
        int what = below(9);
        if (random.nextInt(3) == 0) {
            return same("count(" + what + ")", () -> x.count(what), () -> model.count(what));
        }
        return same("about(" + file + ", " + what + ")", () -> x.about(file, what), () -> model.about(file, what));
    }

    private boolean nearOnes() {
        int file = aFile();
        int other = aFile();
        int folder = aFolder();
        int second = aFolder();
        int least = random.nextInt(3) == 0 ? 0 : below(1001);
        switch (random.nextInt(3)) {
            case 0:
                return same("near(" + file + ", " + other + ")",
                    () -> x.near(file, other), () -> model.near(file, other));
            case 1:
                return same("nearest(" + file + ", " + least + ")",
                    () -> x.nearest(file, least), () -> model.nearest(file, least));
            default:
                return same("differ(" + folder + ", " + second + ")",
                    () -> x.differ(folder, second), () -> model.differ(folder, second));
        }
    }

    private boolean mergeOrWish() {
        int group = below(4);
        int what = below(6);
        int folder = aFolder();
        int owner = below(owners);
        int from = below(owners);
        int n = below(3);
        switch (random.nextInt(full ? 10 : 16)) {
            case 0:
            case 1:
            case 2:
            case 3:
                return same("merge(" + group + ")", () -> x.merge(group), () -> model.merge(group));
            case 4:
            case 5:
                return same("unmerge()", () -> x.unmerge(), () -> model.unmerge());
            case 6:
            case 7:
                return same("wish(" + what + ", " + folder + ")",
                    () -> x.wish(what, folder), () -> model.wish(what, folder));
            case 8:
                return same("days(" + n + ")", () -> x.days(n), () -> model.days(n));
            case 9:
                return same("leave(" + owner + ", " + from + ")",
                    () -> x.leave(owner, from), () -> model.leave(owner, from));
            case 10:
                return same("unwish()", () -> x.unwish(), () -> model.unwish());
            default:
                return same("find()", () -> x.find(), () -> model.find());
        }
    }
}
