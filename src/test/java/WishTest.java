/** Promises 20 to 23: wish, unwish, leave, keep. */
public final class WishTest {
    public static void main(String[] args) {
        wish();
        leave();
        keep();
        keepByFolder();
        keepByFarFolder();
        keepByDay();
        order();
        Check.end();
    }

    private static void wish() {
        SameAgain x = new SameAgain();
        x.folder(0, 1);
        Check.due("first", 1, () -> x.wish(0, 0));
        Check.due("alike", -1, () -> x.wish(0, 0));
        Check.due("another folder", 2, () -> x.wish(0, 1));
        Check.due("a folder isn't asked", 3, () -> x.wish(5, 99));
        Check.due("three are there", -1, () -> x.wish(1, 0));
        Check.noSuch("no folder, though three are there", () -> x.wish(0, 2));
        Check.illegal("no wish, though three are there", () -> x.wish(6, 0));
        Check.due("how many were", 3, () -> x.unwish());
        Check.due("none were", 0, () -> x.unwish());
        for (int what = 1; what <= 5; what++) {
            int w = what;
            Check.due("wish " + w, 1, () -> x.wish(w, 0));
            Check.due("wish alike " + w, -1, () -> x.wish(w, 1));
            Check.due("one goes " + w, 1, () -> x.unwish());
        }
        Check.noSuch("no folder", () -> x.wish(0, 2));
        Check.noSuch("no folder", () -> x.wish(0, -1));
        Check.illegal("no wish", () -> x.wish(-1, 0));
        Check.illegal("no wish, no folder", () -> x.wish(6, 99));
        Check.due("none came by those", 0, () -> x.unwish());
    }

    private static void leave() {
        SameAgain x = new SameAgain();
        Check.due("there was none", true, () -> x.leave(0, 7));
        Check.due("there was", false, () -> x.leave(0, 7));
        Check.due("the other way", true, () -> x.leave(7, 0));
        Check.due("another", true, () -> x.leave(0, 6));
        Check.illegal("no owner", () -> x.leave(-1, 0));
        Check.illegal("no owner", () -> x.leave(8, 0));
        Check.illegal("no owner", () -> x.leave(0, -1));
        Check.illegal("no owner", () -> x.leave(0, 8));
        Check.due("from itself", true, () -> x.leave(3, 3));
    }

    private static void kept(String what, SameAgain x, int file) {
        Check.due(what, file, () -> x.keep(0));
    }

    private static void keep() {
        SameAgain x = new SameAgain();
        Check.noSuch("nothing was found", () -> x.keep(0));
        x.folder(0, 1);
        x.folder(1, 1);
        x.file(2, 50, 0, 8);
        x.file(1, 40, 0, 8);
        x.file(0, 60, 0, 8);
        x.file(1, 30, 0, 8);
        x.find();
        kept("least number", x, 0);
        x.wish(3, 0);
        kept("fewer folders above", x, 2);
        x.unwish();
        x.wish(4, 0);
        kept("lesser name", x, 3);
        x.unwish();
        x.wish(5, 0);
        kept("none is held", x, 0);
        x.hold(3, true);
        kept("held", x, 3);
        x.hold(1, true);
        kept("least of held ones", x, 1);
        x.link(0, 0, 1);
        x.hold(4, true);
        x.hold(1, false);
        x.hold(3, false);
        kept("a link", x, 4);
        x.unwish();
        x.write(0, 0, 0);
        kept("the first was written", x, 1);
        x.remove(1);
        kept("the next is gone", x, 2);
        x.write(2, 0, 0);
        x.write(3, 0, 0);
        kept("none are left", x, -1);
        Check.noSuch("no such group", () -> x.keep(1));
        Check.noSuch("no such group", () -> x.keep(-1));
        x.fill(0, 0, 8, 1);
        x.fill(2, 0, 8, 2);
        x.find();
        Check.noSuch("no such group any more", () -> x.keep(0));
    }

    private static void keepByFolder() {
        SameAgain x = new SameAgain();
        x.folder(0, 1);
        x.folder(0, 2);
        x.folder(2, 3);
        x.folder(3, 4);
        x.file(0, 1, 0, 8);
        x.file(1, 1, 0, 8);
        x.file(4, 1, 0, 8);
        x.file(2, 1, 0, 8);
        x.find();
        x.wish(0, 0);
        kept("all are below the top", x, 0);
        x.unwish();
        x.wish(0, 1);
        kept("in it", x, 1);
        x.unwish();
        x.wish(0, 2);
        kept("below it", x, 2);
        x.wish(3, 0);
        kept("below it, higher", x, 3);
        x.unwish();
        x.wish(0, 3);
        kept("below it, not above it", x, 2);
        x.move(2, 0, 2);
        kept("none is there", x, 0);
    }

    private static void keepByFarFolder() {
        SameAgain x = new SameAgain();
        for (int i = 0; i < 15; i++) {
            x.folder(i, 1);
        }
        x.file(15, 1, 0, 8);
        x.file(0, 1, 0, 8);
        x.find();
        x.wish(0, 0);
        kept("the deepest is below the top, too", x, 0);
        x.unwish();
        x.wish(3, 0);
        kept("fewer folders above", x, 1);
    }

    private static void keepByDay() {
        SameAgain x = new SameAgain();
        x.days(5);
        x.file(0, 1, 0, 8);
        x.days(5);
        x.file(0, 2, 0, 8);
        x.file(0, 3, 0, 8);
        x.days(5);
        x.file(0, 4, 0, 8);
        x.write(0, 0, 0);
        x.find();
        x.wish(1, 0);
        kept("earliest", x, 1);
        x.wish(4, 0);
        kept("earliest, lesser name", x, 1);
        x.unwish();
        x.wish(2, 0);
        kept("latest", x, 0);
        x.link(1, 0, 0);
        x.unwish();
        x.wish(1, 0);
        x.wish(4, 0);
        kept("a link has its body's day", x, 4);
    }

    private static void order() {
        SameAgain x = new SameAgain();
        x.folder(0, 1);
        x.file(1, 1, 0, 8);
        x.file(0, 3, 0, 8);
        x.file(0, 2, 0, 8);
        x.find();
        x.wish(4, 0);
        x.wish(3, 0);
        kept("name first", x, 0);
        x.unwish();
        x.wish(3, 0);
        x.wish(4, 0);
        kept("height first", x, 2);
        x.unwish();
        x.hold(0, true);
        x.hold(1, true);
        x.wish(1, 0);
        x.wish(5, 0);
        x.wish(3, 0);
        kept("day alike, held, height", x, 1);
        x.hold(2, true);
        x.unwish();
        x.wish(1, 0);
        x.wish(5, 0);
        x.wish(2, 0);
        kept("all three alike: the least number", x, 0);
    }
}
