import java.util.ArrayList;
import java.util.Arrays;
import java.util.HashMap;
import java.util.HashSet;
import java.util.LinkedHashMap;
import java.util.List;
import java.util.Map;
import java.util.NoSuchElementException;
import java.util.Set;
import java.util.TreeMap;
import java.util.TreeSet;

/** The document once more, written with objects and the library's collections, to be compared with SameAgain. */
final class PlainModel {
    private static final class Dir {
        final Dir in;
        final Map<Integer, Dir> dirs = new TreeMap<>();
        final Map<Integer, Item> items = new TreeMap<>();
        final int number;

        Dir(Dir in, int number) {
            this.in = in;
            this.number = number;
        }

        List<Dir> upwards() {
            List<Dir> all = new ArrayList<>();
            for (Dir d = this; d != null; d = d.in) {
                all.add(d);
            }
            return all;
        }
    }

    private static final class Content {
        final int number;
        final int owner;
        final int[] bytes;
        final Set<Item> users = new HashSet<>();
        int day;

        Content(int number, int owner, int[] bytes, int day) {
            this.number = number;
            this.owner = owner;
            this.bytes = bytes;
            this.day = day;
        }
    }

    private static final class Item {
        final int number;
        Dir dir;
        int name;
        Content content;
        boolean held;

        Item(int number) {
            this.number = number;
        }
    }

    private static final class Merging {
        final Content kept;
        final Map<Item, Integer> ownerBefore = new LinkedHashMap<>();

        Merging(Content kept) {
            this.kept = kept;
        }
    }

    private final List<Dir> dirs = new ArrayList<>(List.of(new Dir(null, 0)));
    private final List<Item> items = new ArrayList<>();
    private final List<Content> contents = new ArrayList<>();
    private List<Set<Content>> groups = new ArrayList<>();
    private final List<int[]> wishes = new ArrayList<>();
    private final Set<List<Integer>> leaves = new HashSet<>();
    private final List<Merging> mergings = new ArrayList<>();
    private int blocksRead;
    private int day;
    private int freed;

    private Dir dir(int n) {
        if (n < 0 || n >= dirs.size()) {
            throw new NoSuchElementException();
        }
        return dirs.get(n);
    }

    private Item item(int n) {
        if (n < 0 || n >= items.size() || items.get(n).dir == null) {
            throw new NoSuchElementException();
        }
        return items.get(n);
    }

    private Set<Content> group(int n) {
        if (n < 0 || n >= groups.size()) {
            throw new NoSuchElementException();
        }
        return groups.get(n);
    }

    private static void need(boolean holds) {
        if (!holds) {
            throw new IllegalArgumentException();
        }
    }

    private static boolean within(int n, int least, int most) {
        return least <= n && n <= most;
    }

    int folder(int in, int name) {
        Dir above = dir(in);
        if (dirs.size() == 16 || above.dirs.containsKey(name) || !within(name, 0, 999)) {
            return -1;
        }
        Dir made = new Dir(above, dirs.size());
        above.dirs.put(name, made);
        dirs.add(made);
        return made.number;
    }

    private int put(Dir d, int name, Content content) {
        Item made = new Item(items.size());
        items.add(made);
        place(made, d, name);
        use(made, content);
        return made.number;
    }

    private static void place(Item item, Dir d, int name) {
        if (item.dir != null) {
            item.dir.items.remove(item.name);
        }
        item.dir = d;
        item.name = name;
        if (d != null) {
            d.items.put(name, item);
        }
    }

    private void use(Item item, Content content) {
        if (item.content != null) {
            item.content.users.remove(item);
            if (item.content.users.isEmpty()) {
                forget(item.content);
            }
        }
        item.content = content;
        if (content != null) {
            content.users.add(item);
        }
    }

    private void forget(Content content) {
        for (Set<Content> g : groups) {
            g.remove(content);
        }
    }

    private Content content(int owner, int[] bytes, int itsDay) {
        Content made = new Content(contents.size(), owner, bytes, itsDay);
        contents.add(made);
        return made;
    }

    private boolean refused(Dir d, int name) {
        return items.size() == 60 || d.items.containsKey(name) || !within(name, 0, 999);
    }

    int file(int folder, int name, int owner, int size) {
        Dir d = dir(folder);
        if (refused(d, name) || contents.size() == 100 || !within(owner, 0, 7) || !within(size, 0, 64)) {
            return -1;
        }
        return put(d, name, content(owner, new int[size], day));
    }

    int copy(int file, int folder, int name) {
        Item from = item(file);
        Dir d = dir(folder);
        if (refused(d, name) || contents.size() == 100) {
            return -1;
        }
        return put(d, name, content(from.content.owner, from.content.bytes.clone(), day));
    }

    int link(int file, int folder, int name) {
        Item from = item(file);
        Dir d = dir(folder);
        return refused(d, name) ? -1 : put(d, name, from.content);
    }

    boolean move(int file, int folder, int name) {
        Item it = item(file);
        Dir d = dir(folder);
        if (d.items.containsKey(name) || !within(name, 0, 999)) {
            return false;
        }
        place(it, d, name);
        return true;
    }

    int remove(int file) {
        Item it = item(file);
        if (it.held) {
            return -1;
        }
        Content was = it.content;
        use(it, null);
        place(it, null, -1);
        return was.users.size();
    }

    boolean hold(int file, boolean is) {
        Item it = item(file);
        boolean was = it.held;
        it.held = is;
        return was;
    }

    int write(int file, int place, int bytes) {
        Content c = item(file).content;
        need(place >= 0 && place + 3L < c.bytes.length);
        c.bytes[place] = bytes >>> 24;
        c.bytes[place + 1] = bytes >>> 16 & 255;
        c.bytes[place + 2] = bytes >>> 8 & 255;
        c.bytes[place + 3] = bytes & 255;
        c.day = day;
        forget(c);
        return c.users.size() - 1;
    }

    int fill(int file, int from, int to, int b) {
        Content c = item(file).content;
        need(0 <= from && from <= to && to <= c.bytes.length);
        if (from != to) {
            Arrays.fill(c.bytes, from, to, b & 255);
            c.day = day;
            forget(c);
        }
        return c.users.size() - 1;
    }

    int at(int file, int place) {
        Content c = item(file).content;
        if (!within(place, 0, c.bytes.length - 1)) {
            throw new NoSuchElementException();
        }
        return c.bytes[place];
    }

    int about(int file, int what) {
        Item it = item(file);
        int[] told = {it.dir.number, it.name, it.content.number, it.content.bytes.length, it.content.owner,
            it.content.day, it.content.users.size(), it.held ? 1 : 0, it.dir.upwards().size()};
        if (!within(what, 0, 8)) {
            throw new NoSuchElementException();
        }
        return told[what];
    }

    int find() {
        Map<Integer, Set<Content>> bySize = new HashMap<>();
        for (Content c : contents) {
            if (!c.users.isEmpty() && c.bytes.length > 0) {
                bySize.computeIfAbsent(c.bytes.length, k -> newSet()).add(c);
            }
        }
        blocksRead = 0;
        groups = new ArrayList<>();
        for (Set<Content> heap : bySize.values()) {
            part(heap, 0);
        }
        groups.sort((a, b) -> Integer.compare(least(a), least(b)));
        return groups.size();
    }

    private static Set<Content> newSet() {
        return new TreeSet<>((a, b) -> Integer.compare(a.number, b.number));
    }

    private static int least(Set<Content> heap) {
        return heap.iterator().next().number;
    }

    private void part(Set<Content> heap, int from) {
        if (heap.size() < 2) {
            return;
        }
        int size = heap.iterator().next().bytes.length;
        if (from >= size) {
            groups.add(heap);
            return;
        }
        Map<String, Set<Content>> parts = new HashMap<>();
        for (Content c : heap) {
            blocksRead++;
            String block = Arrays.toString(Arrays.copyOfRange(c.bytes, from, Math.min(from + 8, size)));
            parts.computeIfAbsent(block, k -> newSet()).add(c);
        }
        for (Set<Content> p : parts.values()) {
            part(p, from + 8);
        }
    }

    int reads() {
        return blocksRead;
    }

    int groupOf(int file) {
        Content c = item(file).content;
        for (int i = 0; i < groups.size(); i++) {
            if (groups.get(i).contains(c)) {
                return i;
            }
        }
        return -1;
    }

    private List<Item> members(Set<Content> group) {
        List<Item> all = new ArrayList<>();
        for (Content c : group) {
            all.addAll(c.users);
        }
        all.sort((a, b) -> Integer.compare(a.number, b.number));
        return all;
    }

    int member(int group, int i) {
        List<Item> all = members(group(group));
        if (!within(i, -1, all.size() - 1)) {
            throw new NoSuchElementException();
        }
        return i == -1 ? all.size() : all.get(i).number;
    }

    private static Set<List<Integer>> pieces(Content c) {
        Set<List<Integer>> all = new HashSet<>();
        for (int i = 3; i < c.bytes.length; i++) {
            all.add(List.of(c.bytes[i - 3], c.bytes[i - 2], c.bytes[i - 1], c.bytes[i]));
        }
        return all;
    }

    private static int nearness(Content a, Content b) {
        Set<List<Integer>> both = pieces(a);
        Set<List<Integer>> either = pieces(a);
        both.retainAll(pieces(b));
        either.addAll(pieces(b));
        return either.isEmpty() ? 0 : 1000 * both.size() / either.size();
    }

    int near(int file, int other) {
        return nearness(item(file).content, item(other).content);
    }

    int nearest(int file, int least) {
        Item it = item(file);
        need(within(least, 0, 1000));
        int best = -1;
        for (Item other : items) {
            if (other.content != null && other.content != it.content) {
                int nearness = nearness(it.content, other.content);
                if (nearness >= least && (best == -1 || nearness > nearness(it.content, items.get(best).content))) {
                    best = other.number;
                }
            }
        }
        return best;
    }

    int differ(int folder, int other) {
        return differences(dir(folder), dir(other));
    }

    private static int differences(Dir a, Dir b) {
        int all = 0;
        Set<Integer> names = new HashSet<>(a.items.keySet());
        names.addAll(b.items.keySet());
        for (int name : names) {
            Item one = a.items.get(name);
            Item two = b.items.get(name);
            if (one == null || two == null || !Arrays.equals(one.content.bytes, two.content.bytes)) {
                all++;
            }
        }
        Set<Integer> inner = new HashSet<>(a.dirs.keySet());
        inner.addAll(b.dirs.keySet());
        for (int name : inner) {
            Dir one = a.dirs.get(name);
            Dir two = b.dirs.get(name);
            all += one == null || two == null ? 1 : differences(one, two);
        }
        return all;
    }

    int wish(int what, int folder) {
        need(within(what, 0, 5));
        if (what == 0) {
            dir(folder);
        }
        for (int[] w : wishes) {
            if (w[0] == what && (what != 0 || w[1] == folder)) {
                return -1;
            }
        }
        if (wishes.size() == 3) {
            return -1;
        }
        wishes.add(new int[] {what, folder});
        return wishes.size();
    }

    int unwish() {
        int were = wishes.size();
        wishes.clear();
        return were;
    }

    boolean leave(int owner, int from) {
        need(within(owner, 0, 7) && within(from, 0, 7));
        return leaves.add(List.of(owner, from));
    }

    private int compare(int[] wish, Item a, Item b) {
        switch (wish[0]) {
            case 0:
                Dir told = dirs.get(wish[1]);
                return Boolean.compare(b.dir.upwards().contains(told), a.dir.upwards().contains(told));
            case 1:
                return Integer.compare(a.content.day, b.content.day);
            case 2:
                return Integer.compare(b.content.day, a.content.day);
            case 3:
                return Integer.compare(a.dir.upwards().size(), b.dir.upwards().size());
            case 4:
                return Integer.compare(a.name, b.name);
            default:
                return Boolean.compare(b.held, a.held);
        }
    }

    private Item kept(Set<Content> group) {
        List<Item> all = members(group);
        for (int i = wishes.size() - 1; i >= 0; i--) {
            int[] wish = wishes.get(i);
            all.sort((a, b) -> compare(wish, a, b));
        }
        return all.isEmpty() ? null : all.get(0);
    }

    int keep(int group) {
        Item kept = kept(group(group));
        return kept == null ? -1 : kept.number;
    }

    int merge(int group) {
        Set<Content> found = group(group);
        Item kept = kept(found);
        if (kept == null) {
            return 0;
        }
        Merging merging = new Merging(kept.content);
        for (Item it : members(found)) {
            Content c = it.content;
            boolean may = c.owner == kept.content.owner || leaves.contains(List.of(kept.content.owner, c.owner));
            if (!it.held && c != kept.content && may) {
                merging.ownerBefore.put(it, c.owner);
                use(it, kept.content);
                freed += c.users.isEmpty() ? c.bytes.length : 0;
            }
        }
        if (!merging.ownerBefore.isEmpty()) {
            mergings.add(merging);
            if (mergings.size() > 20) {
                mergings.remove(0);
            }
        }
        return merging.ownerBefore.size();
    }

    int unmerge() {
        if (mergings.isEmpty()) {
            return -1;
        }
        Merging latest = mergings.get(mergings.size() - 1);
        List<Item> back = new ArrayList<>(latest.ownerBefore.keySet());
        back.removeIf(it -> it.content != latest.kept);
        if (contents.size() + back.size() > 100) {
            return -1;
        }
        for (Item it : back) {
            use(it, content(latest.ownerBefore.get(it), latest.kept.bytes.clone(), latest.kept.day));
        }
        mergings.remove(latest);
        return back.size();
    }

    int days(int n) {
        need(within(n, 0, 1000));
        day += n;
        return day;
    }

    int count(int what) {
        int bodies = 0;
        int bytes = 0;
        for (Content c : contents) {
            if (!c.users.isEmpty()) {
                bodies++;
                bytes += c.bytes.length;
            }
        }
        int there = (int) items.stream().filter(it -> it.dir != null).count();
        int[] counts = {dirs.size(), there, bodies, bytes, freed, mergings.size(), day, contents.size()};
        if (!within(what, 0, 7)) {
            throw new NoSuchElementException();
        }
        return counts[what];
    }
}
