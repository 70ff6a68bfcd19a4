import java.util.Arrays;
import java.util.NoSuchElementException;

/** A finder of doubles; ../shared/DOC.md says what each call promises. */
public final class SameAgain {
    public static final int NONE = -1;

    private static final int MOST_FOLDERS = 16;
    private static final int MOST_FILES = 60;
    private static final int MOST_BODIES = 100;
    private static final int MOST_BYTES = 64;
    private static final int MOST_WISHES = 3;
    private static final int MOST_MERGINGS = 20;
    private static final int MOST_DAYS = 1000;
    private static final int NAMES = 1000;
    private static final int OWNERS = 8;
    private static final int BLOCK = 8;
    private static final int PIECE = 4;
    private static final int ALL_NEAR = 1000;

    private static final int WISH_FOLDER = 0;
    private static final int WISH_EARLIER = 1;
    private static final int WISH_LATER = 2;
    private static final int WISH_FEWER_ABOVE = 3;
    private static final int WISH_LESSER_NAME = 4;
    private static final int WISH_HELD = 5;

    private final Folders folders;
    private final Files files;
    private final Bodies bodies;
    private final Findings findings;
    private final Pieces pieces;
    private final Pieces otherPieces;
    private final Wishes wishes;
    private final Mergings mergings;
    /** At owner * OWNERS + from: whether that owner has leave from that one. */
    private final boolean[] leaves;
    /** While folders are laid side by side: for each one below the first, the one that it is laid beside. */
    private final int[] twins;
    private int day;
    private int freed;

    public SameAgain() {
        folders = new Folders();
        files = new Files();
        bodies = new Bodies();
        findings = new Findings();
        pieces = new Pieces();
        otherPieces = new Pieces();
        wishes = new Wishes();
        mergings = new Mergings();
        leaves = new boolean[OWNERS * OWNERS];
        twins = new int[MOST_FOLDERS];
        day = 0;
        freed = 0;
    }

    // Promises 2 to 8: folders and files.

    public int folder(int in, int name) throws NoSuchElementException {
        needFolder(in);
        if (!isName(name) || !folders.hasRoom() || folders.named(in, name) != NONE) {
            return NONE;
        }
        return folders.make(in, name);
    }

    public int file(int folder, int name, int owner, int size) throws NoSuchElementException {
        needFolder(folder);
        if (!isOwner(owner) || size < 0 || size > MOST_BYTES) {
            return NONE;
        }
        if (!mayCome(folder, name) || !bodies.hasRoomFor(1)) {
            return NONE;
        }
        return files.make(folder, name, bodies.make(size, owner, day));
    }

    public int copy(int file, int folder, int name) throws NoSuchElementException {
        needFile(file);
        needFolder(folder);
        if (!mayCome(folder, name) || !bodies.hasRoomFor(1)) {
            return NONE;
        }
        int like = files.body[file];
        return files.make(folder, name, bodies.makeLike(like, bodies.owner[like], day));
    }

    public int link(int file, int folder, int name) throws NoSuchElementException {
        needFile(file);
        needFolder(folder);
        if (!mayCome(folder, name)) {
            return NONE;
        }
        return files.make(folder, name, files.body[file]);
    }

    public boolean move(int file, int folder, int name) throws NoSuchElementException {
        needFile(file);
        needFolder(folder);
        if (!isFreeName(folder, name)) {
            return false;
        }
        files.folder[file] = folder;
        files.name[file] = name;
        return true;
    }

    public int remove(int file) throws NoSuchElementException {
        needFile(file);
        if (files.held[file]) {
            return NONE;
        }
        int body = files.body[file];
        files.drop(file);
        return files.having(body);
    }

    public boolean hold(int file, boolean is) throws NoSuchElementException {
        needFile(file);
        boolean was = files.held[file];
        files.held[file] = is;
        return was;
    }

    // Promises 9 to 12: what is in a body, what is told of a file.

    public int write(int file, int place, int bytes) throws NoSuchElementException, IllegalArgumentException {
        needFile(file);
        int body = files.body[file];
        if (place < 0 || place > bodies.size[body] - PIECE) {
            throw new IllegalArgumentException("the four places are not all within the size");
        }
        for (int i = 0; i < PIECE; i++) {
            bodies.put(body, place + i, bytes >> 8 * (PIECE - 1 - i));
        }
        noteWritten(body);
        return files.having(body) - 1;
    }

    public int fill(int file, int from, int to, int b) throws NoSuchElementException, IllegalArgumentException {
        needFile(file);
        int body = files.body[file];
        if (from < 0 || from > to || to > bodies.size[body]) {
            throw new IllegalArgumentException("not 0 <= from <= to <= size");
        }
        for (int place = from; place < to; place++) {
            bodies.put(body, place, b);
        }
        if (from < to) {
            noteWritten(body);
        }
        return files.having(body) - 1;
    }

    public int at(int file, int place) throws NoSuchElementException {
        needFile(file);
        int body = files.body[file];
        if (place < 0 || place >= bodies.size[body]) {
            throw new NoSuchElementException("no such place");
        }
        return bodies.byteOf(body, place);
    }

    public int about(int file, int what) throws NoSuchElementException {
        needFile(file);
        int body = files.body[file];
        switch (what) {
            case 0:
                return files.folder[file];
            case 1:
                return files.name[file];
            case 2:
                return body;
            case 3:
                return bodies.size[body];
            case 4:
                return bodies.owner[body];
            case 5:
                return bodies.day[body];
            case 6:
                return files.having(body);
            case 7:
                return files.held[file] ? 1 : 0;
            case 8:
                return folders.above[files.folder[file]];
            default:
                throw new NoSuchElementException("nothing such is told of a file");
        }
    }

    // Promises 13 to 16: doubles.

    public int find() {
        findings.search(files, bodies);
        return findings.groups;
    }

    public int reads() {
        return findings.blocksRead;
    }

    public int groupOf(int file) throws NoSuchElementException {
        needFile(file);
        return findings.group[files.body[file]];
    }

    public int member(int group, int i) throws NoSuchElementException {
        needGroup(group);
        int seen = 0;
        for (int file = 0; file < files.made; file++) {
            if (isMember(file, group)) {
                if (seen == i) {
                    return file;
                }
                seen++;
            }
        }
        if (i != NONE) {
            throw new NoSuchElementException("no such file of the group");
        }
        return seen;
    }

    // Promises 17 to 19: near ones, folders side by side.

    public int near(int file, int other) throws NoSuchElementException {
        needFile(file);
        needFile(other);
        pieces.gather(bodies, files.body[file]);
        otherPieces.gather(bodies, files.body[other]);
        return pieces.nearnessTo(otherPieces);
    }

    public int nearest(int file, int least) throws NoSuchElementException, IllegalArgumentException {
        needFile(file);
        if (least < 0 || least > ALL_NEAR) {
            throw new IllegalArgumentException("least is not 0 to 1000");
        }
        pieces.gather(bodies, files.body[file]);
        int best = NONE;
        int bestNearness = least - 1;
        for (int other = 0; other < files.made; other++) {
            if (files.has(other) && files.body[other] != files.body[file]) {
                otherPieces.gather(bodies, files.body[other]);
                int nearness = pieces.nearnessTo(otherPieces);
                if (nearness > bestNearness) {
                    best = other;
                    bestNearness = nearness;
                }
            }
        }
        return best;
    }

    public int differ(int folder, int other) throws NoSuchElementException {
        needFolder(folder);
        needFolder(other);
        Arrays.fill(twins, NONE);
        twins[folder] = other;
        int all = differencesHere(folder, other);
        // A folder has a greater number than the one it lies in, so the twin of that one is known by then.
        for (int inner = folder + 1; inner < folders.made; inner++) {
            int twinAbove = twins[folders.in[inner]];
            if (twinAbove != NONE) {
                int twin = folders.named(twinAbove, folders.name[inner]);
                twins[inner] = twin;
                all += twin == NONE ? 1 : differencesHere(inner, twin);
            }
        }
        return all;
    }

    // Promises 20 to 23: wishes, leave, what is kept.

    public int wish(int what, int folder) throws NoSuchElementException, IllegalArgumentException {
        if (what < WISH_FOLDER || what > WISH_HELD) {
            throw new IllegalArgumentException("no such wish");
        }
        if (what == WISH_FOLDER) {
            needFolder(folder);
        }
        // Only a wish of kind 0 has a folder: the others are alike whatever folder is told.
        int told = what == WISH_FOLDER ? folder : NONE;
        if (!wishes.hasRoom() || wishes.has(what, told)) {
            return NONE;
        }
        wishes.add(what, told);
        return wishes.many;
    }

    public int unwish() {
        int were = wishes.many;
        wishes.many = 0;
        return were;
    }

    public boolean leave(int owner, int from) throws IllegalArgumentException {
        if (!isOwner(owner) || !isOwner(from)) {
            throw new IllegalArgumentException("no such owners");
        }
        boolean was = leaves[owner * OWNERS + from];
        leaves[owner * OWNERS + from] = true;
        return !was;
    }

    public int keep(int group) throws NoSuchElementException {
        needGroup(group);
        return keptOf(group);
    }

    // Promises 24 and 25: merging and undoing it.

    public int merge(int group) throws NoSuchElementException {
        needGroup(group);
        int kept = keptOf(group);
        if (kept == NONE) {
            return 0;
        }
        int body = files.body[kept];
        int got = 0;
        for (int file = 0; file < files.made; file++) {
            if (isMember(file, group) && mayGet(file, body)) {
                // Begun only here: a merging in which no file gets a body must not push out an older one.
                if (got == 0) {
                    mergings.begin(body);
                }
                mergings.note(file, bodies.owner[files.body[file]]);
                giveBody(file, body);
                got++;
            }
        }
        return got;
    }

    public int unmerge() {
        if (mergings.many == 0) {
            return NONE;
        }
        int merged = mergings.stillMerged(files);
        if (!bodies.hasRoomFor(merged)) {
            return NONE;
        }
        for (int file = 0; file < files.made; file++) {
            if (mergings.isStillMerged(files, file)) {
                int shared = files.body[file];
                files.body[file] = bodies.makeLike(shared, mergings.formerOwner(file), bodies.day[shared]);
            }
        }
        mergings.dropLatest();
        return merged;
    }

    // Promises 26 and 27: days and counts.

    public int days(int n) throws IllegalArgumentException {
        if (n < 0 || n > MOST_DAYS) {
            throw new IllegalArgumentException("n is not 0 to 1000");
        }
        day += n;
        return day;
    }

    public int count(int what) throws NoSuchElementException {
        switch (what) {
            case 0:
                return folders.made;
            case 1:
                return files.there();
            case 2:
                return bodiesThere();
            case 3:
                return bytesThere();
            case 4:
                return freed;
            case 5:
                return mergings.many;
            case 6:
                return day;
            case 7:
                return bodies.made;
            default:
                throw new NoSuchElementException("nothing such is counted");
        }
    }

    // What several calls ask.

    private void needFolder(int folder) {
        if (!folders.has(folder)) {
            throw new NoSuchElementException("no such folder");
        }
    }

    private void needFile(int file) {
        if (!files.has(file)) {
            throw new NoSuchElementException("no such file");
        }
    }

    private void needGroup(int group) {
        if (group < 0 || group >= findings.groups) {
            throw new NoSuchElementException("no such group was found");
        }
    }

    private static boolean isName(int name) {
        return name >= 0 && name < NAMES;
    }

    private static boolean isOwner(int owner) {
        return owner >= 0 && owner < OWNERS;
    }

    private boolean isFreeName(int folder, int name) {
        return isName(name) && files.named(folder, name) == NONE;
    }

    private boolean mayCome(int folder, int name) {
        return files.hasRoom() && isFreeName(folder, name);
    }

    private void noteWritten(int body) {
        bodies.day[body] = day;
        findings.group[body] = NONE;
    }

    private boolean isMember(int file, int group) {
        return files.has(file) && findings.group[files.body[file]] == group;
    }

    private int bodiesThere() {
        int there = 0;
        for (int body = 0; body < bodies.made; body++) {
            if (files.having(body) > 0) {
                there++;
            }
        }
        return there;
    }

    private int bytesThere() {
        int bytes = 0;
        for (int body = 0; body < bodies.made; body++) {
            if (files.having(body) > 0) {
                bytes += bodies.size[body];
            }
        }
        return bytes;
    }

    // Folders side by side.

    /** Without the names of folders that the first one has alone, and without what lies deeper. */
    private int differencesHere(int folder, int other) {
        return fileDifferences(folder, other) + foldersAlone(other, folder);
    }

    private int foldersAlone(int folder, int other) {
        int alone = 0;
        for (int inner = 1; inner < folders.made; inner++) {
            if (folders.in[inner] == folder && folders.named(other, folders.name[inner]) == NONE) {
                alone++;
            }
        }
        return alone;
    }

    private int fileDifferences(int folder, int other) {
        int differences = 0;
        for (int file = 0; file < files.made; file++) {
            if (files.isIn(file, folder)) {
                int twin = files.named(other, files.name[file]);
                if (twin == NONE || !bodies.areAlike(files.body[file], files.body[twin])) {
                    differences++;
                }
            }
            if (files.isIn(file, other) && files.named(folder, files.name[file]) == NONE) {
                differences++;
            }
        }
        return differences;
    }

    // What is kept, and what gets its body.

    private int keptOf(int group) {
        int kept = NONE;
        for (int file = 0; file < files.made; file++) {
            if (isMember(file, group) && (kept == NONE || isWishedBefore(file, kept))) {
                kept = file;
            }
        }
        return kept;
    }

    private boolean isWishedBefore(int file, int other) {
        for (int i = 0; i < wishes.many; i++) {
            int rank = rank(i, file);
            int otherRank = rank(i, other);
            if (rank != otherRank) {
                return rank < otherRank;
            }
        }
        return false;
    }

    /** The lesser it is, the better a file fits the i-th wish. */
    private int rank(int i, int file) {
        int folder = files.folder[file];
        switch (wishes.what[i]) {
            case WISH_FOLDER:
                return folders.isInOrBelow(folder, wishes.folder[i]) ? 0 : 1;
            case WISH_EARLIER:
                return bodies.day[files.body[file]];
            case WISH_LATER:
                return -bodies.day[files.body[file]];
            case WISH_FEWER_ABOVE:
                return folders.above[folder];
            case WISH_LESSER_NAME:
                return files.name[file];
            default:
                return files.held[file] ? 0 : 1;
        }
    }

    private boolean mayGet(int file, int body) {
        if (files.held[file] || files.body[file] == body) {
            return false;
        }
        int owner = bodies.owner[body];
        int from = bodies.owner[files.body[file]];
        return owner == from || leaves[owner * OWNERS + from];
    }

    private void giveBody(int file, int body) {
        int former = files.body[file];
        files.body[file] = body;
        if (files.having(former) == 0) {
            freed += bodies.size[former];
        }
    }

    /** The folders, each in one of a lesser number; 0 is in none. */
    private static final class Folders {
        private final int[] in = new int[MOST_FOLDERS];
        private final int[] name = new int[MOST_FOLDERS];
        /** How many folders are above a file in it. */
        private final int[] above = new int[MOST_FOLDERS];
        private int made;

        private Folders() {
            in[0] = NONE;
            name[0] = NONE;
            above[0] = 1;
            made = 1;
        }

        private boolean has(int folder) {
            return folder >= 0 && folder < made;
        }

        private boolean hasRoom() {
            return made < MOST_FOLDERS;
        }

        private int named(int folder, int itsName) {
            for (int inner = 1; inner < made; inner++) {
                if (in[inner] == folder && name[inner] == itsName) {
                    return inner;
                }
            }
            return NONE;
        }

        private int make(int folder, int itsName) {
            int inner = made;
            made++;
            in[inner] = folder;
            name[inner] = itsName;
            above[inner] = above[folder] + 1;
            return inner;
        }

        private boolean isInOrBelow(int folder, int told) {
            int upper = folder;
            for (int step = 0; step < MOST_FOLDERS && upper != NONE; step++) {
                if (upper == told) {
                    return true;
                }
                upper = in[upper];
            }
            return false;
        }
    }

    /** The files that ever were; one that is gone has no body, folder or name. */
    private static final class Files {
        private final int[] folder = new int[MOST_FILES];
        private final int[] name = new int[MOST_FILES];
        private final int[] body = new int[MOST_FILES];
        private final boolean[] held = new boolean[MOST_FILES];
        private int made;

        private boolean has(int file) {
            return file >= 0 && file < made && body[file] != NONE;
        }

        private boolean hasRoom() {
            return made < MOST_FILES;
        }

        private boolean isIn(int file, int itsFolder) {
            return folder[file] == itsFolder;
        }

        private int named(int itsFolder, int itsName) {
            for (int file = 0; file < made; file++) {
                if (folder[file] == itsFolder && name[file] == itsName) {
                    return file;
                }
            }
            return NONE;
        }

        private int make(int itsFolder, int itsName, int itsBody) {
            int file = made;
            made++;
            folder[file] = itsFolder;
            name[file] = itsName;
            body[file] = itsBody;
            return file;
        }

        private void drop(int file) {
            folder[file] = NONE;
            name[file] = NONE;
            body[file] = NONE;
        }

        private int having(int itsBody) {
            int having = 0;
            for (int file = 0; file < made; file++) {
                if (body[file] == itsBody) {
                    having++;
                }
            }
            return having;
        }

        private int there() {
            return made - having(NONE);
        }
    }

    /** The bodies that ever were; one is gone when no file has it. */
    private static final class Bodies {
        private final byte[] bytes = new byte[MOST_BODIES * MOST_BYTES];
        private final int[] size = new int[MOST_BODIES];
        private final int[] owner = new int[MOST_BODIES];
        private final int[] day = new int[MOST_BODIES];
        private int made;

        private boolean hasRoomFor(int more) {
            return made + more <= MOST_BODIES;
        }

        private int make(int itsSize, int itsOwner, int itsDay) {
            int body = made;
            made++;
            size[body] = itsSize;
            owner[body] = itsOwner;
            day[body] = itsDay;
            return body;
        }

        private int makeLike(int like, int itsOwner, int itsDay) {
            int body = make(size[like], itsOwner, itsDay);
            System.arraycopy(bytes, like * MOST_BYTES, bytes, body * MOST_BYTES, size[like]);
            return body;
        }

        private void put(int body, int place, int b) {
            bytes[body * MOST_BYTES + place] = (byte) b;
        }

        private int byteOf(int body, int place) {
            return bytes[body * MOST_BYTES + place] & 255;
        }

        private int pieceAt(int body, int place) {
            int piece = 0;
            for (int i = 0; i < PIECE; i++) {
                piece = piece << 8 | byteOf(body, place + i);
            }
            return piece;
        }

        private boolean areAlike(int body, int other) {
            return size[body] == size[other] && areAlikeWithin(body, other, 0, size[body]);
        }

        private boolean areAlikeWithin(int body, int other, int from, int to) {
            for (int place = from; place < to; place++) {
                if (byteOf(body, place) != byteOf(other, place)) {
                    return false;
                }
            }
            return true;
        }
    }

    /** What was found: the group that each body is in, and how many blocks were read for it. */
    private static final class Findings {
        private final int[] group = new int[MOST_BODIES];
        /** The least body of the heap that a body is in; NONE if it is in none of two or more. */
        private final int[] heap = new int[MOST_BODIES];
        private final int[] heapBefore = new int[MOST_BODIES];
        private int groups;
        private int blocksRead;

        private Findings() {
            Arrays.fill(group, NONE);
        }

        private void search(Files files, Bodies bodies) {
            heapBySize(files, bodies);
            blocksRead = 0;
            for (int from = 0; from < MOST_BYTES; from += BLOCK) {
                partByBlock(bodies, from);
            }
            numberGroups();
        }

        private void heapBySize(Files files, Bodies bodies) {
            Arrays.fill(heap, NONE);
            for (int body = 0; body < bodies.made; body++) {
                if (bodies.size[body] > 0 && files.having(body) > 0) {
                    heap[body] = leastOfSize(bodies, body);
                }
            }
            leaveOutLoneOnes();
        }

        private int leastOfSize(Bodies bodies, int body) {
            for (int lesser = 0; lesser < body; lesser++) {
                if (heap[lesser] != NONE && bodies.size[lesser] == bodies.size[body]) {
                    return lesser;
                }
            }
            return body;
        }

        private void partByBlock(Bodies bodies, int from) {
            System.arraycopy(heap, 0, heapBefore, 0, MOST_BODIES);
            for (int body = 0; body < bodies.made; body++) {
                if (heapBefore[body] != NONE && from < bodies.size[body]) {
                    blocksRead++;
                    heap[body] = leastOfBlock(bodies, body, from);
                }
            }
            leaveOutLoneOnes();
        }

        private int leastOfBlock(Bodies bodies, int body, int from) {
            int to = Math.min(from + BLOCK, bodies.size[body]);
            for (int lesser = heapBefore[body]; lesser < body; lesser++) {
                if (heapBefore[lesser] == heapBefore[body] && bodies.areAlikeWithin(lesser, body, from, to)) {
                    return lesser;
                }
            }
            return body;
        }

        private void leaveOutLoneOnes() {
            for (int body = 0; body < MOST_BODIES; body++) {
                if (heap[body] == body && !hasGreaterOne(body)) {
                    heap[body] = NONE;
                }
            }
        }

        private boolean hasGreaterOne(int least) {
            for (int body = least + 1; body < MOST_BODIES; body++) {
                if (heap[body] == least) {
                    return true;
                }
            }
            return false;
        }

        private void numberGroups() {
            groups = 0;
            for (int body = 0; body < MOST_BODIES; body++) {
                int least = heap[body];
                if (least == NONE) {
                    group[body] = NONE;
                } else if (least == body) {
                    group[body] = groups;
                    groups++;
                } else {
                    group[body] = group[least];
                }
            }
        }
    }

    /** The pieces of one body, unlike ones once, in rising order. */
    private static final class Pieces {
        private final int[] row = new int[MOST_BYTES - PIECE + 1];
        private int many;

        private void gather(Bodies bodies, int body) {
            many = 0;
            for (int place = 0; place + PIECE <= bodies.size[body]; place++) {
                add(bodies.pieceAt(body, place));
            }
        }

        private void add(int piece) {
            int place = 0;
            while (place < many && row[place] < piece) {
                place++;
            }
            if (place < many && row[place] == piece) {
                return;
            }
            for (int i = many; i > place; i--) {
                row[i] = row[i - 1];
            }
            row[place] = piece;
            many++;
        }

        private int nearnessTo(Pieces other) {
            int both = sharedWith(other);
            int either = many + other.many - both;
            return either == 0 ? 0 : ALL_NEAR * both / either;
        }

        private int sharedWith(Pieces other) {
            int shared = 0;
            int place = 0;
            for (int i = 0; i < many; i++) {
                while (place < other.many && other.row[place] < row[i]) {
                    place++;
                }
                if (place < other.many && other.row[place] == row[i]) {
                    shared++;
                }
            }
            return shared;
        }
    }

    /** The wishes, in their order. */
    private static final class Wishes {
        private final int[] what = new int[MOST_WISHES];
        private final int[] folder = new int[MOST_WISHES];
        private int many;

        private boolean hasRoom() {
            return many < MOST_WISHES;
        }

        private boolean has(int itsWhat, int itsFolder) {
            for (int i = 0; i < many; i++) {
                if (what[i] == itsWhat && folder[i] == itsFolder) {
                    return true;
                }
            }
            return false;
        }

        private void add(int itsWhat, int itsFolder) {
            what[many] = itsWhat;
            folder[many] = itsFolder;
            many++;
        }
    }

    /** The latest mergings, in a ring of rows in which a new one takes the place of the oldest. */
    private static final class Mergings {
        private final int[] body = new int[MOST_MERGINGS];
        /** By merging and file: the owner of the body that the file had; NONE if it got no other one. */
        private final int[][] owner = new int[MOST_MERGINGS][MOST_FILES];
        private int latest;
        private int many;

        private void begin(int keptBody) {
            latest = latest + 1 < MOST_MERGINGS ? latest + 1 : 0;
            many = Math.min(many + 1, MOST_MERGINGS);
            body[latest] = keptBody;
            Arrays.fill(owner[latest], NONE);
        }

        private void note(int file, int itsOwner) {
            owner[latest][file] = itsOwner;
        }

        private int formerOwner(int file) {
            return owner[latest][file];
        }

        private boolean isStillMerged(Files files, int file) {
            return owner[latest][file] != NONE && files.body[file] == body[latest];
        }

        private int stillMerged(Files files) {
            int merged = 0;
            for (int file = 0; file < files.made; file++) {
                if (isStillMerged(files, file)) {
                    merged++;
                }
            }
            return merged;
        }

        private void dropLatest() {
            latest = latest > 0 ? latest - 1 : MOST_MERGINGS - 1;
            many--;
        }
    }
}
