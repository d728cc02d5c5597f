import java.util.Arrays;

/** A city whose addresses are rows of beans; the promises it keeps are numbered in DOC.md. */
public final class BeanStreet {
    public static final int NONE = -1;

    private static final int BAD_NUMBER = -1;
    private static final int NO_SUCH = -2;
    private static final int CANNOT = -3;
    private static final int NO_ROOM = -5;
    private static final int BAD_TEXT = -6;

    private static final int COLOURS = 5;
    private static final int MOST_PLACES = 7;
    /** Seven beans of five colours have most orders as 2, 2, 1, 1, 1 of each. */
    private static final int MOST_HOUSES = 1260;
    private static final int MOST_LAWS = 6;
    private static final int MOST_WALLS = 8;
    private static final int MOST_CLUES = 6;
    private static final int MOST_SWAPS = 12;
    private static final int IMAGES = 2;
    private static final int MOST_DAY = 99;

    private static final int MOST_SEED = 1000000;
    private static final int MOST_DRUNK_STEPS = 500;
    private static final int DRAW_FACTOR = 1103;
    private static final int DRAW_MORE = 12345;
    private static final int DRAW_MODULUS = 1000003;

    private final State now = new State();
    private final State[] images = {new State(), new State()};
    private final boolean[] kept = new boolean[IMAGES];
    private final Houses city = new Houses();
    private final Reader reader = new Reader();
    private final Streets streets = new Streets(now, city);
    private final Walks walks = new Walks(city, streets);
    private final Parting parting = new Parting(city, streets);
    private final Rounds rounds = new Rounds(city, streets);
    private final Machine machine = new Machine(now, city);
    private final Riddle riddle = new Riddle(now, city, streets, walks);
    private final Postmen postmen = new Postmen(city, streets);

    private final int[] refusals = new int[5];
    private int status = 0;
    private int fault = NONE;
    private final int[] visits = new int[MOST_HOUSES];
    private boolean drunkKept = false;

    public BeanStreet() {
        city.settle(now.beans);
    }

    public int beans(int colour, int many) {
        if (colour < 0 || colour >= COLOURS || many < 0 || many > MOST_PLACES) {
            return refuse(BAD_NUMBER);
        }
        int before = now.beans[colour];
        if (city.places() - before + many > MOST_PLACES) {
            return refuse(BAD_NUMBER);
        }
        now.beans[colour] = many;
        resettle();
        return accept(before);
    }

    public int houses() {
        return city.many();
    }

    public int code(int house) {
        return city.has(house) ? city.codeOf(house) : NONE;
    }

    public int house(int code) {
        return city.withCode(code);
    }

    public int terms(int what, int value) {
        int most = what == 0 ? 1 : MOST_DAY;
        if (what < 0 || what > 1 || value < 0 || value > most) {
            return refuse(BAD_NUMBER);
        }
        int before = now.terms[what];
        now.terms[what] = value;
        streets.changeAll();
        return accept(before);
    }

    public int feed(int a, int b, int c, int d, int e) {
        if (!reader.hasRoom(20)) {
            return NONE;
        }
        reader.take(a);
        reader.take(b);
        reader.take(c);
        reader.take(d);
        reader.take(e);
        return reader.length();
    }

    public int end(int n) {
        return reader.cut(n) ? n : NONE;
    }

    public int row() {
        int length = reader.length();
        if (!reader.holdsColours()) {
            reader.cut(0);
            return refuse(BAD_TEXT);
        }
        Arrays.fill(now.beans, 0);
        int row = 0;
        for (int i = 0; i < length; i++) {
            int colour = reader.at(i);
            now.beans[colour]++;
            row = Houses.behind(row, colour);
        }
        reader.cut(0);
        resettle();
        return accept(city.find(row));
    }

    public int law() {
        if (now.lawCount >= MOST_LAWS) {
            reader.cut(0);
            return refuse(NO_ROOM);
        }
        fault = reader.compile();
        reader.cut(0);
        if (fault != NONE) {
            return refuse(BAD_TEXT);
        }
        now.laws[now.lawCount] = reader.compiled();
        now.lawCount++;
        return accept(now.lawCount - 1);
    }

    public int fault() {
        return fault;
    }

    public int force(int law) {
        if (law < NONE || law >= now.lawCount) {
            return refuse(NO_SUCH);
        }
        int before = now.force;
        now.force = law;
        streets.changeAll();
        return accept(before);
    }

    public int wall(int one, int other) {
        if (!city.has(one) || !city.has(other)) {
            return refuse(NO_SUCH);
        }
        if (one == other || now.wallBetween(one, other) != NONE) {
            return refuse(CANNOT);
        }
        if (now.wallCount >= MOST_WALLS) {
            return refuse(NO_ROOM);
        }
        now.addWall(one, other);
        streets.changeWalls();
        return accept(now.wallCount);
    }

    public int breach(int one, int other) {
        if (!city.has(one) || !city.has(other)) {
            return refuse(NO_SUCH);
        }
        int which = now.wallBetween(one, other);
        if (which == NONE) {
            return refuse(CANNOT);
        }
        now.dropWall(which);
        streets.changeWalls();
        return accept(now.wallCount);
    }

    public int step(int house, int i, int what) {
        if (!city.has(house)) {
            return NONE;
        }
        streets.prepare();
        int many = streets.degree(house);
        if (i == NONE) {
            return many;
        }
        if (i < 0 || i >= many || what < 0 || what > 1) {
            return NONE;
        }
        return what == 0 ? streets.to(house, i) : streets.takes(house, i);
    }

    public int far(int from, int to, int what) {
        if (!city.has(from) || !city.has(to)) {
            return NONE;
        }
        streets.prepare();
        switch (what) {
            case 0:
                return walks.farTo(from, to);
            case 1:
                return walks.waysTo(from, to);
            case 2:
                return walks.leastTo(from, to);
            default:
                return NONE;
        }
    }

    public int way(int from, int to, int i) {
        if (!city.has(from) || !city.has(to)) {
            return NONE;
        }
        streets.prepare();
        return walks.onWay(from, to, i);
    }

    public int reach(int house, int what) {
        if (!city.has(house)) {
            return NONE;
        }
        streets.prepare();
        return walks.reachOf(house, what);
    }

    public int read(int house, int what) {
        if (!city.has(house)) {
            return NONE;
        }
        switch (what) {
            case 0:
                return city.backwardOf(house);
            case 1:
                return city.inversionsOf(house);
            default:
                return NONE;
        }
    }

    public int parted(int from, int to) {
        if (!city.has(from) || !city.has(to) || from == to) {
            return NONE;
        }
        streets.prepare();
        return parting.fewest(from, to);
    }

    public long rows(int from, int to, int n) {
        if (!city.has(from) || (to != NONE && !city.has(to)) || n < 0 || n > Walks.MOST_ROW) {
            return NONE;
        }
        streets.prepare();
        return walks.rowsTo(from, to, n);
    }

    public int round(int i) {
        if (city.many() > Rounds.MOST) {
            return NONE;
        }
        streets.prepare();
        boolean is = rounds.exists();
        if (i == NONE) {
            return is ? 1 : 0;
        }
        return is ? rounds.at(i) : NONE;
    }

    public int swapIf(int left, int right) {
        if (left < 0 || right <= left || right >= city.places()) {
            return refuse(BAD_NUMBER);
        }
        if (now.swapCount >= MOST_SWAPS) {
            return refuse(NO_ROOM);
        }
        now.addSwap(left, right);
        return accept(now.swapCount);
    }

    public int keep(int n) {
        if (n < 0 || n > now.swapCount) {
            return refuse(BAD_NUMBER);
        }
        int before = now.swapCount;
        now.swapCount = n;
        return accept(before);
    }

    public int sorts(int what) {
        machine.prepare();
        switch (what) {
            case 0:
                return machine.sortedAll();
            case 1:
                return machine.firstUnsorted();
            case 2:
                return machine.needless();
            case 3:
                return machine.fewestFirst();
            default:
                return NONE;
        }
    }

    public int sorted(int house) {
        if (!city.has(house)) {
            return NONE;
        }
        machine.prepare();
        return machine.result(house);
    }

    public int clue(int house, int steps) {
        if (steps < NONE) {
            return refuse(BAD_NUMBER);
        }
        if (!city.has(house)) {
            return refuse(NO_SUCH);
        }
        if (now.clueCount >= MOST_CLUES) {
            return refuse(NO_ROOM);
        }
        now.addClue(house, steps);
        riddle.change();
        return accept(now.clueCount);
    }

    public int forget() {
        int before = now.clueCount;
        now.clueCount = 0;
        riddle.change();
        return before;
    }

    public int fits(int i) {
        streets.prepare();
        riddle.refit();
        return i == NONE ? riddle.many() : riddle.at(i);
    }

    public int ask(int what) {
        streets.prepare();
        riddle.refit();
        if (riddle.many() == 0 || what < 0 || what > 1) {
            return NONE;
        }
        riddle.choose();
        return what == 0 ? riddle.best() : riddle.worst();
    }

    public int post(int one, int oneTo, int other, int otherTo) {
        if (city.many() > Postmen.MOST || !city.has(one) || !city.has(oneTo)
                || !city.has(other) || !city.has(otherTo)) {
            return NONE;
        }
        if (one == other || oneTo == otherTo) {
            return NONE;
        }
        streets.prepare();
        return postmen.fewest(one, oneTo, other, otherTo);
    }

    public int drunk(int seed, int house, int n) {
        if (seed < 0 || seed > MOST_SEED || n < 0 || n > MOST_DRUNK_STEPS) {
            return refuse(BAD_NUMBER);
        }
        if (!city.has(house)) {
            return refuse(NO_SUCH);
        }
        streets.prepare();
        Arrays.fill(visits, 0);
        int s = seed;
        int at = house;
        visits[at]++;
        for (int i = 0; i < n; i++) {
            int many = streets.degree(at);
            if (many > 0) {
                s = (s * DRAW_FACTOR + DRAW_MORE) % DRAW_MODULUS;
                at = streets.to(at, s % many);
            }
            visits[at]++;
        }
        drunkKept = true;
        return accept(at);
    }

    public int drawn(int house) {
        return drunkKept && city.has(house) ? visits[house] : NONE;
    }

    public int image(int k) {
        if (k < 0 || k >= IMAGES) {
            return refuse(BAD_NUMBER);
        }
        images[k].copyFrom(now);
        kept[k] = true;
        return accept(0);
    }

    public int back(int k) {
        if (k < 0 || k >= IMAGES) {
            return refuse(BAD_NUMBER);
        }
        if (!kept[k]) {
            return refuse(NO_SUCH);
        }
        now.copyFrom(images[k]);
        city.settle(now.beans);
        streets.changeAll();
        return accept(0);
    }

    public int count(int what) {
        if (what >= 1 && what <= COLOURS) {
            return now.beans[what - 1];
        }
        if (what >= 11 && what <= 15) {
            return refusals[what - 11];
        }
        switch (what) {
            case 0:
                return city.places();
            case 6:
                return now.lawCount;
            case 7:
                return now.wallCount;
            case 8:
                return now.clueCount;
            case 9:
                return now.swapCount;
            case 10:
                return reader.length();
            case 16:
                return now.force;
            case 17:
                return now.terms[0];
            case 18:
                return now.terms[1];
            default:
                return NONE;
        }
    }

    public int status() {
        return status;
    }

    private int accept(int answer) {
        status = 0;
        return answer;
    }

    private int refuse(int by) {
        status = by;
        refusals[refusalPlace(by)]++;
        return by;
    }

    private static int refusalPlace(int by) {
        switch (by) {
            case BAD_NUMBER:
                return 0;
            case NO_SUCH:
                return 1;
            case CANNOT:
                return 2;
            case NO_ROOM:
                return 3;
            default:
                return 4;
        }
    }

    /** Other beans make other houses: what named houses or places that may be gone goes too. */
    private void resettle() {
        city.settle(now.beans);
        now.wallCount = 0;
        now.clueCount = 0;
        now.dropSwapsBeyond(city.places());
        streets.changeAll();
    }

    /** The row itself if it is long enough, else a new one at least twice as long, so growing stays cheap. */
    private static int[] grown(int[] row, int need) {
        return row.length >= need ? row : new int[Math.max(need, 2 * row.length)];
    }

    /** All that an image keeps. */
    private static final class State {
        private final int[] beans = new int[COLOURS];
        private final int[] terms = new int[2];
        /** A law's code is never changed once it stands, so images share it. */
        private final int[][] laws = new int[MOST_LAWS][0];
        private int lawCount = 0;
        private int force = NONE;
        private final int[] wallOnes = new int[MOST_WALLS];
        private final int[] wallOthers = new int[MOST_WALLS];
        private int wallCount = 0;
        private final int[] clueHouses = new int[MOST_CLUES];
        private final int[] clueSteps = new int[MOST_CLUES];
        private int clueCount = 0;
        private final int[] swapLefts = new int[MOST_SWAPS];
        private final int[] swapRights = new int[MOST_SWAPS];
        private int swapCount = 0;

        void copyFrom(State other) {
            System.arraycopy(other.beans, 0, beans, 0, COLOURS);
            System.arraycopy(other.terms, 0, terms, 0, 2);
            for (int i = 0; i < MOST_LAWS; i++) {
                laws[i] = other.laws[i];
            }
            lawCount = other.lawCount;
            force = other.force;
            System.arraycopy(other.wallOnes, 0, wallOnes, 0, MOST_WALLS);
            System.arraycopy(other.wallOthers, 0, wallOthers, 0, MOST_WALLS);
            wallCount = other.wallCount;
            System.arraycopy(other.clueHouses, 0, clueHouses, 0, MOST_CLUES);
            System.arraycopy(other.clueSteps, 0, clueSteps, 0, MOST_CLUES);
            clueCount = other.clueCount;
            System.arraycopy(other.swapLefts, 0, swapLefts, 0, MOST_SWAPS);
            System.arraycopy(other.swapRights, 0, swapRights, 0, MOST_SWAPS);
            swapCount = other.swapCount;
        }

        boolean lawful() {
            return force >= 0 && force < lawCount;
        }

        int wallBetween(int one, int other) {
            for (int i = 0; i < wallCount; i++) {
                boolean same = wallOnes[i] == one && wallOthers[i] == other;
                if (same || (wallOnes[i] == other && wallOthers[i] == one)) {
                    return i;
                }
            }
            return NONE;
        }

        void addWall(int one, int other) {
            if (wallCount < MOST_WALLS) {
                wallOnes[wallCount] = one;
                wallOthers[wallCount] = other;
                wallCount++;
            }
        }

        void dropWall(int which) {
            if (which >= 0 && which < wallCount) {
                wallCount--;
                wallOnes[which] = wallOnes[wallCount];
                wallOthers[which] = wallOthers[wallCount];
            }
        }

        void addClue(int house, int steps) {
            if (clueCount < MOST_CLUES) {
                clueHouses[clueCount] = house;
                clueSteps[clueCount] = steps;
                clueCount++;
            }
        }

        void addSwap(int left, int right) {
            if (swapCount < MOST_SWAPS) {
                swapLefts[swapCount] = left;
                swapRights[swapCount] = right;
                swapCount++;
            }
        }

        void dropSwapsBeyond(int places) {
            int before = swapCount;
            swapCount = 0;
            for (int i = 0; i < before; i++) {
                if (swapRights[i] < places) {
                    addSwap(swapLefts[i], swapRights[i]);
                }
            }
        }
    }

    /**
     * The houses as rows of colours, three bits a place and the first place highest: so held, rows
     * of one length have the order of their codes, and two beans change about by two flips.
     */
    private static final class Houses {
        private static final int BITS = 3;
        private static final int MASK = 7;

        private final int[] rows = new int[MOST_HOUSES];
        private final int[] beads = new int[MOST_PLACES];
        private int many = 0;
        private int places = 0;

        void settle(int[] beans) {
            places = 0;
            for (int colour = 0; colour < COLOURS; colour++) {
                for (int i = 0; i < beans[colour] && places < MOST_PLACES; i++) {
                    beads[places] = colour;
                    places++;
                }
            }
            many = 0;
            boolean more = true;
            for (int i = 0; i < MOST_HOUSES && more; i++) {
                rows[many] = packed();
                many++;
                more = nextOrder();
            }
        }

        private int packed() {
            int row = 0;
            for (int i = 0; i < places; i++) {
                row = behind(row, beads[i]);
            }
            return row;
        }

        private boolean nextOrder() {
            int low = places - 2;
            while (low >= 0 && beads[low] >= beads[low + 1]) {
                low--;
            }
            if (low < 0) {
                return false;
            }
            int high = places - 1;
            while (high > low && beads[high] <= beads[low]) {
                high--;
            }
            changeBeads(low, high);
            int left = low + 1;
            int right = places - 1;
            while (left < right) {
                changeBeads(left, right);
                left++;
                right--;
            }
            return true;
        }

        private void changeBeads(int one, int other) {
            int bead = beads[one];
            beads[one] = beads[other];
            beads[other] = bead;
        }

        int many() {
            return many;
        }

        int places() {
            return places;
        }

        boolean has(int house) {
            return house >= 0 && house < many;
        }

        int rowOf(int house) {
            return has(house) ? rows[house] : 0;
        }

        /** The house of a row; NONE if its beans are others. */
        int find(int row) {
            int low = 0;
            int high = many - 1;
            while (low <= high) {
                int middle = (low + high) >> 1;
                if (rows[middle] == row) {
                    return middle;
                }
                if (rows[middle] < row) {
                    low = middle + 1;
                } else {
                    high = middle - 1;
                }
            }
            return NONE;
        }

        static int behind(int row, int colour) {
            return (row << BITS) | colour;
        }

        int shiftOf(int place) {
            return BITS * (places - 1 - place);
        }

        static int colourAt(int row, int shift) {
            return (row >> shift) & MASK;
        }

        static int exchanged(int row, int leftShift, int rightShift) {
            int flip = colourAt(row, leftShift) ^ colourAt(row, rightShift);
            return row ^ (flip << leftShift) ^ (flip << rightShift);
        }

        int turned(int row) {
            if (places < 2) {
                return row;
            }
            int first = colourAt(row, shiftOf(0));
            int rest = row & ((1 << shiftOf(0)) - 1);
            return behind(rest, first);
        }

        int codeOf(int house) {
            int code = 0;
            for (int place = 0; place < places; place++) {
                code = code * COLOURS + colourAt(rowOf(house), shiftOf(place));
            }
            return code;
        }

        int withCode(int code) {
            if (code < 0) {
                return NONE;
            }
            int left = code;
            int row = 0;
            for (int place = places - 1; place >= 0; place--) {
                row |= (left % COLOURS) << shiftOf(place);
                left /= COLOURS;
            }
            return left == 0 ? find(row) : NONE;
        }

        int backwardOf(int house) {
            int row = 0;
            for (int place = places - 1; place >= 0; place--) {
                row = behind(row, colourAt(rowOf(house), shiftOf(place)));
            }
            return find(row);
        }

        int inversionsOf(int house) {
            int row = rowOf(house);
            int found = 0;
            for (int left = 0; left < places; left++) {
                int colour = colourAt(row, shiftOf(left));
                for (int right = left + 1; right < places; right++) {
                    if (colour > colourAt(row, shiftOf(right))) {
                        found++;
                    }
                }
            }
            return found;
        }
    }

    /**
     * The tape, and the reader of the laws on it. A law becomes code for a Judge, an instruction a
     * number: the kind in the low bits, what belongs to it above.
     */
    private static final class Reader {
        private static final int MOST_BYTES = 400;
        private static final int MOST_CLAUSES = 12;
        private static final int MOST_PARTS = 50;
        private static final int MOST_BRACKETS = 8;
        private static final int MOST_NUMBER = 1000;
        private static final int BLANK = 32;

        /** Each word's number is its place here; every word has a blank behind it. */
        private static final String WORDS =
                "takes lets bars if or and not left right one other apart first beans day ";
        private static final int TAKES = 0;
        private static final int LETS = 1;
        private static final int BARS = 2;
        private static final int IF = 3;
        private static final int OR = 4;
        private static final int AND = 5;
        private static final int NOT = 6;
        private static final int FIRST_PART = 7;
        private static final int LAST_PART = 14;
        private static final int NO_WORD = 15;
        private static final int DIGITS = 16;
        private static final int ENDING = 17;
        /** A token that is a single byte: that byte above this. */
        private static final int SIGN = 100;

        private final int[] tape = new int[MOST_BYTES];
        private int length = 0;
        private int token = ENDING;
        private int start = 0;
        private int behind = 0;
        private int value = 0;
        private int parts = 0;
        private int fault = NONE;
        /** A token makes one instruction at most, a clause one more. */
        private final int[] code = new int[MOST_BYTES + MOST_CLAUSES];
        private int size = 0;

        int length() {
            return length;
        }

        int at(int i) {
            return i >= 0 && i < length ? tape[i] : NONE;
        }

        boolean hasRoom(int bytes) {
            return length + bytes <= MOST_BYTES;
        }

        void take(int four) {
            for (int shift = 24; shift >= 0 && length < MOST_BYTES; shift -= 8) {
                tape[length] = (four >> shift) & 255;
                length++;
            }
        }

        boolean cut(int n) {
            if (n < 0 || n > length) {
                return false;
            }
            length = n;
            return true;
        }

        boolean holdsColours() {
            if (length < 1 || length > MOST_PLACES) {
                return false;
            }
            for (int i = 0; i < length; i++) {
                if (tape[i] >= COLOURS) {
                    return false;
                }
            }
            return true;
        }

        /** Reads the tape as a law: where its fault is, or NONE. */
        int compile() {
            behind = 0;
            parts = 0;
            size = 0;
            fault = NONE;
            advance();
            boolean good = clause();
            for (int clauses = 1; clauses <= MOST_CLAUSES && good && isSign(';'); clauses++) {
                advance();
                good = clauses < MOST_CLAUSES ? clause() : wrong();
            }
            if (good && token != ENDING) {
                wrong();
            }
            return fault;
        }

        int[] compiled() {
            return Arrays.copyOf(code, size);
        }

        private boolean clause() {
            int kind = token;
            if (kind != TAKES && kind != LETS && kind != BARS) {
                return wrong();
            }
            advance();
            if (kind == TAKES && !sum(0)) {
                return false;
            }
            if (token == IF) {
                advance();
                if (!test(0)) {
                    return false;
                }
            } else {
                emit(Judge.NUMBER, 1);
            }
            emit(kind == TAKES ? Judge.TAKES : kind == LETS ? Judge.LETS : Judge.BARS, 0);
            return true;
        }

        private boolean test(int depth) {
            if (!both(depth)) {
                return false;
            }
            for (int more = 0; more < MOST_BYTES && token == OR; more++) {
                advance();
                int skip = emit(Judge.OR, 0);
                if (!both(depth)) {
                    return false;
                }
                aim(skip);
            }
            return true;
        }

        private boolean both(int depth) {
            if (!plain(depth)) {
                return false;
            }
            for (int more = 0; more < MOST_BYTES && token == AND; more++) {
                advance();
                int skip = emit(Judge.AND, 0);
                if (!plain(depth)) {
                    return false;
                }
                aim(skip);
            }
            return true;
        }

        private boolean plain(int depth) {
            boolean denied = false;
            for (int more = 0; more < MOST_BYTES && token == NOT; more++) {
                denied = !denied;
                advance();
            }
            if (isSign('(')) {
                if (!bracketedTest(depth)) {
                    return false;
                }
            } else {
                if (!sum(depth)) {
                    return false;
                }
                int kind = isSign('<') ? Judge.LESS : isSign('>') ? Judge.MORE : Judge.SAME;
                if (kind == Judge.SAME && !isSign('=')) {
                    return wrong();
                }
                advance();
                if (!sum(depth)) {
                    return false;
                }
                emit(kind, 0);
            }
            if (denied) {
                emit(Judge.NOT, 0);
            }
            return true;
        }

        private boolean bracketedTest(int depth) {
            if (depth >= MOST_BRACKETS) {
                return wrong();
            }
            advance();
            if (!test(depth + 1)) {
                return false;
            }
            if (!isSign(')')) {
                return wrong();
            }
            advance();
            return true;
        }

        private boolean sum(int depth) {
            if (!term(depth)) {
                return false;
            }
            for (int more = 0; more < MOST_BYTES && (isSign('+') || isSign('-')); more++) {
                int kind = isSign('+') ? Judge.PLUS : Judge.LESSEN;
                advance();
                if (!term(depth)) {
                    return false;
                }
                emit(kind, 0);
            }
            return true;
        }

        private boolean term(int depth) {
            if (!part(depth)) {
                return false;
            }
            for (int more = 0; more < MOST_BYTES && (isSign('*') || isSign('/')); more++) {
                int kind = isSign('*') ? Judge.TIMES : Judge.DIVIDE;
                advance();
                if (!part(depth)) {
                    return false;
                }
                emit(kind, 0);
            }
            return true;
        }

        private boolean part(int depth) {
            if (isSign('[')) {
                return bracketedSum(depth);
            }
            boolean number = token == DIGITS && value <= MOST_NUMBER;
            boolean word = token >= FIRST_PART && token <= LAST_PART;
            if ((!number && !word) || parts >= MOST_PARTS) {
                return wrong();
            }
            parts++;
            if (number) {
                emit(Judge.NUMBER, value);
            } else {
                emit(Judge.WORD, token - FIRST_PART);
            }
            advance();
            return true;
        }

        private boolean bracketedSum(int depth) {
            if (depth >= MOST_BRACKETS) {
                return wrong();
            }
            advance();
            if (!sum(depth + 1)) {
                return false;
            }
            if (!isSign(']')) {
                return wrong();
            }
            advance();
            return true;
        }

        private boolean isSign(char sign) {
            return token == SIGN + sign;
        }

        private boolean wrong() {
            fault = start;
            return false;
        }

        private int emit(int kind, int more) {
            int place = size;
            if (size < code.length) {
                code[size] = kind | (more << Judge.KIND_BITS);
                size++;
            }
            return place;
        }

        /** The instruction there leads to the one that comes next. */
        private void aim(int place) {
            if (place >= 0 && place < size) {
                code[place] |= size << Judge.KIND_BITS;
            }
        }

        private void advance() {
            start = behind;
            while (start < length && tape[start] == BLANK) {
                start++;
            }
            behind = start;
            if (start >= length) {
                token = ENDING;
            } else if (isLetter(tape[start])) {
                while (behind < length && isLetter(tape[behind])) {
                    behind++;
                }
                token = wordNumber();
            } else if (isDigit(tape[start])) {
                value = 0;
                while (behind < length && isDigit(tape[behind])) {
                    value = Math.min(MOST_NUMBER + 1, value * 10 + tape[behind] - '0');
                    behind++;
                }
                token = DIGITS;
            } else {
                token = SIGN + tape[start];
                behind++;
            }
        }

        private int wordNumber() {
            int number = 0;
            int at = start;
            boolean same = true;
            for (int i = 0; i < WORDS.length(); i++) {
                char letter = WORDS.charAt(i);
                if (letter == BLANK) {
                    if (same && at == behind) {
                        return number;
                    }
                    number++;
                    at = start;
                    same = true;
                } else {
                    same = same && at < behind && tape[at] == letter;
                    at++;
                }
            }
            return NO_WORD;
        }

        private static boolean isLetter(int sign) {
            return sign >= 'a' && sign <= 'z';
        }

        private static boolean isDigit(int sign) {
            return sign >= '0' && sign <= '9';
        }
    }

    /** Runs a law's code for one exchange. */
    private static final class Judge {
        private static final int KIND_BITS = 5;
        private static final int KIND_MASK = 31;
        private static final int NUMBER = 0;
        private static final int WORD = 1;
        private static final int PLUS = 2;
        private static final int LESSEN = 3;
        private static final int TIMES = 4;
        private static final int DIVIDE = 5;
        private static final int LESS = 6;
        private static final int MORE = 7;
        private static final int SAME = 8;
        private static final int NOT = 9;
        private static final int OR = 10;
        private static final int AND = 11;
        /** These end a clause. */
        private static final int TAKES = 12;
        private static final int LETS = 13;
        private static final int BARS = 14;

        private static final int BOUND = 1000000000;
        private static final int MOST_TAKEN = 99;
        private static final int WORDS = 8;
        private static final int MOST_STACK = 64;

        /** As the reader numbers them: left, right, one, other, apart, first, beans, day. */
        private final int[] words = new int[WORDS];
        private final long[] stack = new long[MOST_STACK];
        private int height = 0;
        /** Stays so to the clause's end: whatever else is asked there, the clause does not hold. */
        private boolean broken = false;
        private boolean hasLets = false;
        private boolean let = false;
        private boolean barred = false;
        private int taken = 1;

        void setPlaces(int left, int right) {
            words[0] = left;
            words[1] = right;
            words[4] = right - left;
        }

        void setColours(int one, int other, int first) {
            words[2] = one;
            words[3] = other;
            words[5] = first;
        }

        void setTimes(int beans, int day) {
            words[6] = beans;
            words[7] = day;
        }

        /** What the exchange takes, 0 if it is not let; no law: code without a clause. */
        int verdict(int[] code) {
            begin();
            for (int at = 0; at < code.length; at++) {
                int kind = code[at] & KIND_MASK;
                int more = code[at] >> KIND_BITS;
                if (kind >= TAKES) {
                    close(kind);
                } else if (kind == OR || kind == AND) {
                    if ((top() != 0) == (kind == OR)) {
                        at = Math.max(at, more - 1);
                    } else {
                        height = Math.max(0, height - 1);
                    }
                } else {
                    run(kind, more);
                }
            }
            boolean open = hasLets ? let : words[4] == 1;
            return open && !barred ? taken : 0;
        }

        private void begin() {
            height = 0;
            broken = false;
            hasLets = false;
            let = false;
            barred = false;
            taken = 1;
        }

        private void close(int kind) {
            boolean holds = !broken && top() != 0;
            if (kind == LETS) {
                hasLets = true;
                let = let || holds;
            } else if (kind == BARS) {
                barred = barred || holds;
            } else if (holds) {
                taken = (int) Math.max(1, Math.min(MOST_TAKEN, stack[0]));
            }
            height = 0;
            broken = false;
        }

        private void run(int kind, int more) {
            if (kind == NUMBER) {
                push(more);
            } else if (kind == WORD) {
                push(more >= 0 && more < WORDS ? words[more] : 0);
            } else if (kind == NOT) {
                push(pop() == 0 ? 1 : 0);
            } else {
                long right = pop();
                push(joined(kind, pop(), right));
            }
        }

        private long joined(int kind, long left, long right) {
            switch (kind) {
                case PLUS:
                    return bounded(left + right);
                case LESSEN:
                    return bounded(left - right);
                case TIMES:
                    return bounded(left * right);
                case DIVIDE:
                    broken = broken || right == 0;
                    return right == 0 ? 0 : left / right;
                case LESS:
                    return left < right ? 1 : 0;
                case MORE:
                    return left > right ? 1 : 0;
                default:
                    return left == right ? 1 : 0;
            }
        }

        private long bounded(long number) {
            broken = broken || number > BOUND || number < -BOUND;
            return broken ? 0 : number;
        }

        private long top() {
            return height > 0 ? stack[height - 1] : 0;
        }

        private void push(long number) {
            if (height < MOST_STACK) {
                stack[height] = number;
                height++;
            }
        }

        private long pop() {
            if (height <= 0) {
                return 0;
            }
            height--;
            return stack[height];
        }
    }

    /** The steps from each house in their order, found when they are first asked for. */
    private static final class Streets {
        /** Twenty-one exchanges of two of seven places, and a turn. */
        private static final int WIDTH = 22;
        private static final int TO_BITS = 11;
        private static final int TO_MASK = 2047;
        private static final int PAIRS = 21;
        private static final int UNKNOWN = -1;

        private final State state;
        private final Houses city;
        private final Judge judge = new Judge();
        private final int[] noLaw = new int[0];
        private final int[] degrees = new int[MOST_HOUSES];
        private int[] steps = new int[0];
        /** What the law says depends on two places and three colours alone, so it is asked once of each. */
        private final int[] verdicts = new int[PAIRS * COLOURS * COLOURS * COLOURS];
        private int version = 0;
        private boolean stepsStale = true;
        private boolean verdictsStale = true;

        Streets(State state, Houses city) {
            this.state = state;
            this.city = city;
        }

        void changeWalls() {
            version++;
            stepsStale = true;
        }

        void changeAll() {
            changeWalls();
            verdictsStale = true;
        }

        /** Another number behind every change of the steps. */
        int version() {
            return version;
        }

        /** Must be called ahead of walking: changes alone do no work, as many may come in a row. */
        void prepare() {
            if (verdictsStale) {
                judgeAll();
                verdictsStale = false;
            }
            if (stepsStale) {
                int all = city.many();
                steps = grown(steps, all * WIDTH);
                Arrays.fill(degrees, 0, all, UNKNOWN);
                stepsStale = false;
            }
        }

        int degree(int house) {
            if (degrees[house] == UNKNOWN) {
                findSteps(house);
            }
            return degrees[house];
        }

        int to(int house, int i) {
            return steps[house * WIDTH + i] & TO_MASK;
        }

        int takes(int house, int i) {
            return steps[house * WIDTH + i] >> TO_BITS;
        }

        private void judgeAll() {
            judge.setTimes(city.places(), state.terms[1]);
            int pair = 0;
            for (int left = 0; left < city.places(); left++) {
                for (int right = left + 1; right < city.places(); right++) {
                    judge.setPlaces(left, right);
                    judgePair(pair, state.lawful() ? state.laws[state.force] : noLaw);
                    pair++;
                }
            }
        }

        private void judgePair(int pair, int[] law) {
            for (int one = 0; one < COLOURS; one++) {
                for (int other = 0; other < COLOURS; other++) {
                    for (int first = 0; first < COLOURS; first++) {
                        boolean there = state.beans[one] > 0 && state.beans[other] > 0
                                && state.beans[first] > 0;
                        if (there && one != other) {
                            judge.setColours(one, other, first);
                            verdicts[verdictPlace(pair, one, other, first)] = judge.verdict(law);
                        }
                    }
                }
            }
        }

        private static int verdictPlace(int pair, int one, int other, int first) {
            return ((pair * COLOURS + one) * COLOURS + other) * COLOURS + first;
        }

        private void findSteps(int house) {
            degrees[house] = 0;
            int places = city.places();
            int row = city.rowOf(house);
            int first = Houses.colourAt(row, city.shiftOf(0));
            int pair = 0;
            for (int left = 0; left < places; left++) {
                int leftShift = city.shiftOf(left);
                int one = Houses.colourAt(row, leftShift);
                for (int right = left + 1; right < places; right++) {
                    int rightShift = city.shiftOf(right);
                    int other = Houses.colourAt(row, rightShift);
                    int takes = one == other ? 0 : verdicts[verdictPlace(pair, one, other, first)];
                    if (takes > 0) {
                        add(house, city.find(Houses.exchanged(row, leftShift, rightShift)), takes);
                    }
                    pair++;
                }
            }
            int turned = city.turned(row);
            if (state.terms[0] == 1 && turned != row) {
                add(house, city.find(turned), 1);
            }
        }

        private void add(int house, int to, int takes) {
            if (to != NONE && state.wallBetween(house, to) == NONE && degrees[house] < WIDTH) {
                steps[house * WIDTH + degrees[house]] = to | (takes << TO_BITS);
                degrees[house]++;
            }
        }
    }

    /** How far it is from one house to all others; the latest such walks are kept for the next call. */
    private static final class Walks {
        private static final int MOST_ROW = 12;
        private static final int MOST_WAYS = 1000000000;
        private static final int MOST_TAKEN = 99;
        /** One bucket more than a step can take, so that a house goes to another bucket than its step's. */
        private static final int BUCKETS = 100;

        private final Houses city;
        private final Streets streets;
        private final int[] far = new int[MOST_HOUSES];
        private final int[] ways = new int[MOST_HOUSES];
        private final int[] order = new int[MOST_HOUSES];
        private int reached = 0;
        private int source = NONE;
        private int version = NONE;

        private final int[] least = new int[MOST_HOUSES];
        private final int[] heads = new int[BUCKETS];
        private final int[] nexts = new int[MOST_HOUSES];
        private final int[] befores = new int[MOST_HOUSES];
        private int waiting = 0;
        private int leastSource = NONE;
        private int leastVersion = NONE;

        private long[] rowsNow = new long[MOST_HOUSES];
        private long[] rowsNext = new long[MOST_HOUSES];

        Walks(Houses city, Streets streets) {
            this.city = city;
            this.streets = streets;
        }

        int farTo(int from, int to) {
            walkFrom(from);
            return far[to];
        }

        int waysTo(int from, int to) {
            walkFrom(from);
            return far[to] == NONE ? 0 : ways[to];
        }

        int leastTo(int from, int to) {
            weighFrom(from);
            return least[to];
        }

        int reachOf(int house, int what) {
            walkFrom(house);
            int farthest = far[order[reached - 1]];
            int many = 0;
            int lowest = MOST_HOUSES;
            for (int i = reached - 1; i >= 0 && far[order[i]] == farthest; i--) {
                many++;
                lowest = Math.min(lowest, order[i]);
            }
            switch (what) {
                case 0:
                    return reached;
                case 1:
                    return farthest;
                case 2:
                    return many;
                case 3:
                    return lowest;
                default:
                    return NONE;
            }
        }

        int onWay(int from, int to, int i) {
            walkFrom(from);
            if (i < 0 || i > far[to]) {
                return NONE;
            }
            pointTo(to);
            int at = from;
            for (int k = 0; k < i && at != NONE; k++) {
                at = nexts[at];
            }
            return at;
        }

        /** Points each house that lies on a row of fewest steps to the lowest next one of such a row. */
        private void pointTo(int to) {
            Arrays.fill(nexts, 0, city.many(), NONE);
            for (int i = reached - 1; i >= 0; i--) {
                int house = order[i];
                int many = streets.degree(house);
                for (int k = 0; k < many && far[house] < far[to]; k++) {
                    int next = streets.to(house, k);
                    boolean leads = next == to || nexts[next] != NONE;
                    if (leads && far[next] == far[house] + 1
                            && (nexts[house] == NONE || next < nexts[house])) {
                        nexts[house] = next;
                    }
                }
            }
        }

        void walkFrom(int house) {
            if (source == house && version == streets.version()) {
                return;
            }
            source = house;
            version = streets.version();
            Arrays.fill(far, 0, city.many(), NONE);
            far[house] = 0;
            ways[house] = 1;
            order[0] = house;
            reached = 1;
            for (int i = 0; i < reached && i < MOST_HOUSES; i++) {
                leave(order[i]);
            }
        }

        private void leave(int house) {
            int many = streets.degree(house);
            int steps = far[house] + 1;
            for (int i = 0; i < many; i++) {
                int to = streets.to(house, i);
                if (far[to] == NONE) {
                    far[to] = steps;
                    ways[to] = 0;
                    order[reached] = to;
                    reached++;
                }
                if (far[to] == steps) {
                    ways[to] = Math.min(MOST_WAYS, ways[to] + ways[house]);
                }
            }
        }

        private void weighFrom(int house) {
            if (leastSource == house && leastVersion == streets.version()) {
                return;
            }
            leastSource = house;
            leastVersion = streets.version();
            Arrays.fill(least, 0, city.many(), NONE);
            Arrays.fill(heads, NONE);
            waiting = 0;
            enter(house, 0);
            int bound = MOST_TAKEN * MOST_HOUSES;
            for (int taken = 0; taken <= bound && waiting > 0; taken++) {
                int bucket = taken % BUCKETS;
                for (int i = 0; i < MOST_HOUSES && heads[bucket] != NONE; i++) {
                    int next = heads[bucket];
                    remove(next);
                    weighSteps(next);
                }
            }
        }

        private void weighSteps(int house) {
            int many = streets.degree(house);
            for (int i = 0; i < many; i++) {
                int to = streets.to(house, i);
                int taken = least[house] + streets.takes(house, i);
                if (least[to] == NONE) {
                    enter(to, taken);
                } else if (taken < least[to]) {
                    // What is lessened still waits: a house that left its bucket has its least.
                    remove(to);
                    enter(to, taken);
                }
            }
        }

        private void enter(int house, int taken) {
            int bucket = taken % BUCKETS;
            least[house] = taken;
            befores[house] = NONE;
            nexts[house] = heads[bucket];
            if (heads[bucket] != NONE) {
                befores[heads[bucket]] = house;
            }
            heads[bucket] = house;
            waiting++;
        }

        private void remove(int house) {
            if (befores[house] == NONE) {
                heads[least[house] % BUCKETS] = nexts[house];
            } else {
                nexts[befores[house]] = nexts[house];
            }
            if (nexts[house] != NONE) {
                befores[nexts[house]] = befores[house];
            }
            waiting--;
        }

        /** To NONE: to any house. */
        long rowsTo(int from, int to, int n) {
            int all = city.many();
            Arrays.fill(rowsNow, 0, all, 0L);
            rowsNow[from] = 1;
            for (int i = 0; i < n; i++) {
                lengthenRows(all);
            }
            if (to != NONE) {
                return rowsNow[to];
            }
            long sum = 0;
            for (int house = 0; house < all; house++) {
                sum += rowsNow[house];
            }
            return sum;
        }

        private void lengthenRows(int all) {
            Arrays.fill(rowsNext, 0, all, 0L);
            for (int house = 0; house < all; house++) {
                int many = rowsNow[house] == 0 ? 0 : streets.degree(house);
                for (int i = 0; i < many; i++) {
                    rowsNext[streets.to(house, i)] += rowsNow[house];
                }
            }
            long[] before = rowsNow;
            rowsNow = rowsNext;
            rowsNext = before;
        }
    }

    /**
     * The fewest walls that part two houses: as many as there are ways without a common step
     * between the same two houses. A wall shuts both directions, but of two houses that it parts
     * only one is still reached, so each direction may be counted on its own.
     */
    private static final class Parting {
        private static final int WIDTH = Streets.WIDTH;
        private static final int FREE = 0;
        private static final int USED = 1;
        /** A turn to a house to which an exchange leads as well: one wall shuts both. */
        private static final int DOUBLE = 2;

        private final Houses city;
        private final Streets streets;
        private int[] uses = new int[0];
        /** The steps that lead to a house stand together, from its place in intoStarts on. */
        private int[] into = new int[0];
        private final int[] intoStarts = new int[MOST_HOUSES + 1];
        private final int[] by = new int[MOST_HOUSES];
        private final int[] order = new int[MOST_HOUSES];
        private int seen = 0;

        Parting(Houses city, Streets streets) {
            this.city = city;
            this.streets = streets;
        }

        int fewest(int from, int to) {
            prepare();
            int found = 0;
            for (int i = 0; i <= WIDTH && search(from, to); i++) {
                useWay(from, to);
                found++;
            }
            return found;
        }

        private void prepare() {
            int all = city.many();
            uses = grown(uses, all * WIDTH);
            into = grown(into, all * WIDTH);
            Arrays.fill(intoStarts, 0);
            for (int house = 0; house < all; house++) {
                int many = streets.degree(house);
                for (int i = 0; i < many; i++) {
                    intoStarts[streets.to(house, i)]++;
                    uses[house * WIDTH + i] = isDouble(house, i) ? DOUBLE : FREE;
                }
            }
            for (int house = 1; house <= all; house++) {
                intoStarts[house] += intoStarts[house - 1];
            }
            for (int house = 0; house < all; house++) {
                int many = streets.degree(house);
                for (int i = 0; i < many; i++) {
                    int to = streets.to(house, i);
                    intoStarts[to]--;
                    into[intoStarts[to]] = house * WIDTH + i;
                }
            }
        }

        private boolean isDouble(int house, int i) {
            int to = streets.to(house, i);
            for (int k = 0; k < i; k++) {
                if (streets.to(house, k) == to) {
                    return true;
                }
            }
            return false;
        }

        /** Looks for a way that takes free steps, or gives used ones back. */
        private boolean search(int from, int to) {
            Arrays.fill(by, NONE);
            by[from] = 0;
            order[0] = from;
            seen = 1;
            for (int i = 0; i < seen && i < MOST_HOUSES && by[to] == NONE; i++) {
                int house = order[i];
                int many = streets.degree(house);
                for (int k = 0; k < many; k++) {
                    if (uses[house * WIDTH + k] == FREE) {
                        visit(streets.to(house, k), house * WIDTH + k);
                    }
                }
                for (int k = intoStarts[house]; k < intoStarts[house + 1]; k++) {
                    if (uses[into[k]] == USED) {
                        visit(into[k] / WIDTH, into[k]);
                    }
                }
            }
            return by[to] != NONE;
        }

        private void visit(int house, int step) {
            if (by[house] == NONE) {
                by[house] = step;
                order[seen] = house;
                seen++;
            }
        }

        private void useWay(int from, int to) {
            int at = to;
            for (int i = 0; i < MOST_HOUSES && at != from; i++) {
                int step = by[at];
                int start = step / WIDTH;
                if (start == at) {
                    uses[step] = FREE;
                    at = streets.to(start, step % WIDTH);
                } else {
                    uses[step] = USED;
                    at = start;
                }
            }
        }
    }

    /** The first round through all houses, found by which ends can still go on from each set of houses. */
    private static final class Rounds {
        private static final int MOST = 14;

        private final Houses city;
        private final Streets streets;
        private final int[] nexts = new int[MOST];
        private final int[] round = new int[MOST];
        /** By set of visited houses, as bits: those at which one may stand and still make a round. */
        private int[] ends = new int[0];
        private boolean found = false;
        private int version = NONE;

        Rounds(Houses city, Streets streets) {
            this.city = city;
            this.streets = streets;
        }

        int at(int i) {
            return i >= 0 && i < city.many() && i < MOST ? round[i] : NONE;
        }

        boolean exists() {
            if (version != streets.version()) {
                version = streets.version();
                int all = city.many();
                found = false;
                if (all > 1 && all <= MOST) {
                    gatherNexts(all);
                    gatherEnds(all);
                    found = (ends[1] & 1) != 0;
                }
                if (found) {
                    goRound(all);
                }
            }
            return found;
        }

        private void gatherNexts(int all) {
            for (int house = 0; house < all; house++) {
                nexts[house] = 0;
                int many = streets.degree(house);
                for (int i = 0; i < many; i++) {
                    nexts[house] |= 1 << streets.to(house, i);
                }
            }
        }

        private void gatherEnds(int all) {
            int full = (1 << all) - 1;
            ends = grown(ends, full + 1);
            for (int set = full; set > 0; set--) {
                ends[set] = 0;
                for (int house = 0; house < all; house++) {
                    boolean in = (set >> house & 1) != 0;
                    if (in && (set == full ? (nexts[house] & 1) != 0 : goesOn(set, house, all) != NONE)) {
                        ends[set] |= 1 << house;
                    }
                }
            }
        }

        /** The lowest house that is not in the set, next to the told one, from which a round can be ended. */
        private int goesOn(int set, int house, int all) {
            int open = nexts[house] & ~set;
            for (int next = 0; next < all; next++) {
                if ((open >> next & 1) != 0 && (ends[set | 1 << next] >> next & 1) != 0) {
                    return next;
                }
            }
            return NONE;
        }

        private void goRound(int all) {
            int set = 1;
            int at = 0;
            round[0] = 0;
            for (int i = 1; i < all; i++) {
                at = Math.max(0, goesOn(set, at, all));
                set |= 1 << at;
                round[i] = at;
            }
        }
    }

    /** The row of swap-ifs. */
    private static final class Machine {
        private final State state;
        private final Houses city;
        private final int[] leftShifts = new int[MOST_SWAPS];
        private final int[] rightShifts = new int[MOST_SWAPS];

        Machine(State state, Houses city) {
            this.state = state;
            this.city = city;
        }

        /** Must be called ahead of running: the places' shifts are the same for all houses. */
        void prepare() {
            for (int i = 0; i < state.swapCount; i++) {
                leftShifts[i] = city.shiftOf(state.swapLefts[i]);
                rightShifts[i] = city.shiftOf(state.swapRights[i]);
            }
        }

        int result(int house) {
            return city.find(run(city.rowOf(house), state.swapCount, NONE));
        }

        int sortedAll() {
            return tally(state.swapCount, NONE);
        }

        int firstUnsorted() {
            int home = city.rowOf(0);
            for (int house = 0; house < city.many(); house++) {
                if (run(city.rowOf(house), state.swapCount, NONE) != home) {
                    return house;
                }
            }
            return NONE;
        }

        int needless() {
            int all = sortedAll();
            int bits = 0;
            for (int i = 0; i < state.swapCount; i++) {
                if (tally(state.swapCount, i) >= all) {
                    bits |= 1 << i;
                }
            }
            return bits;
        }

        int fewestFirst() {
            int all = sortedAll();
            int first = 0;
            while (first < state.swapCount && tally(first, NONE) < all) {
                first++;
            }
            return first;
        }

        /** How many houses its first swap-ifs sort, without the one that is left out. */
        private int tally(int first, int leftOut) {
            int home = city.rowOf(0);
            int sorted = 0;
            for (int house = 0; house < city.many(); house++) {
                if (run(city.rowOf(house), first, leftOut) == home) {
                    sorted++;
                }
            }
            return sorted;
        }

        private int run(int row, int first, int leftOut) {
            int at = row;
            for (int i = 0; i < first && i < state.swapCount; i++) {
                int left = leftShifts[i];
                int right = rightShifts[i];
                if (i != leftOut && Houses.colourAt(at, left) > Houses.colourAt(at, right)) {
                    at = Houses.exchanged(at, left, right);
                }
            }
            return at;
        }
    }

    /** Which houses fit all clues, and whom to ask next. */
    private static final class Riddle {
        private final State state;
        private final Houses city;
        private final Streets streets;
        private final Walks walks;
        private final boolean[] fit = new boolean[MOST_HOUSES];
        private final int[] fitting = new int[MOST_HOUSES];
        private int many = 0;
        private int fitVersion = NONE;

        /** The latest house by which each was reached, so that nothing need be cleared for the next. */
        private final int[] seenBy = new int[MOST_HOUSES];
        private final int[] order = new int[MOST_HOUSES];
        private int best = NONE;
        private int worst = NONE;
        private int askVersion = NONE;

        Riddle(State state, Houses city, Streets streets, Walks walks) {
            this.state = state;
            this.city = city;
            this.streets = streets;
            this.walks = walks;
        }

        void change() {
            fitVersion = NONE;
            askVersion = NONE;
        }

        int many() {
            return many;
        }

        int at(int i) {
            return i >= 0 && i < many ? fitting[i] : NONE;
        }

        int best() {
            return best;
        }

        int worst() {
            return worst;
        }

        void refit() {
            if (fitVersion == streets.version()) {
                return;
            }
            fitVersion = streets.version();
            int all = city.many();
            for (int house = 0; house < all; house++) {
                fit[house] = true;
            }
            for (int i = 0; i < state.clueCount; i++) {
                walks.walkFrom(state.clueHouses[i]);
                for (int house = 0; house < all; house++) {
                    fit[house] = fit[house] && walks.far[house] == state.clueSteps[i];
                }
            }
            many = 0;
            for (int house = 0; house < all; house++) {
                if (fit[house]) {
                    fitting[many] = house;
                    many++;
                }
            }
        }

        void choose() {
            if (askVersion == streets.version()) {
                return;
            }
            askVersion = streets.version();
            int all = city.many();
            Arrays.fill(seenBy, 0, all, NONE);
            best = 0;
            worst = many + 1;
            for (int house = 0; house < all && worst > 1; house++) {
                int left = leftBy(house, worst);
                if (left < worst) {
                    best = house;
                    worst = left;
                }
            }
        }

        /** The most of the fitting that are alike far from a house; the limit, if it is no less. */
        private int leftBy(int house, int limit) {
            seenBy[house] = house;
            order[0] = house;
            int levelEnd = 1;
            int tail = 1;
            int alike = fit[house] ? 1 : 0;
            int most = alike;
            int others = many - alike;
            alike = 0;
            for (int i = 0; i < tail && i < MOST_HOUSES && others > most; i++) {
                int steps = streets.degree(order[i]);
                for (int k = 0; k < steps; k++) {
                    int to = streets.to(order[i], k);
                    if (seenBy[to] != house) {
                        seenBy[to] = house;
                        order[tail] = to;
                        tail++;
                        alike += fit[to] ? 1 : 0;
                    }
                }
                if (alike >= limit) {
                    return limit;
                }
                if (i + 1 == levelEnd) {
                    levelEnd = tail;
                    most = Math.max(most, alike);
                    others -= alike;
                    alike = 0;
                }
            }
            return Math.min(limit, Math.max(most, others));
        }
    }

    /** Two who go at once. */
    private static final class Postmen {
        private static final int MOST = 40;

        private final Houses city;
        private final Streets streets;
        private int[] minutes = new int[0];
        private int[] order = new int[0];
        private int tail = 0;

        Postmen(Houses city, Streets streets) {
            this.city = city;
            this.streets = streets;
        }

        int fewest(int one, int oneTo, int other, int otherTo) {
            int all = city.many();
            int pairs = all * all;
            minutes = grown(minutes, pairs);
            order = grown(order, pairs);
            Arrays.fill(minutes, 0, pairs, NONE);
            int goal = oneTo * all + otherTo;
            tail = 0;
            enter(one * all + other, 0);
            for (int i = 0; i < tail && i < pairs && minutes[goal] == NONE; i++) {
                move(order[i], all);
            }
            return minutes[goal];
        }

        private void move(int pair, int all) {
            if (all <= 0) {
                return;
            }
            int one = pair / all;
            int other = pair % all;
            int oneSteps = streets.degree(one);
            int otherSteps = streets.degree(other);
            for (int i = NONE; i < oneSteps; i++) {
                int oneNext = i == NONE ? one : streets.to(one, i);
                for (int k = NONE; k < otherSteps; k++) {
                    int otherNext = k == NONE ? other : streets.to(other, k);
                    boolean past = oneNext == other && otherNext == one;
                    if (oneNext != otherNext && !past) {
                        enter(oneNext * all + otherNext, minutes[pair] + 1);
                    }
                }
            }
        }

        private void enter(int pair, int when) {
            if (minutes[pair] == NONE) {
                minutes[pair] = when;
                order[tail] = pair;
                tail++;
            }
        }
    }
}
