/**
 * A bridge that fell: its spans, piers and castings, what they bear at a gust, the texts of the board,
 * the months and the night, and what was found, heard, counted and tested afterwards.
 *
 * Every row is made in the constructor and used again, so that no call makes an object.
 */
public final class GaleBridge {
    public static final int BAD = -1000000001, NO = -1000000002, FULL = -1000000003, NONE = -1000000005,
            NOTHING = -1000000011, KIND = -1000000012, INDEX = -1000000013, SIZE = -1000000014;

    private static final int MOST_SPANS = 12, MOST_PARTS = 40, MOST_TEXTS = 12, MOST_WORDS = 30;
    private static final int MOST_STATIONS = 8, MOST_TIMES = 16, MOST_STRAPS = 8, MOST_WAITING = 60;
    private static final int TAPE_BYTES = 96, FED_BYTES = 12;
    private static final int TOP_GUST = 99, TOP_LEVEL = 99, TOP_TRAINS = 999, TOP_DAY = 9999, LAST_MONTH = 599;
    private static final int SECONDS = 60, STORIES = 8, BREAKS = 6, OFFICES = 8, MATTERS = 10;
    private static final int TESTS = 6, TEST_PLACES = 24, TOP_QUARTERS = 100000;

    private static final int ANY_PART = 0, COLUMN = 1, TIE = 2, LUG = 3, PIECE = 4;
    private static final int WIND = 0, SPEED = 1, MEND = 2, TELL = 3, KEYS = 4;
    private static final int MISSING = -1, FLOATS = 0, SHORTS = 1;

    private final Scene now = new Scene();
    private final Bridge bridge = now.bridge;
    private final Scene image = new Scene();
    private final Bridge trial = new Bridge();
    private final Tape tape = new Tape();
    private final TestRows rows = new TestRows();
    private final int[] waiting = new int[MOST_WAITING];
    private int waits = 0;
    private boolean hasImage = false;

    public GaleBridge() {
    }

    // ---- the bridge

    public int spans(int n) {
        if (!within(n, 2, MOST_SPANS)) {
            return BAD;
        }
        if (bridge.partCount > 0) {
            return NO;
        }
        int was = bridge.spanCount;
        bridge.layOut(n);
        return was;
    }

    public int span(int span, int what, int v) {
        if (!(span == -1 || isSpan(span)) || !within(what, 0, 1) || !within(v, 0, 99)) {
            return BAD;
        }
        return span == -1 ? bridge.changeTrain(what, v) : bridge.changeSpan(span, what, v);
    }

    public int has(int span, int what) {
        if (!isSpan(span)) {
            return BAD;
        }
        switch (what) {
            case 0:
                return bridge.weight[span];
            case 1:
                return bridge.sail[span];
            case 2:
                return bit(bridge.down[span]);
            case 3:
                return bit(bridge.trainSpan == span);
            default:
                return BAD;
        }
    }

    public int train(int span) {
        if (span == NONE) {
            return bridge.placeTrain(NONE);
        }
        if (!isSpan(span)) {
            return BAD;
        }
        return bridge.down[span] ? NO : bridge.placeTrain(span);
    }

    public int part(int kind, int pier, int strength, int share, int hand) {
        if (!within(kind, ANY_PART, LUG) || !isPier(pier) || !within(strength, 1, 999)) {
            return BAD;
        }
        if (!within(share, 1, 9) || !within(hand, 0, 5)) {
            return BAD;
        }
        if (bridge.partCount >= MOST_PARTS) {
            return FULL;
        }
        Part added = bridge.parts[bridge.partCount];
        added.cast(kind, pier, strength, share);
        added.sign(hand, now.month);
        return bridge.partCount++;
    }

    public int piece(int pier, int broken, int side) {
        if (!isPier(pier) || !within(broken, 0, BREAKS - 1) || !within(side, 0, 1)) {
            return BAD;
        }
        if (bridge.partCount >= MOST_PARTS) {
            return FULL;
        }
        Part added = bridge.parts[bridge.partCount];
        added.cast(PIECE, pier, 1, 1);
        added.sign(0, now.month);
        added.broken = broken;
        added.side = side;
        return bridge.partCount++;
    }

    public int told(int part, int what) {
        return isPart(part) ? bridge.parts[part].asTold(what) : BAD;
    }

    public int as(int part, int kind) {
        if (!isPart(part) || !within(kind, ANY_PART, PIECE)) {
            return BAD;
        }
        Part asked = bridge.parts[part];
        return asked.isOf(kind) ? asked.strength : KIND;
    }

    public int be(int part, int what, int v) {
        if (!isPart(part) || !within(what, 4, 5) || !within(v, 0, TOP_LEVEL)) {
            return BAD;
        }
        Part changed = bridge.parts[part];
        if (changed.kind == PIECE) {
            return KIND;
        }
        int was = changed.asTold(what);
        if (what == 4) {
            changed.flaw = v;
        } else {
            changed.slack = v;
        }
        return was;
    }

    public int raise() {
        int gone = bridge.goneCount();
        bridge.standUp();
        return gone;
    }

    public int pull(int pier, int gust) {
        return isPier(pier) && isGust(gust) ? bridge.pullAt(pier, gust) : BAD;
    }

    public int load(int part, int gust) {
        if (!isPart(part) || !isGust(gust)) {
            return BAD;
        }
        return bridge.parts[part].stands ? bridge.loadOn(bridge.parts[part], gust) : NO;
    }

    public int bears(int part) {
        return isPart(part) ? bridge.parts[part].bearing(bridge.parts[part].slack) : BAD;
    }

    public int first(int gust) {
        return isGust(gust) ? bridge.worstOver(gust) : BAD;
    }

    public int fall(int gust) {
        return isGust(gust) ? bridge.collapse(gust) : BAD;
    }

    public int next(int gust, int i) {
        if (!isGust(gust) || i < 0) {
            return BAD;
        }
        trial.become(bridge);
        return trial.goingAs(i, gust);
    }

    public int safe() {
        return bridge.safeGust();
    }

    // ---- texts

    public int feed(int a, int b, int c) {
        if (tape.size > TAPE_BYTES - FED_BYTES) {
            return FULL;
        }
        tape.addBytes(a);
        tape.addBytes(b);
        tape.addBytes(c);
        return tape.size;
    }

    public int trim(int n) {
        if (!within(n, 0, tape.size)) {
            return BAD;
        }
        tape.size = n;
        return n;
    }

    public int text(int month) {
        if (!isMonth(month)) {
            tape.size = 0;
            return BAD;
        }
        int fault = tape.parse();
        tape.size = 0;
        if (fault != NONE) {
            return -100 - fault;
        }
        return now.texts.count < MOST_TEXTS ? now.texts.add(tape, month) : FULL;
    }

    public int of(int text, int what) {
        if (!within(text, 0, now.texts.count - 1)) {
            return BAD;
        }
        switch (what) {
            case 0:
                return now.texts.key[text];
            case 1:
                return now.texts.since[text];
            case 2:
                return now.texts.leaves[text];
            default:
                return BAD;
        }
    }

    public int why(int key) {
        return isKey(key) ? now.texts.counting(key, now.month) : BAD;
    }

    public int rules(int key, int a, int b, int c) {
        return isKey(key) ? now.ruleOf(key, a, b, c) : BAD;
    }

    // ---- months, the night

    public int months(int n, int trains) {
        if (!within(n, 1, 60) || !isTrains(trains)) {
            return BAD;
        }
        if (now.month + n > LAST_MONTH) {
            return FULL;
        }
        for (int i = 0; i < n; i++) {
            now.passMonth(trains);
        }
        return now.month;
    }

    public int shake(int v) {
        if (!within(v, 0, 99)) {
            return BAD;
        }
        int was = now.shaking;
        now.shaking = v;
        return was;
    }

    public int trust(int part, int trains) {
        if (!isPart(part) || !isTrains(trains)) {
            return BAD;
        }
        Part asked = bridge.parts[part];
        return asked.isOf(TIE) ? now.monthOfDistrust(asked.slack, trains) : KIND;
    }

    public int gust(int second, int v) {
        if (!isSecond(second) || !isGust(v)) {
            return BAD;
        }
        int was = now.gale.gusts[second];
        now.gale.gusts[second] = v;
        return was;
    }

    public int runs(int second, int speed) {
        if (!(second == NONE || isSecond(second)) || !within(speed, 1, 20)) {
            return BAD;
        }
        now.gale.comes = second;
        now.gale.pace = speed;
        return 1;
    }

    public int night(int n) {
        if (!isSecond(n)) {
            return BAD;
        }
        bridge.placeTrain(NONE);
        for (int s = 0; s <= n; s++) {
            now.gale.passSecond(bridge, s);
        }
        return bridge.goneCount();
    }

    public int judged(int pier) {
        if (!isPier(pier)) {
            return BAD;
        }
        int rule = now.ruleOf(WIND, pier, now.month, 0);
        return bit(bridge.isAnyOver(pier, Math.max(0, Math.min(TOP_GUST, rule))));
    }

    public int fast(int speed, int gust) {
        if (!within(speed, 0, 999) || !isGust(gust)) {
            return BAD;
        }
        return bit(speed > now.ruleOf(SPEED, bridge.trainWeight, gust, 0));
    }

    // ---- stories, flaws, words

    public int story(int story, int side, int set) {
        if (!within(story, 0, STORIES - 1) || !within(side, 0, 1) || !within(set, 0, 63)) {
            return BAD;
        }
        int was = now.stories.lets[story][side];
        now.stories.lets[story][side] = set;
        return was;
    }

    public int find(int part, int on) {
        if (!isPart(part) || !within(on, 0, 1)) {
            return BAD;
        }
        Part piece = bridge.parts[part];
        if (piece.kind != PIECE) {
            return KIND;
        }
        int was = bit(piece.found);
        piece.found = on == 1;
        return was;
    }

    public int fits() {
        return now.stories.fitting(bridge);
    }

    public int best() {
        return now.stories.pieceToRaise(bridge);
    }

    public int doubt(int part) {
        if (!isPart(part)) {
            return BAD;
        }
        Part asked = bridge.parts[part];
        return asked.kind == PIECE ? KIND : bridge.doubtOf(asked);
    }

    public int flawed(int what) {
        return within(what, 0, 1) ? bridge.doubtedFrom(what == 0 ? 2 : 1) : BAD;
    }

    public int word(int day, int one, int other, int matter) {
        if (!isDay(day) || !isOffice(one) || !isOffice(other) || one == other || !isMatter(matter)) {
            return BAD;
        }
        return now.words.count < MOST_WORDS ? now.words.add(day, one, other, matter) : FULL;
    }

    public int saw(int office, int matter, int day) {
        if (!isOffice(office) || !isMatter(matter) || !isDay(day)) {
            return BAD;
        }
        int first = Math.min(day, now.words.sawOn[office][matter]);
        now.words.sawOn[office][matter] = first;
        return first;
    }

    public int knew(int office, int matter, int day) {
        if (!isOffice(office) || !isMatter(matter) || !isDay(day)) {
            return BAD;
        }
        return now.words.knowing(matter, day) >> office & 1;
    }

    public int blind(int matter) {
        return isMatter(matter) ? now.words.blindOf(matter) : BAD;
    }

    public int must(int matter, int day) {
        return isMatter(matter) && isDay(day) ? now.boundToTell(matter, day) : BAD;
    }

    // ---- tickets, times

    public int station(int taken, int seasons, int children) {
        if (!within(taken, 0, 999) || !within(seasons, 0, 999) || !within(children, 0, 999)) {
            return BAD;
        }
        if (now.papers.stationCount >= MOST_STATIONS) {
            return FULL;
        }
        now.papers.taken += taken;
        now.papers.ticketless += seasons + children;
        return now.papers.stationCount++;
    }

    public int aboard(int what) {
        if (!within(what, 0, 1)) {
            return BAD;
        }
        return what == 0 ? now.papers.taken : now.papers.taken + now.papers.ticketless;
    }

    public int time(int a, int second, int b, int later) {
        if (!within(a, 0, 999) || !within(b, a, 999)) {
            return BAD;
        }
        if (!within(second, 0, 99999) || !within(later, 0, 99999) || later <= second) {
            return BAD;
        }
        if (now.papers.timeCount >= MOST_TIMES) {
            return FULL;
        }
        now.papers.speeds[now.papers.timeCount] = 3600 * (b - a) / (later - second);
        return now.papers.timeCount++;
    }

    public int speed(int time) {
        return within(time, 0, now.papers.timeCount - 1) ? now.papers.speeds[time] : BAD;
    }

    public int races(int v) {
        return v < 0 ? BAD : now.papers.fasterThan(v);
    }

    // ---- tests, straps

    public int test(int test, int sort, int n) {
        if (!isTest(test) || !within(sort, MISSING, SHORTS)) {
            return BAD;
        }
        if (sort == MISSING) {
            return rows.begin(test, MISSING, 0);
        }
        if (n > TEST_PLACES) {
            return BAD;
        }
        return n < 0 ? SIZE : rows.begin(test, sort, n);
    }

    public int put(int test, int place, int v) {
        int refusal = refusalOf(test, place);
        return refusal == 0 ? rows.set(test, place, v) : refusal;
    }

    public int read(int test, int place) {
        int refusal = refusalOf(test, place);
        return refusal == 0 ? rows.get(test, place) : refusal;
    }

    public int copy(int from, int place, int to, int at, int many) {
        if (!isTest(from) || !isTest(to)) {
            return BAD;
        }
        if (rows.sorts[from] == MISSING || rows.sorts[to] == MISSING) {
            return NOTHING;
        }
        if (rows.sorts[from] != rows.sorts[to]) {
            return KIND;
        }
        if (!rows.holds(from, place, many) || !rows.holds(to, at, many)) {
            return INDEX;
        }
        System.arraycopy(rows.values[from], place, rows.values[to], at, many);
        return many;
    }

    public int strap(int part) {
        if (!isPart(part)) {
            return BAD;
        }
        if (!bridge.parts[part].isOf(TIE)) {
            return KIND;
        }
        if (now.strapping.isMember(part)) {
            return NO;
        }
        return now.strapping.count < MOST_STRAPS ? now.strapping.add(part) : FULL;
    }

    public int straps(int k, int what) {
        if (!within(k, 0, MOST_STRAPS) || !within(what, 0, 1)) {
            return BAD;
        }
        now.strapping.weigh(bridge);
        int set = now.strapping.bestOf(k);
        return what == 0 ? now.strapping.safeBy(set) : set;
    }

    // ---- rows, images

    public int tell(int v) {
        if (waits >= MOST_WAITING) {
            return FULL;
        }
        waiting[waits] = v;
        waits++;
        return waits;
    }

    public int check(int n) {
        int told = waits;
        waits = 0;
        if (!within(n, 1, MOST_WAITING / 2)) {
            return BAD;
        }
        return hasImage ? firstUntrue(n, told) : NO;
    }

    public int keep() {
        image.become(now);
        hasImage = true;
        return now.month;
    }

    public int back() {
        if (!hasImage) {
            return NO;
        }
        now.become(image);
        return now.month;
    }

    public int count(int what) {
        switch (what) {
            case 0:
                return bridge.spanCount;
            case 1:
                return bridge.downCount();
            case 2:
                return bridge.partCount;
            case 3:
                return bridge.goneCount();
            case 4:
                return bridge.pieceCount(false);
            case 5:
                return bridge.pieceCount(true);
            case 6:
                return now.texts.count;
            case 7:
                return now.words.count;
            case 8:
                return now.papers.stationCount;
            case 9:
                return now.papers.timeCount;
            case 10:
                return now.strapping.count;
            case 11:
                return waits;
            case 12:
                return tape.size;
            case 13:
                return now.month;
            case 14:
                return bridge.trainSpan;
            case 15:
                return bit(bridge.trainDown);
            default:
                return BAD;
        }
    }

    // ---- what the calls above ask

    private static boolean within(int v, int low, int high) {
        return v >= low && v <= high;
    }

    private static int bit(boolean b) {
        return b ? 1 : 0;
    }

    private boolean isSpan(int span) {
        return within(span, 0, bridge.spanCount - 1);
    }

    private boolean isPier(int pier) {
        return within(pier, 0, bridge.spanCount);
    }

    private boolean isPart(int part) {
        return within(part, 0, bridge.partCount - 1);
    }

    private static boolean isGust(int gust) {
        return within(gust, 0, TOP_GUST);
    }

    private static boolean isSecond(int second) {
        return within(second, 0, SECONDS - 1);
    }

    private static boolean isMonth(int month) {
        return within(month, 0, LAST_MONTH);
    }

    private static boolean isTrains(int trains) {
        return within(trains, 0, TOP_TRAINS);
    }

    private static boolean isKey(int key) {
        return within(key, 0, KEYS - 1);
    }

    private static boolean isDay(int day) {
        return within(day, 0, TOP_DAY);
    }

    private static boolean isOffice(int office) {
        return within(office, 0, OFFICES - 1);
    }

    private static boolean isMatter(int matter) {
        return within(matter, 0, MATTERS - 1);
    }

    private static boolean isTest(int test) {
        return within(test, 0, TESTS - 1);
    }

    private int refusalOf(int test, int place) {
        if (!isTest(test)) {
            return BAD;
        }
        if (rows.sorts[test] == MISSING) {
            return NOTHING;
        }
        return within(place, 0, rows.sizes[test] - 1) ? 0 : INDEX;
    }

    private int firstUntrue(int n, int told) {
        trial.become(image.bridge);
        trial.placeTrain(NONE);
        for (int s = 0; s < n; s++) {
            image.gale.passSecond(trial, s);
            if (!isTold(2 * s, told, trial.goneCount())) {
                return 1 + 2 * s;
            }
            if (!isTold(2 * s + 1, told, trial.downCount())) {
                return 2 + 2 * s;
            }
        }
        return told == 2 * n ? 0 : 1 + 2 * n;
    }

    private boolean isTold(int i, int told, int v) {
        return i < told && waiting[i] == v;
    }

    /** A part of whatever kind. */
    private static final class Part {
        private int kind, pier, strength, share, flaw, slack, hand, month, broken, side;
        private boolean stands, found;

        /** Takes over a place that an image may have left used: all fields are set anew. */
        private void cast(int asKind, int atPier, int withStrength, int withShare) {
            kind = asKind;
            pier = atPier;
            strength = withStrength;
            share = withShare;
            flaw = 0;
            slack = 0;
            broken = 0;
            side = 0;
            stands = asKind != PIECE;
            found = false;
        }

        private void sign(int byHand, int inMonth) {
            hand = byHand;
            month = inMonth;
        }

        private void become(Part other) {
            kind = other.kind;
            pier = other.pier;
            strength = other.strength;
            share = other.share;
            flaw = other.flaw;
            slack = other.slack;
            hand = other.hand;
            month = other.month;
            broken = other.broken;
            side = other.side;
            stands = other.stands;
            found = other.found;
        }

        private boolean isOf(int asked) {
            return asked == ANY_PART || asked == kind || asked == TIE && kind == LUG;
        }

        private boolean isGone() {
            return !stands && kind != PIECE;
        }

        private boolean isLike(Part other) {
            return kind != PIECE && month == other.month && hand == other.hand;
        }

        private int bearing(int slackThen) {
            switch (kind) {
                case COLUMN:
                    return strength * (100 - flaw) * 100;
                case TIE:
                    return strength * (100 - slackThen) * 100;
                case LUG:
                    return strength * (100 - slackThen) * (100 - flaw);
                default:
                    return strength * 10000;
            }
        }

        private int asTold(int what) {
            switch (what) {
                case 0:
                    return kind;
                case 1:
                    return pier;
                case 2:
                    return strength;
                case 3:
                    return share;
                case 4:
                    return flaw;
                case 5:
                    return slack;
                case 6:
                    return hand;
                case 7:
                    return month;
                case 8:
                    return bit(stands);
                case 9:
                    return broken;
                case 10:
                    return side;
                case 11:
                    return bit(found);
                default:
                    return BAD;
            }
        }
    }

    /** Spans, the train and parts. */
    private static final class Bridge {
        private final int[] weight = new int[MOST_SPANS];
        private final int[] sail = new int[MOST_SPANS];
        private final boolean[] down = new boolean[MOST_SPANS];
        private final Part[] parts = new Part[MOST_PARTS];
        /** Of each pier, as they were weighed last. */
        private final int[] sails = new int[MOST_SPANS + 1];
        private final int[] weights = new int[MOST_SPANS + 1];
        private final int[] shares = new int[MOST_SPANS + 1];
        private final int[] pulls = new int[MOST_SPANS + 1];
        private int spanCount = 0, partCount = 0;
        private int trainWeight = 0, trainSail = 0, trainSpan = NONE;
        private boolean trainDown = false;

        private Bridge() {
            for (int i = 0; i < MOST_PARTS; i++) {
                parts[i] = new Part();
            }
            layOut(4);
        }

        private void layOut(int n) {
            spanCount = n;
            for (int i = 0; i < MOST_SPANS; i++) {
                weight[i] = 10;
                sail[i] = 10;
                down[i] = false;
            }
            placeTrain(NONE);
        }

        private void become(Bridge other) {
            for (int i = 0; i < MOST_SPANS; i++) {
                weight[i] = other.weight[i];
                sail[i] = other.sail[i];
                down[i] = other.down[i];
            }
            spanCount = other.spanCount;
            partCount = other.partCount;
            for (int i = 0; i < partCount; i++) {
                parts[i].become(other.parts[i]);
            }
            trainWeight = other.trainWeight;
            trainSail = other.trainSail;
            trainSpan = other.trainSpan;
            trainDown = other.trainDown;
        }

        private int changeTrain(int what, int v) {
            int was = what == 0 ? trainWeight : trainSail;
            if (what == 0) {
                trainWeight = v;
            } else {
                trainSail = v;
            }
            return was;
        }

        private int changeSpan(int span, int what, int v) {
            int[] row = what == 0 ? weight : sail;
            int was = row[span];
            row[span] = v;
            return was;
        }

        private int placeTrain(int span) {
            int was = trainSpan;
            trainSpan = span;
            trainDown = false;
            return was;
        }

        /** Where the night brings the train: no such span is behind the last one. */
        private void bringTrain(int span) {
            if (span >= spanCount) {
                trainSpan = NONE;
            } else if (down[span]) {
                sinkTrain();
            } else {
                trainSpan = span;
            }
        }

        private void sinkTrain() {
            trainSpan = NONE;
            trainDown = true;
        }

        private void standUp() {
            for (int i = 0; i < partCount; i++) {
                parts[i].stands = parts[i].kind != PIECE;
            }
            for (int i = 0; i < spanCount; i++) {
                down[i] = false;
            }
            placeTrain(NONE);
        }

        private int goneCount() {
            int gone = 0;
            for (int i = 0; i < partCount; i++) {
                gone += bit(parts[i].isGone());
            }
            return gone;
        }

        private int downCount() {
            int fallen = 0;
            for (int i = 0; i < spanCount; i++) {
                fallen += bit(down[i]);
            }
            return fallen;
        }

        private int pieceCount(boolean foundOnly) {
            int pieces = 0;
            for (int i = 0; i < partCount; i++) {
                pieces += bit(parts[i].kind == PIECE && (parts[i].found || !foundOnly));
            }
            return pieces;
        }

        private boolean isUp(int span) {
            return span >= 0 && span < spanCount && !down[span];
        }

        private void weighPiers(int gust) {
            for (int pier = 0; pier <= spanCount; pier++) {
                sails[pier] = 0;
                weights[pier] = 0;
                shares[pier] = 0;
            }
            for (int i = 0; i < spanCount; i++) {
                if (!down[i]) {
                    hang(i, sail[i], weight[i]);
                }
            }
            if (isUp(trainSpan)) {
                hang(trainSpan, trainSail, trainWeight);
            }
            for (int i = 0; i < partCount; i++) {
                if (parts[i].stands) {
                    shares[parts[i].pier] += parts[i].share;
                }
            }
            for (int pier = 0; pier <= spanCount; pier++) {
                pulls[pier] = Math.max(0, gust * sails[pier] - 10 * weights[pier]);
            }
        }

        private void hang(int span, int sailThere, int weightThere) {
            sails[span] += sailThere;
            sails[span + 1] += sailThere;
            weights[span] += weightThere;
            weights[span + 1] += weightThere;
        }

        private int pullAt(int pier, int gust) {
            weighPiers(gust);
            return pulls[pier];
        }

        private int loadOn(Part part, int gust) {
            weighPiers(gust);
            int all = shares[part.pier];
            return all == 0 ? 0 : pulls[part.pier] * part.share / all;
        }

        /** Both sides times the shares at the pier, as a load is a share that is not cut. */
        private boolean isOver(Part part) {
            long load = 10000L * pulls[part.pier] * part.share;
            return part.stands && load > (long) part.bearing(part.slack) * shares[part.pier];
        }

        /** Load by bears of one against another's, crosswise: below 10 to the 15th. */
        private boolean isWorse(Part one, Part other) {
            long oneLoad = (long) pulls[one.pier] * one.share;
            long otherLoad = (long) pulls[other.pier] * other.share;
            long oneBears = (long) one.bearing(one.slack) * shares[one.pier];
            long otherBears = (long) other.bearing(other.slack) * shares[other.pier];
            return oneLoad * otherBears > otherLoad * oneBears;
        }

        private int worstOver(int gust) {
            weighPiers(gust);
            int worst = NONE;
            for (int i = 0; i < partCount; i++) {
                if (isOver(parts[i]) && (worst == NONE || isWorse(parts[i], parts[worst]))) {
                    worst = i;
                }
            }
            return worst;
        }

        private boolean isAnyOver(int pier, int gust) {
            weighPiers(gust);
            for (int i = 0; i < partCount; i++) {
                if (parts[i].pier == pier && isOver(parts[i])) {
                    return true;
                }
            }
            return false;
        }

        private void letGo(Part part) {
            part.stands = false;
            if (isBare(part.pier)) {
                dropSpan(part.pier - 1);
                dropSpan(part.pier);
            }
        }

        private boolean isBare(int pier) {
            for (int i = 0; i < partCount; i++) {
                if (parts[i].stands && parts[i].pier == pier) {
                    return false;
                }
            }
            return true;
        }

        private void dropSpan(int span) {
            if (isUp(span)) {
                down[span] = true;
                if (trainSpan == span) {
                    sinkTrain();
                }
            }
        }

        private int collapse(int gust) {
            int gone = 0;
            for (int i = 0; i < MOST_PARTS; i++) {
                int going = worstOver(gust);
                if (going == NONE) {
                    break;
                }
                letGo(parts[going]);
                gone++;
            }
            return gone;
        }

        private int goingAs(int which, int gust) {
            for (int i = 0; i < MOST_PARTS; i++) {
                int going = worstOver(gust);
                if (going == NONE || i == which) {
                    return going;
                }
                letGo(parts[going]);
            }
            return NONE;
        }

        /**
         * The greatest gust at which a part with that slack is not over. A pull never lessens as a gust
         * grows, so that all lesser gusts are safe too. The piers must have been weighed.
         */
        private int limitOf(Part part, int slackThen) {
            int pier = part.pier;
            if (!part.stands || part.share == 0 || sails[pier] == 0) {
                return TOP_GUST;
            }
            long borne = (long) part.bearing(slackThen) * shares[pier] / (10000L * part.share);
            long limit = (borne + 10 * weights[pier]) / sails[pier];
            return (int) Math.min(TOP_GUST, limit);
        }

        private int safeGust() {
            weighPiers(TOP_GUST);
            int least = TOP_GUST;
            for (int i = 0; i < partCount; i++) {
                least = Math.min(least, limitOf(parts[i], parts[i].slack));
            }
            return least;
        }

        private int doubtOf(Part part) {
            if (part.flaw > 0) {
                return 2;
            }
            int doubt = 0;
            for (int i = 0; i < partCount; i++) {
                if (parts[i].isLike(part) && parts[i].flaw > 0) {
                    doubt = 1;
                }
            }
            return doubt;
        }

        private int doubtedFrom(int least) {
            int doubted = 0;
            for (int i = 0; i < partCount; i++) {
                doubted += bit(parts[i].kind != PIECE && doubtOf(parts[i]) >= least);
            }
            return doubted;
        }
    }

    /** The tape, and what was read from it: a key and its sum with each sign behind what it joins. */
    private static final class Tape {
        private static final int NAME_CODE = 10000, SIGN_CODE = 20000;
        private static final int END = 0, LETTERS = 1, DIGITS = 2, SIGN = 3, GLUED = 4;
        private static final int TEST_LEVEL = 2, PART_LEVEL = 5, MOST_OPEN = 8, MOST_DIGITS = 4;

        private final int[] bytes = new int[TAPE_BYTES];
        private int size = 0;
        /** The word or sign at hand, from its first byte to the place behind its last one. */
        private int start = 0, end = 0, sort = END;
        private final int[] code = new int[TAPE_BYTES];
        private int codeSize = 0, leaves = 0, key = NONE;

        private void addBytes(int four) {
            for (int shift = 24; shift >= 0 && size < TAPE_BYTES; shift -= 8) {
                bytes[size] = four >> shift & 255;
                size++;
            }
        }

        /** NONE, or the place of the fault. */
        private int parse() {
            end = 0;
            sort = END;
            codeSize = 0;
            leaves = 0;
            step();
            key = keyAtHand();
            if (key == NONE) {
                return start;
            }
            step();
            return parseLevel(0, 0, 0) && sort == END ? NONE : start;
        }

        private void step() {
            boolean behindWord = sort == LETTERS || sort == DIGITS;
            int behind = end;
            start = end;
            while (start < size && bytes[start] == ' ') {
                start++;
            }
            end = start;
            if (start >= size) {
                sort = END;
                return;
            }
            sort = sortOf(bytes[start]);
            end = start + 1;
            while (sort != SIGN && end < size && sortOf(bytes[end]) == sort) {
                end++;
            }
            if (sort != SIGN && behindWord && start == behind) {
                sort = GLUED;
            }
        }

        private static int sortOf(int b) {
            if (b >= 'a' && b <= 'z') {
                return LETTERS;
            }
            return b >= '0' && b <= '9' ? DIGITS : SIGN;
        }

        private int keyAtHand() {
            for (int i = 0; i < KEYS; i++) {
                if (isAtHand(wordOf(i))) {
                    return i;
                }
            }
            return NONE;
        }

        private boolean isAtHand(String word) {
            boolean same = sort == LETTERS && end - start == word.length();
            for (int i = 0; same && i < word.length(); i++) {
                same = bytes[start + i] == word.charAt(i);
            }
            return same;
        }

        private static String wordOf(int key) {
            switch (key) {
                case WIND:
                    return "wind";
                case SPEED:
                    return "speed";
                case MEND:
                    return "mend";
                default:
                    return "tell";
            }
        }

        private static String namesOf(int key) {
            switch (key) {
                case WIND:
                    return "pm";
                case SPEED:
                    return "wg";
                case MEND:
                    return "sfk";
                default:
                    return "ox";
            }
        }

        private static String signsOf(int level) {
            switch (level) {
                case 0:
                    return "|";
                case 1:
                    return "&";
                case TEST_LEVEL:
                    return "<=>";
                case 3:
                    return "+-";
                default:
                    return "*/";
            }
        }

        private boolean isSign(char sign) {
            return sort == SIGN && bytes[start] == sign;
        }

        private boolean isSignOf(int level) {
            return sort == SIGN && signsOf(level).indexOf((char) bytes[start]) >= 0;
        }

        private void emit(int one) {
            if (codeSize < TAPE_BYTES) {
                code[codeSize] = one;
                codeSize++;
            }
        }

        /** The level of | is 0, a higher one binds closer; ( and ! that are open are counted. */
        private boolean parseLevel(int level, int open, int nots) {
            if (level >= PART_LEVEL) {
                return parsePart(open, nots);
            }
            boolean fine = parseLevel(level + 1, open, nots);
            int most = level == TEST_LEVEL ? 1 : TAPE_BYTES;
            for (int i = 0; fine && i < most && isSignOf(level); i++) {
                int sign = bytes[start];
                step();
                fine = parseLevel(level + 1, open, nots);
                emit(SIGN_CODE + sign);
            }
            return fine;
        }

        private boolean parsePart(int open, int nots) {
            if (isSign('!') && nots < MOST_OPEN) {
                step();
                boolean fine = parsePart(open, nots + 1);
                emit(SIGN_CODE + '!');
                return fine;
            }
            if (isSign('(') && open < MOST_OPEN) {
                step();
                boolean closed = parseLevel(0, open + 1, nots) && isSign(')');
                if (closed) {
                    step();
                }
                return closed;
            }
            int leaf = leafAtHand();
            if (leaf == NONE) {
                return false;
            }
            emit(leaf);
            leaves++;
            step();
            return true;
        }

        private int leafAtHand() {
            if (sort == DIGITS) {
                return end - start > MOST_DIGITS ? NONE : numberAtHand();
            }
            if (sort != LETTERS || end - start != 1) {
                return NONE;
            }
            int name = namesOf(key).indexOf((char) bytes[start]);
            return name < 0 ? NONE : NAME_CODE + name;
        }

        private int numberAtHand() {
            int number = 0;
            for (int i = start; i < end; i++) {
                number = 10 * number + bytes[i] - '0';
            }
            return number;
        }
    }

    /** The texts of the board, as the tape read them. */
    private static final class Texts {
        private final int[][] code = new int[MOST_TEXTS][TAPE_BYTES];
        private final int[] sizes = new int[MOST_TEXTS];
        private final int[] key = new int[MOST_TEXTS];
        private final int[] since = new int[MOST_TEXTS];
        private final int[] leaves = new int[MOST_TEXTS];
        private final int[] stack = new int[TAPE_BYTES];
        private int count = 0;

        private int add(Tape read, int month) {
            System.arraycopy(read.code, 0, code[count], 0, read.codeSize);
            sizes[count] = read.codeSize;
            key[count] = read.key;
            since[count] = month;
            leaves[count] = read.leaves;
            return count++;
        }

        private void become(Texts other) {
            count = other.count;
            for (int i = 0; i < count; i++) {
                System.arraycopy(other.code[i], 0, code[i], 0, other.sizes[i]);
                sizes[i] = other.sizes[i];
                key[i] = other.key[i];
                since[i] = other.since[i];
                leaves[i] = other.leaves[i];
            }
        }

        private int counting(int ofKey, int month) {
            int found = NONE;
            for (int i = 0; i < count; i++) {
                boolean inForce = key[i] == ofKey && since[i] <= month;
                if (inForce && (found == NONE || since[i] >= since[found])) {
                    found = i;
                }
            }
            return found;
        }

        private static int without(int ofKey) {
            switch (ofKey) {
                case WIND:
                    return 10;
                case SPEED:
                    return 99;
                default:
                    return 0;
            }
        }

        private int work(int text, int a, int b, int c) {
            int top = 0;
            for (int i = 0; i < sizes[text]; i++) {
                int one = code[text][i];
                if (one < Tape.SIGN_CODE && top < TAPE_BYTES) {
                    stack[top] = leaf(one, a, b, c);
                    top++;
                } else if (one == Tape.SIGN_CODE + '!' && top >= 1) {
                    stack[top - 1] = bit(stack[top - 1] == 0);
                } else if (top >= 2) {
                    top--;
                    stack[top - 1] = join(one - Tape.SIGN_CODE, stack[top - 1], stack[top]);
                }
            }
            return stack[0];
        }

        private static int leaf(int one, int a, int b, int c) {
            switch (one - Tape.NAME_CODE) {
                case 0:
                    return a;
                case 1:
                    return b;
                case 2:
                    return c;
                default:
                    return one;
            }
        }

        private static int join(int sign, int left, int right) {
            switch (sign) {
                case '|':
                    return bit(left != 0 || right != 0);
                case '&':
                    return bit(left != 0 && right != 0);
                case '<':
                    return bit(left < right);
                case '=':
                    return bit(left == right);
                case '>':
                    return bit(left > right);
                case '+':
                    return left + right;
                case '-':
                    return left - right;
                case '*':
                    return left * right;
                default:
                    return right == 0 ? 0 : left / right;
            }
        }
    }

    /** The gusts of the night, and when and how fast the train comes. */
    private static final class Gale {
        private final int[] gusts = new int[SECONDS];
        private int comes = NONE, pace = 1;

        private void become(Gale other) {
            System.arraycopy(other.gusts, 0, gusts, 0, SECONDS);
            comes = other.comes;
            pace = other.pace;
        }

        private void passSecond(Bridge over, int second) {
            if (comes != NONE && second >= comes && !over.trainDown) {
                over.bringTrain((second - comes) * pace / 20);
            }
            over.collapse(gusts[second]);
        }
    }

    /** Of each story which breaks it lets on either side. */
    private static final class Stories {
        private final int[][] lets = new int[STORIES][2];

        private Stories() {
            for (int i = 0; i < STORIES; i++) {
                lets[i][0] = 63;
                lets[i][1] = 63;
            }
        }

        private void become(Stories other) {
            for (int i = 0; i < STORIES; i++) {
                lets[i][0] = other.lets[i][0];
                lets[i][1] = other.lets[i][1];
            }
        }

        /** Those stories that let a break on a side, as bits. */
        private int letting(int side, int broken) {
            int set = 0;
            for (int i = 0; i < STORIES; i++) {
                set |= (lets[i][side] >> broken & 1) << i;
            }
            return set;
        }

        private int fitting(Bridge over) {
            int set = (1 << STORIES) - 1;
            for (int i = 0; i < over.partCount; i++) {
                Part part = over.parts[i];
                if (part.kind == PIECE && part.found) {
                    set &= letting(part.side, part.broken);
                }
            }
            return set;
        }

        private int mostLeft(int fitting, int side) {
            int most = 0;
            for (int broken = 0; broken < BREAKS; broken++) {
                most = Math.max(most, Integer.bitCount(fitting & letting(side, broken)));
            }
            return most;
        }

        private int pieceToRaise(Bridge over) {
            int fitting = fitting(over);
            int least = STORIES + 1;
            int found = NONE;
            for (int i = 0; i < over.partCount; i++) {
                Part part = over.parts[i];
                if (part.kind == PIECE && !part.found) {
                    int left = mostLeft(fitting, part.side);
                    if (left < least) {
                        least = left;
                        found = i;
                    }
                }
            }
            return found;
        }
    }

    /** Who saw and who told what. Words stand by days, of one day by numbers: no call asks for one by its number. */
    private static final class Words {
        private static final int NEVER = TOP_DAY + 1;

        private final int[] day = new int[MOST_WORDS];
        private final int[] one = new int[MOST_WORDS];
        private final int[] other = new int[MOST_WORDS];
        private final int[] matter = new int[MOST_WORDS];
        private final int[][] sawOn = new int[OFFICES][MATTERS];
        private int count = 0;

        private Words() {
            for (int i = 0; i < OFFICES; i++) {
                for (int j = 0; j < MATTERS; j++) {
                    sawOn[i][j] = NEVER;
                }
            }
        }

        private void become(Words from) {
            count = from.count;
            System.arraycopy(from.day, 0, day, 0, MOST_WORDS);
            System.arraycopy(from.one, 0, one, 0, MOST_WORDS);
            System.arraycopy(from.other, 0, other, 0, MOST_WORDS);
            System.arraycopy(from.matter, 0, matter, 0, MOST_WORDS);
            for (int i = 0; i < OFFICES; i++) {
                System.arraycopy(from.sawOn[i], 0, sawOn[i], 0, MATTERS);
            }
        }

        private int add(int onDay, int teller, int listener, int about) {
            int at = count;
            while (at > 0 && day[at - 1] > onDay) {
                day[at] = day[at - 1];
                one[at] = one[at - 1];
                other[at] = other[at - 1];
                matter[at] = matter[at - 1];
                at--;
            }
            day[at] = onDay;
            one[at] = teller;
            other[at] = listener;
            matter[at] = about;
            return count++;
        }

        /** Heard: the offices that earlier words told, as bits; who saw it that day knows for all words of the day. */
        private boolean isBlind(int i, int heard) {
            return (heard >> one[i] & 1) == 0 && sawOn[one[i]][matter[i]] > day[i];
        }

        private int knowing(int about, int onDay) {
            int known = 0;
            for (int i = 0; i < count && day[i] <= onDay; i++) {
                if (matter[i] == about && !isBlind(i, known)) {
                    known |= 1 << other[i];
                }
            }
            for (int office = 0; office < OFFICES; office++) {
                known |= bit(sawOn[office][about] <= onDay) << office;
            }
            return known;
        }

        private int blindOf(int about) {
            int heard = 0;
            int blind = 0;
            for (int i = 0; i < count; i++) {
                if (matter[i] == about && isBlind(i, heard)) {
                    blind++;
                } else if (matter[i] == about) {
                    heard |= 1 << other[i];
                }
            }
            return blind;
        }
    }

    /** Tickets and times: only the sums and speeds that calls ask for. */
    private static final class Papers {
        private final int[] speeds = new int[MOST_TIMES];
        private int stationCount = 0, taken = 0, ticketless = 0, timeCount = 0;

        private void become(Papers other) {
            System.arraycopy(other.speeds, 0, speeds, 0, MOST_TIMES);
            stationCount = other.stationCount;
            taken = other.taken;
            ticketless = other.ticketless;
            timeCount = other.timeCount;
        }

        private int fasterThan(int v) {
            int faster = 0;
            for (int i = 0; i < timeCount; i++) {
                faster += bit(speeds[i] > v);
            }
            return faster;
        }
    }

    /** Parts that may be strapped, in the order in which they were told. */
    private static final class Strapping {
        private final int[] members = new int[MOST_STRAPS];
        private int count = 0;
        /** As weighed last: the limits of members as slack as they are and strapped, and of all others. */
        private final int[] loose = new int[MOST_STRAPS];
        private final int[] tight = new int[MOST_STRAPS];
        private int others = TOP_GUST;

        private void become(Strapping other) {
            System.arraycopy(other.members, 0, members, 0, MOST_STRAPS);
            count = other.count;
        }

        private boolean isMember(int part) {
            for (int i = 0; i < count; i++) {
                if (members[i] == part) {
                    return true;
                }
            }
            return false;
        }

        private int add(int part) {
            members[count] = part;
            count++;
            return count;
        }

        private void weigh(Bridge over) {
            over.weighPiers(TOP_GUST);
            others = TOP_GUST;
            for (int i = 0; i < over.partCount; i++) {
                if (!isMember(i)) {
                    others = Math.min(others, over.limitOf(over.parts[i], over.parts[i].slack));
                }
            }
            for (int i = 0; i < count; i++) {
                Part member = over.parts[members[i]];
                loose[i] = over.limitOf(member, member.slack);
                tight[i] = over.limitOf(member, 0);
            }
        }

        private int safeBy(int set) {
            int least = others;
            for (int i = 0; i < count; i++) {
                least = Math.min(least, (set >> i & 1) == 1 ? tight[i] : loose[i]);
            }
            return least;
        }

        private int bestOf(int most) {
            int best = 0;
            int bestSafe = safeBy(0);
            for (int set = 1; set < 1 << count; set++) {
                int size = Integer.bitCount(set);
                int safe = safeBy(set);
                boolean better = safe > bestSafe || safe == bestSafe && size < Integer.bitCount(best);
                if (size <= most && better) {
                    best = set;
                    bestSafe = safe;
                }
            }
            return best;
        }
    }

    /** Tests: floats in quarters, where NONE is no number, and shorts. */
    private static final class TestRows {
        private final int[][] values = new int[TESTS][TEST_PLACES];
        private final int[] sorts = new int[TESTS];
        private final int[] sizes = new int[TESTS];

        private TestRows() {
            for (int i = 0; i < TESTS; i++) {
                sorts[i] = MISSING;
            }
        }

        private int begin(int row, int sort, int n) {
            sorts[row] = sort;
            sizes[row] = n;
            for (int i = 0; i < TEST_PLACES; i++) {
                values[row][i] = 0;
            }
            return n;
        }

        private int set(int row, int place, int v) {
            if (sorts[row] == SHORTS) {
                if (v == NONE) {
                    return KIND;
                }
                values[row][place] = (short) v;
                return 1;
            }
            if (v != NONE && !within(v, -TOP_QUARTERS, TOP_QUARTERS)) {
                return BAD;
            }
            values[row][place] = v;
            return 1;
        }

        private int get(int row, int place) {
            int v = values[row][place];
            return sorts[row] == FLOATS && v == NONE ? middleOf(row) : v;
        }

        private int middleOf(int row) {
            int sum = 0;
            int numbers = 0;
            for (int i = 0; i < sizes[row]; i++) {
                if (values[row][i] != NONE) {
                    sum += values[row][i];
                    numbers++;
                }
            }
            return numbers == 0 ? KIND : sum / numbers;
        }

        private boolean holds(int row, int place, int many) {
            return many >= 0 && place >= 0 && place <= sizes[row] && many <= sizes[row] - place;
        }
    }

    /** All that an image keeps. */
    private static final class Scene {
        private final Bridge bridge = new Bridge();
        private final Texts texts = new Texts();
        private final Gale gale = new Gale();
        private final Stories stories = new Stories();
        private final Words words = new Words();
        private final Papers papers = new Papers();
        private final Strapping strapping = new Strapping();
        private int month = 0, shaking = 5;

        private void become(Scene other) {
            bridge.become(other.bridge);
            texts.become(other.texts);
            gale.become(other.gale);
            stories.become(other.stories);
            words.become(other.words);
            papers.become(other.papers);
            strapping.become(other.strapping);
            month = other.month;
            shaking = other.shaking;
        }

        private int ruleOf(int key, int a, int b, int c) {
            int text = texts.counting(key, month);
            return text == NONE ? Texts.without(key) : texts.work(text, a, b, c);
        }

        private void passMonth(int trains) {
            int more = shaking * trains / 100;
            for (int i = 0; i < bridge.partCount; i++) {
                Part part = bridge.parts[i];
                if (part.stands && part.isOf(TIE)) {
                    part.slack = Math.min(TOP_LEVEL, part.slack + more);
                }
            }
            mendParts(texts.counting(MEND, month));
            month++;
        }

        private void mendParts(int text) {
            if (text == NONE) {
                return;
            }
            for (int i = 0; i < bridge.partCount; i++) {
                Part part = bridge.parts[i];
                if (part.stands && texts.work(text, part.slack, part.flaw, part.kind) != 0) {
                    part.slack = 0;
                }
            }
        }

        private int monthOfDistrust(int slack, int trains) {
            int then = slack;
            for (int i = 0; i < 600; i++) {
                then = Math.min(TOP_LEVEL, then + shaking * trains / 100);
                if (then >= 50) {
                    return month + i;
                }
            }
            return NONE;
        }

        private int boundToTell(int matter, int day) {
            int known = words.knowing(matter, day);
            int bound = 0;
            for (int office = 0; office < OFFICES; office++) {
                if ((known >> office & 1) == 1 && ruleOf(TELL, office, matter, 0) != 0) {
                    bound |= 1 << office;
                }
            }
            return bound;
        }
    }
}
