/**
 * A request server with admission control. README.md says how to use it; the project's document
 * says, as numbered promises, what each call does and answers.
 *
 * All rows are made in the constructor and used again: no call makes an object.
 */
public final class AdmissionControl {
    public static final int NO_SUCH = -100001;
    public static final int BAD_VALUE = -100002;
    public static final int BAD_TEXT = -100003;
    public static final int TOO_MANY = -100004;
    public static final int NONE = -100005;
    public static final int CAPACITY = 0, PATIENCE = 1, BACKOFF = 2, RETRIES = 3;
    public static final int SHARE = 0, RATE = 1, BURST = 2, LIMIT = 3;
    public static final int WAITING = 0, RUNNING = 1, DONE = 2, DELAYED = 3, REJECTED = 4;

    private static final int NO_ERROR = 0;
    private static final int SETTINGS = 4;
    private static final int KINDS = 3;
    private static final int SHAPES = 5;
    private static final int MOST_REQUESTS = 32;
    private static final int MOST_QUEUED = 8;
    private static final int MOST_CAPACITY = 20;
    private static final int MOST_COST = 60;
    private static final int MOST_TICKS = 99;
    private static final int LAST_CLOCK = 999;
    private static final int MOST_CHARACTERS = 80;
    private static final int MOST_STATES = 4;
    /** The what-if questions look no farther ahead than this number of ticks. */
    private static final int HORIZON = 400;

    private static final int ADMITTED = 0;
    private static final int PRICE_ABOVE_LIMIT = 1;
    private static final int QUEUE_IS_FULL = 2;
    private static final int WAIT_IS_TOO_LONG = 3;
    private static final int TOO_FEW_TOKENS = 4;
    private static final int WAITED_TOO_LONG = 5;
    private static final int REASONS = 5;

    private static final int SIXTEENTHS = 16;
    private static final int FIRST_ESTIMATE = 128;
    private static final int FIRST_TOKENS = 30;
    /** A class with the share 1 goes this far in its pass for a unit of work. */
    private static final int STRIDE = 2520;

    private final Server server = new Server();
    /** What-if questions let their ticks pass here, so that the server itself stays as it is. */
    private final Server trial = new Server();
    private final History history = new History();
    private final Text text = new Text();

    public AdmissionControl() {
    }

    // ---- actions

    public int set(int setting, int value) {
        if (!isSetting(setting)) {
            return NO_SUCH;
        }
        if (!isServerValue(setting, value)) {
            return BAD_VALUE;
        }
        history.keep(server);
        int previous = server.settings.at(setting);
        server.settings.put(setting, value);
        return previous;
    }

    public int setClass(int kind, int setting, int value) {
        if (!isKind(kind) || !isSetting(setting)) {
            return NO_SUCH;
        }
        if (!isClassValue(setting, value)) {
            return BAD_VALUE;
        }
        history.keep(server);
        Lane lane = server.lane(kind);
        int previous = lane.settings.at(setting);
        lane.settings.put(setting, value);
        return previous;
    }

    public int offer(int kind, int shape, int cost) {
        int error = server.errorOfOffer(kind, shape, cost);
        if (error != NO_ERROR) {
            return error;
        }
        history.keep(server);
        return server.offerNew(kind, shape, cost);
    }

    public int advance(int ticks) {
        int error = server.errorOfTicks(ticks);
        if (error != NO_ERROR) {
            return error;
        }
        history.keep(server);
        return server.letPass(ticks);
    }

    // ---- text and history

    public int append(int character) {
        if (character < 32 || character > 126) {
            return BAD_VALUE;
        }
        if (text.length >= MOST_CHARACTERS) {
            return TOO_MANY;
        }
        text.add(character);
        return text.length;
    }

    public int clearText() {
        int previous = text.length;
        text.length = 0;
        return previous;
    }

    public int fault() {
        return text.firstFault();
    }

    public int run() {
        if (text.firstFault() != NONE) {
            return BAD_TEXT;
        }
        history.keep(server);
        int steps = 0;
        for (int place = 0; place < text.length; place++) {
            if (text.startsStep(place)) {
                if (!takeStep(place)) {
                    return steps;
                }
                steps++;
            }
        }
        return steps;
    }

    public int undo() {
        if (history.states == 0) {
            return NONE;
        }
        history.restore(server);
        return history.states;
    }

    // ---- server and classes; these methods change nothing

    public int setting(int setting) {
        return isSetting(setting) ? server.settings.at(setting) : NO_SUCH;
    }

    public int classSetting(int kind, int setting) {
        if (!isKind(kind) || !isSetting(setting)) {
            return NO_SUCH;
        }
        return server.lane(kind).settings.at(setting);
    }

    public int clock() {
        return server.clock;
    }

    public int estimate(int shape) {
        return isShape(shape) ? server.estimates.at(shape) : NO_SUCH;
    }

    public int tokens(int kind) {
        return isKind(kind) ? server.lane(kind).tokens : NO_SUCH;
    }

    public int pass(int kind) {
        return isKind(kind) ? server.lane(kind).pass : NO_SUCH;
    }

    public int queued(int kind) {
        return isKind(kind) ? server.lane(kind).length : NO_SUCH;
    }

    public int queuedAt(int kind, int place) {
        if (!isKind(kind)) {
            return NO_SUCH;
        }
        if (place < 0) {
            return BAD_VALUE;
        }
        Lane lane = server.lane(kind);
        return place < lane.length ? lane.queue.at(place) : NONE;
    }

    public int backlog(int kind) {
        return isKind(kind) ? server.backlogOf(server.lane(kind)) : NO_SUCH;
    }

    public int worked(int kind) {
        return isKind(kind) ? server.lane(kind).units : NO_SUCH;
    }

    public int refused(int kind, int reason) {
        if (!isKind(kind) || reason < 1 || reason > REASONS) {
            return NO_SUCH;
        }
        return server.lane(kind).refusals.at(reason);
    }

    public int idle() {
        return server.idle;
    }

    public float workShare(int kind) {
        if (!isKind(kind)) {
            return -1.0f;
        }
        int all = server.lane(0).units + server.lane(1).units + server.lane(2).units;
        if (all == 0) {
            return 0.0f;
        }
        return (float) server.lane(kind).units / (float) all;
    }

    // ---- requests; these methods change nothing

    public int requests() {
        return server.count;
    }

    public int state(int request) {
        Request found = server.find(request);
        return found == null ? NO_SUCH : found.state;
    }

    public int price(int request) {
        Request found = server.find(request);
        return found == null ? NO_SUCH : found.price;
    }

    public int done(int request) {
        Request found = server.find(request);
        return found == null ? NO_SUCH : found.units;
    }

    public int offers(int request) {
        Request found = server.find(request);
        return found == null ? NO_SUCH : found.offers;
    }

    public int reason(int request) {
        Request found = server.find(request);
        return found == null ? NO_SUCH : found.reason;
    }

    public int when(int request) {
        Request found = server.find(request);
        if (found == null) {
            return NO_SUCH;
        }
        return found.state == DELAYED || found.state == DONE ? found.tick : NONE;
    }

    // ---- what would be; these methods change nothing

    public int wouldRefuse(int kind, int shape) {
        if (!isKind(kind) || !isShape(shape)) {
            return NO_SUCH;
        }
        return server.firstRefusal(server.lane(kind), server.expectedCost(shape));
    }

    public int ticksLeft() {
        return ticksOfTrial(server.settings.at(CAPACITY));
    }

    public int ticksIf(int capacity) {
        if (!isServerValue(CAPACITY, capacity)) {
            return BAD_VALUE;
        }
        return ticksOfTrial(capacity);
    }

    public int leastCapacity() {
        for (int capacity = 1; capacity <= MOST_CAPACITY; capacity++) {
            if (trialEndsWithoutRejection(capacity)) {
                return capacity;
            }
        }
        return NONE;
    }

    public int finish(int request) {
        trial.copyFrom(server);
        Request watched = trial.find(request);
        if (watched == null) {
            return NO_SUCH;
        }
        for (int ticks = 0; ticks < HORIZON && !watched.isSettled(); ticks++) {
            trial.tick();
        }
        return watched.state == DONE ? watched.tick : NONE;
    }

    // ---- what the face rests on

    private static boolean isKind(int kind) {
        return kind >= 0 && kind < KINDS;
    }

    private static boolean isShape(int shape) {
        return shape >= 0 && shape < SHAPES;
    }

    private static boolean isSetting(int setting) {
        return setting >= 0 && setting < SETTINGS;
    }

    private static boolean isBetween(int least, int value, int most) {
        return least <= value && value <= most;
    }

    private static boolean isServerValue(int setting, int value) {
        switch (setting) {
            case CAPACITY:
                return isBetween(1, value, MOST_CAPACITY);
            case PATIENCE:
                return isBetween(1, value, 60);
            case BACKOFF:
                return isBetween(1, value, 20);
            case RETRIES:
                return isBetween(0, value, 4);
            default:
                return false;
        }
    }

    private static boolean isClassValue(int setting, int value) {
        switch (setting) {
            case SHARE:
                return isBetween(1, value, 9);
            case RATE:
                return isBetween(0, value, 20);
            case BURST:
            case LIMIT:
                return isBetween(1, value, 99);
            default:
                return false;
        }
    }

    /** No divisor is below 1 here; it is tested all the same, as the machine would throw at 0. */
    private static int quotient(int number, int divisor) {
        return divisor < 1 ? 0 : number / divisor;
    }

    /** Whether the step at this place of a text without a fault was taken. */
    private boolean takeStep(int place) {
        if (text.characters.at(place) == '+') {
            int ticks = text.numberAt(place + 1);
            if (server.errorOfTicks(ticks) != NO_ERROR) {
                return false;
            }
            server.letPass(ticks);
            return true;
        }
        int kind = text.characters.at(place) - '0';
        int shape = text.characters.at(place + 1) - 'a';
        int cost = text.numberAt(place + 2);
        if (server.errorOfOffer(kind, shape, cost) != NO_ERROR) {
            return false;
        }
        server.offerNew(kind, shape, cost);
        return true;
    }

    private void beginTrial(int capacity) {
        trial.copyFrom(server);
        trial.settings.put(CAPACITY, capacity);
    }

    private int ticksOfTrial(int capacity) {
        beginTrial(capacity);
        int ticks = 0;
        while (ticks < HORIZON && trial.open > 0) {
            trial.tick();
            ticks++;
        }
        return trial.open == 0 ? ticks : NONE;
    }

    private boolean trialEndsWithoutRejection(int capacity) {
        beginTrial(capacity);
        for (int ticks = 0; ticks < HORIZON && trial.open > 0 && trial.rejected == server.rejected; ticks++) {
            trial.tick();
        }
        return trial.open == 0 && trial.rejected == server.rejected;
    }

    /** A row of numbers. A place outside it holds 0 for good, so that no index makes the machine throw. */
    private static final class Row {
        private final int[] cells;

        Row(int length) {
            cells = new int[length < 0 ? 0 : length];
        }

        int at(int place) {
            return place >= 0 && place < cells.length ? cells[place] : 0;
        }

        void put(int place, int value) {
            if (place >= 0 && place < cells.length) {
                cells[place] = value;
            }
        }

        void copyFrom(Row other) {
            for (int place = 0; place < cells.length && place < other.cells.length; place++) {
                cells[place] = other.cells[place];
            }
        }
    }

    private static final class Request {
        final int number;
        int kind;
        int shape;
        int cost;
        int state;
        int price;
        int units;
        int offers;
        int reason;
        /** The clock at its latest admission. */
        int admitted;
        /** The tick at which it is due if it is DELAYED, the tick in which it was done if it is DONE. */
        int tick;

        Request(int number) {
            this.number = number;
        }

        /** Sets every field, as the object may have been another request before an undo. */
        void begin(int newKind, int newShape, int newCost) {
            kind = newKind;
            shape = newShape;
            cost = newCost;
            state = WAITING;
            price = 0;
            units = 0;
            offers = 0;
            reason = 0;
            admitted = 0;
            tick = 0;
        }

        boolean isSettled() {
            return state == DONE || state == REJECTED;
        }

        void copyFrom(Request other) {
            kind = other.kind;
            shape = other.shape;
            cost = other.cost;
            state = other.state;
            price = other.price;
            units = other.units;
            offers = other.offers;
            reason = other.reason;
            admitted = other.admitted;
            tick = other.tick;
        }
    }

    /** A class of requests with its settings, bucket, queue, pass and counters. */
    private static final class Lane {
        final Row settings = new Row(SETTINGS);
        /** By reason; the place 0 stays empty. */
        final Row refusals = new Row(REASONS + 1);
        /** The numbers of the requests, in the first places as many as the length tells. */
        final Row queue = new Row(MOST_QUEUED);
        int length = 0;
        int tokens = FIRST_TOKENS;
        int pass = 0;
        int units = 0;

        Lane() {
            settings.put(SHARE, 1);
            settings.put(RATE, 2);
            settings.put(BURST, 30);
            settings.put(LIMIT, 40);
        }

        void gain(int amount) {
            int burst = settings.at(BURST);
            if (tokens < burst) {
                tokens = Math.min(tokens + amount, burst);
            }
        }

        void join(int number) {
            if (length < MOST_QUEUED) {
                queue.put(length, number);
                length++;
            }
        }

        void leave(int place) {
            if (length > 0) {
                length--;
                for (int next = place; next < length; next++) {
                    queue.put(next, queue.at(next + 1));
                }
            }
        }

        void copyFrom(Lane other) {
            settings.copyFrom(other.settings);
            refusals.copyFrom(other.refusals);
            queue.copyFrom(other.queue);
            length = other.length;
            tokens = other.tokens;
            pass = other.pass;
            units = other.units;
        }
    }

    /** The state: all that an action can change and an undo brings back. */
    private static final class Server {
        final Row settings = new Row(SETTINGS);
        final Row estimates = new Row(SHAPES);
        private final Lane lane0 = new Lane();
        private final Lane lane1 = new Lane();
        private final Lane lane2 = new Lane();
        private final Request[] slots = new Request[MOST_REQUESTS];
        int count = 0;
        /** How many requests are neither DONE nor REJECTED. */
        int open = 0;
        int rejected = 0;
        int clock = 0;
        int idle = 0;

        Server() {
            settings.put(CAPACITY, 4);
            settings.put(PATIENCE, 20);
            settings.put(BACKOFF, 3);
            settings.put(RETRIES, 1);
            for (int shape = 0; shape < SHAPES; shape++) {
                estimates.put(shape, FIRST_ESTIMATE);
            }
            for (int number = 0; number < slots.length; number++) {
                slots[number] = new Request(number);
            }
        }

        void copyFrom(Server other) {
            settings.copyFrom(other.settings);
            estimates.copyFrom(other.estimates);
            lane0.copyFrom(other.lane0);
            lane1.copyFrom(other.lane1);
            lane2.copyFrom(other.lane2);
            count = other.count;
            open = other.open;
            rejected = other.rejected;
            clock = other.clock;
            idle = other.idle;
            for (int number = 0; number < count; number++) {
                Request mine = find(number);
                Request theirs = other.find(number);
                if (mine != null && theirs != null) {
                    mine.copyFrom(theirs);
                }
            }
        }

        /** Never null; whether there is such a class is for the caller to test. */
        Lane lane(int kind) {
            switch (kind) {
                case 0:
                    return lane0;
                case 1:
                    return lane1;
                default:
                    return lane2;
            }
        }

        /** Null if there is no such request. */
        Request find(int number) {
            return number >= 0 && number < count && number < slots.length ? slots[number] : null;
        }

        int errorOfOffer(int kind, int shape, int cost) {
            if (!isKind(kind) || !isShape(shape)) {
                return NO_SUCH;
            }
            if (!isBetween(1, cost, MOST_COST)) {
                return BAD_VALUE;
            }
            return count >= MOST_REQUESTS ? TOO_MANY : NO_ERROR;
        }

        int errorOfTicks(int ticks) {
            if (!isBetween(1, ticks, MOST_TICKS)) {
                return BAD_VALUE;
            }
            return clock + ticks > LAST_CLOCK ? TOO_MANY : NO_ERROR;
        }

        int offerNew(int kind, int shape, int cost) {
            Request request = count >= 0 && count < slots.length ? slots[count] : null;
            if (request == null) {
                return TOO_MANY;
            }
            count++;
            open++;
            request.begin(kind, shape, cost);
            return offerNow(request);
        }

        int letPass(int ticks) {
            int finished = 0;
            for (int tick = 0; tick < ticks; tick++) {
                finished += tick();
            }
            return finished;
        }

        int expectedCost(int shape) {
            return Math.max(1, estimates.at(shape) / SIXTEENTHS);
        }

        int backlogOf(Lane lane) {
            int sum = 0;
            for (int place = 0; place < lane.length; place++) {
                Request request = find(lane.queue.at(place));
                if (request != null) {
                    sum += Math.max(1, request.price - request.units);
                }
            }
            return sum;
        }

        /** The first reason against a request with this price, or ADMITTED. */
        int firstRefusal(Lane lane, int price) {
            if (price > lane.settings.at(LIMIT)) {
                return PRICE_ABOVE_LIMIT;
            }
            if (lane.length >= MOST_QUEUED) {
                return QUEUE_IS_FULL;
            }
            int shares = lane0.settings.at(SHARE) + lane1.settings.at(SHARE) + lane2.settings.at(SHARE);
            int speed = lane.settings.at(SHARE) * settings.at(CAPACITY);
            int wait = quotient((backlogOf(lane) + price) * shares, speed);
            if (wait > settings.at(PATIENCE)) {
                return WAIT_IS_TOO_LONG;
            }
            return lane.tokens < price ? TOO_FEW_TOKENS : ADMITTED;
        }

        private int offerNow(Request request) {
            request.price = expectedCost(request.shape);
            request.offers++;
            int refusal = firstRefusal(lane(request.kind), request.price);
            if (refusal == ADMITTED) {
                admit(request);
            } else {
                refuse(request, refusal);
            }
            return refusal;
        }

        private void admit(Request request) {
            Lane lane = lane(request.kind);
            if (lane.length == 0) {
                catchUp(request.kind);
            }
            lane.tokens -= request.price;
            lane.join(request.number);
            request.state = WAITING;
            request.admitted = clock;
        }

        /** A class that was idle must not take the whole capacity with the low pass that it kept. */
        private void catchUp(int kind) {
            Lane least = null;
            for (int other = 0; other < KINDS; other++) {
                Lane candidate = lane(other);
                if (other != kind && candidate.length > 0 && (least == null || candidate.pass < least.pass)) {
                    least = candidate;
                }
            }
            if (least != null) {
                lane(kind).pass = Math.max(lane(kind).pass, least.pass);
            }
        }

        private void refuse(Request request, int reason) {
            Row refusals = lane(request.kind).refusals;
            refusals.put(reason, refusals.at(reason) + 1);
            request.reason = reason;
            if (request.offers <= settings.at(RETRIES)) {
                request.state = DELAYED;
                request.tick = clock + (settings.at(BACKOFF) << (request.offers - 1));
            } else {
                request.state = REJECTED;
                open--;
                rejected++;
            }
        }

        /** Answers how many requests are done in this tick. */
        int tick() {
            for (int kind = 0; kind < KINDS; kind++) {
                lane(kind).gain(lane(kind).settings.at(RATE));
            }
            for (int number = 0; number < count; number++) {
                Request request = find(number);
                if (request != null && request.state == DELAYED && request.tick <= clock) {
                    offerNow(request);
                }
            }
            for (int kind = 0; kind < KINDS; kind++) {
                refuseThoseWhoWaited(lane(kind));
            }
            int finished = 0;
            for (int unit = 0; unit < settings.at(CAPACITY); unit++) {
                finished += workOneUnit();
            }
            clock++;
            return finished;
        }

        private void refuseThoseWhoWaited(Lane lane) {
            int place = 0;
            for (int looks = lane.length; looks > 0; looks--) {
                Request request = find(lane.queue.at(place));
                if (request != null && hasWaitedTooLong(request)) {
                    lane.leave(place);
                    refuse(request, WAITED_TOO_LONG);
                    lane.gain(request.price);
                } else {
                    place++;
                }
            }
        }

        private boolean hasWaitedTooLong(Request request) {
            return request.state == WAITING && clock - request.admitted >= settings.at(PATIENCE);
        }

        /** Answers how many requests are done by this unit, 0 or 1. */
        private int workOneUnit() {
            Lane lane = nextLane();
            if (lane == null) {
                idle++;
                return 0;
            }
            lane.units++;
            lane.pass += quotient(STRIDE, lane.settings.at(SHARE));
            Request request = find(lane.queue.at(0));
            if (request == null) {
                return 0;
            }
            request.units++;
            request.state = RUNNING;
            if (request.units < request.cost) {
                return 0;
            }
            complete(lane, request);
            return 1;
        }

        /** Null if all queues are empty. */
        private Lane nextLane() {
            Lane next = null;
            for (int kind = 0; kind < KINDS; kind++) {
                Lane candidate = lane(kind);
                if (candidate.length > 0 && (next == null || candidate.pass < next.pass)) {
                    next = candidate;
                }
            }
            return next;
        }

        private void complete(Lane lane, Request request) {
            request.state = DONE;
            request.tick = clock;
            open--;
            lane.leave(0);
            int estimate = estimates.at(request.shape);
            estimates.put(request.shape, estimate + (SIXTEENTHS * request.cost - estimate) / 4);
            if (request.price > request.cost) {
                lane.gain(request.price - request.cost);
            } else {
                lane.tokens -= request.cost - request.price;
            }
        }
    }

    /** The latest states, the newest first; those beyond the number of states are only room to be used again. */
    private static final class History {
        private Server newest = new Server();
        private Server second = new Server();
        private Server third = new Server();
        private Server oldest = new Server();
        int states = 0;

        void keep(Server server) {
            Server room = oldest;
            oldest = third;
            third = second;
            second = newest;
            newest = room;
            newest.copyFrom(server);
            states = Math.min(states + 1, MOST_STATES);
        }

        void restore(Server server) {
            server.copyFrom(newest);
            Server room = newest;
            newest = second;
            second = third;
            third = oldest;
            oldest = room;
            states = Math.max(states - 1, 0);
        }
    }

    private static final class Text {
        /** What the characters so far allow to come next. */
        private static final int STEP = 0, SHAPE = 1, COST = 2, TICKS = 3, ANY_DIGIT = 4, ONLY_ZERO = 5, STEP_END = 6;
        private static final int NOTHING = 7;

        final Row characters = new Row(MOST_CHARACTERS);
        int length = 0;

        void add(int character) {
            if (length < MOST_CHARACTERS) {
                characters.put(length, character);
                length++;
            }
        }

        int firstFault() {
            int expected = STEP;
            for (int place = 0; place < length; place++) {
                expected = expectedAfter(expected, characters.at(place));
                if (expected == NOTHING) {
                    return place;
                }
            }
            return expected == ANY_DIGIT || expected == ONLY_ZERO || expected == STEP_END ? NONE : length;
        }

        private static int expectedAfter(int expected, int character) {
            switch (expected) {
                case STEP:
                    if (character == '+') {
                        return TICKS;
                    }
                    return isBetween('0', character, '2') ? SHAPE : NOTHING;
                case SHAPE:
                    return isBetween('a', character, 'e') ? COST : NOTHING;
                case COST:
                    return expectedAfterFirstOfCost(character);
                case TICKS:
                    return isBetween('1', character, '9') ? ANY_DIGIT : NOTHING;
                default:
                    return expectedAfterNumber(expected, character);
            }
        }

        /** The second digit must keep the cost at 60 or below. */
        private static int expectedAfterFirstOfCost(int character) {
            if (isBetween('1', character, '5')) {
                return ANY_DIGIT;
            }
            if (character == '6') {
                return ONLY_ZERO;
            }
            return isBetween('7', character, '9') ? STEP_END : NOTHING;
        }

        private static int expectedAfterNumber(int expected, int character) {
            if (character == ';') {
                return STEP;
            }
            if (expected == ANY_DIGIT && isBetween('0', character, '9')) {
                return STEP_END;
            }
            return expected == ONLY_ZERO && character == '0' ? STEP_END : NOTHING;
        }

        boolean startsStep(int place) {
            return place == 0 || characters.at(place - 1) == ';';
        }

        /** The number that begins at this place, which has at most two digits in a text without a fault. */
        int numberAt(int place) {
            int first = characters.at(place) - '0';
            int next = place + 1;
            if (next < length && isBetween('0', characters.at(next), '9')) {
                return first * 10 + characters.at(next) - '0';
            }
            return first;
        }
    }
}
