import java.util.NoSuchElementException;

/**
 * A video conference switch: people publish streams in layers, a speaker is found by levels with a
 * holding time, and each receiver is sent the layers that its places and its estimate allow.
 *
 * <p>A person's number is its seat, 0 to 5, and the index into every row below. All rows are made
 * with the object and used again, so that no call but one that throws makes anything new.
 */
public final class Confroom {
    public static final int NONE = -1;

    private static final int SEATS = 6;
    private static final int TOP_LAYER = 3;
    private static final int MOST_RATE = 100;
    private static final int MOST_LEVEL = 100;
    private static final int LOUD_LEVEL = 30;
    private static final int MOST_PLACES = 5;
    private static final int FIRST_PLACES = 3;
    private static final int MOST_ESTIMATE = 2000;
    private static final int FIRST_ESTIMATE = 100;
    private static final int MOST_HOLD = 10;
    private static final int FIRST_HOLD = 2;
    private static final int MOST_LIMIT = 10;
    private static final int FIRST_LIMIT = 3;
    private static final int MOST_SECONDS = 20;

    private final Floor floor;
    private final Streams streams;
    private final Wishes wishes;
    private final Line view;
    private final Sharing sharing;
    private final Links links;
    private int clock;

    public Confroom() {
        floor = new Floor();
        streams = new Streams();
        wishes = new Wishes();
        view = new Line();
        sharing = new Sharing();
        links = new Links();
        clock = 0;
    }

    // ---- people and streams

    public int join() throws IllegalStateException {
        int seat = floor.freeSeat();
        if (seat == NONE) {
            throw new IllegalStateException("there are 6 people");
        }
        floor.enter(seat);
        wishes.reset(seat);
        return seat;
    }

    public void leave(int person) throws java.util.NoSuchElementException {
        needPerson(person);
        stopStream(person);
        floor.forget(person);
        wishes.unpinEverywhere(person);
        links.clearReceiver(person);
    }

    public void publish(int person, int base, int step)
            throws java.util.NoSuchElementException, IllegalArgumentException {
        needPerson(person);
        needRange(base, 1, MOST_RATE);
        needRange(step, 1, MOST_RATE);
        stopStream(person);
        streams.begin(person, base, step);
    }

    public void end(int person) throws java.util.NoSuchElementException, IllegalStateException {
        needPerson(person);
        needStream(person);
        stopStream(person);
    }

    public boolean mute(int person) throws java.util.NoSuchElementException {
        needPerson(person);
        boolean muted = !floor.muted[person];
        floor.muted[person] = muted;
        return muted;
    }

    public int setLevel(int person, int level)
            throws java.util.NoSuchElementException, IllegalArgumentException {
        needPerson(person);
        needRange(level, 0, MOST_LEVEL);
        int before = floor.level[person];
        floor.level[person] = level;
        return before;
    }

    public int people() {
        return floor.headCount();
    }

    // ---- receivers and settings

    public int pin(int receiver, int other)
            throws java.util.NoSuchElementException, IllegalArgumentException {
        needPerson(receiver);
        if (other != NONE) {
            needPerson(other);
        }
        if (other == receiver) {
            throw new IllegalArgumentException("a receiver can't pin itself");
        }
        int before = wishes.pinned[receiver];
        wishes.pinned[receiver] = other;
        return before;
    }

    public int setPlaces(int receiver, int places)
            throws java.util.NoSuchElementException, IllegalArgumentException {
        needPerson(receiver);
        needRange(places, 0, MOST_PLACES);
        int before = wishes.places[receiver];
        wishes.places[receiver] = places;
        return before;
    }

    public int setEstimate(int receiver, int estimate)
            throws java.util.NoSuchElementException, IllegalArgumentException {
        needPerson(receiver);
        needRange(estimate, 0, MOST_ESTIMATE);
        int before = wishes.estimate[receiver];
        wishes.estimate[receiver] = estimate;
        return before;
    }

    public void setTimes(int hold, int limit) throws IllegalArgumentException {
        needRange(hold, 1, MOST_HOLD);
        needRange(limit, 0, MOST_LIMIT);
        floor.hold = hold;
        streams.limit = limit;
    }

    // ---- seconds

    public int pass(int seconds) throws IllegalArgumentException {
        needRange(seconds, 1, MOST_SECONDS);
        int made = 0;
        for (int second = 0; second < seconds; second++) {
            made += passOneSecond();
        }
        return made;
    }

    public int now() {
        return clock;
    }

    public int speaker() {
        return floor.leader;
    }

    // ---- what is seen and sent

    public int seen(int receiver) throws java.util.NoSuchElementException {
        needPerson(receiver);
        fillView(receiver);
        return view.count;
    }

    public int seenAt(int receiver, int place)
            throws java.util.NoSuchElementException, IndexOutOfBoundsException {
        needPerson(receiver);
        fillView(receiver);
        if (place < 0 || place >= view.count) {
            throw new IndexOutOfBoundsException("no stream is seen in this place");
        }
        return view.row[place];
    }

    public int target(int receiver, int other) throws java.util.NoSuchElementException {
        needPerson(receiver);
        needPerson(other);
        fillView(receiver);
        sharing.shareInRounds(view, streams, wishes.estimate[receiver]);
        return sharing.given[other];
    }

    public int targetBySteps(int receiver, int other) throws java.util.NoSuchElementException {
        needPerson(receiver);
        needPerson(other);
        fillView(receiver);
        sharing.shareBySteps(view, streams, wishes.estimate[receiver]);
        return sharing.given[other];
    }

    public int layer(int receiver, int other) throws java.util.NoSuchElementException {
        needPerson(receiver);
        needPerson(other);
        return links.layers[receiver][other];
    }

    public int sent(int receiver) throws java.util.NoSuchElementException {
        needPerson(receiver);
        int sum = 0;
        for (int other = 0; other < SEATS; other++) {
            sum += streams.rateOf(other, links.layers[receiver][other]);
        }
        return sum;
    }

    public int keys(int person) throws java.util.NoSuchElementException, IllegalStateException {
        needPerson(person);
        needStream(person);
        return streams.keyCount[person];
    }

    public boolean isAsked(int person)
            throws java.util.NoSuchElementException, IllegalStateException {
        needPerson(person);
        needStream(person);
        return streams.asked[person];
    }

    // ---- the checks that throw

    private void needPerson(int person) {
        if (!floor.isHere(person)) {
            throw new NoSuchElementException("no such person");
        }
    }

    private void needStream(int person) {
        if (!streams.published.holds(person)) {
            throw new IllegalStateException("no stream is published");
        }
    }

    private static void needRange(int value, int least, int most) {
        if (value < least || value > most) {
            throw new IllegalArgumentException("a value is out of range");
        }
    }

    // ---- the parts of a second, and what a receiver sees

    private int passOneSecond() {
        clock++;
        floor.findSpeaker();
        setTargets();
        links.lowerToTargets();
        askForKeys();
        return makeKeys();
    }

    private void setTargets() {
        for (int receiver = 0; receiver < SEATS; receiver++) {
            if (floor.here[receiver]) {
                fillView(receiver);
                sharing.shareInRounds(view, streams, wishes.estimate[receiver]);
                links.setTargets(receiver, sharing.given);
            }
        }
    }

    private void askForKeys() {
        for (int person = 0; person < SEATS; person++) {
            if (links.isWantedHigher(person)) {
                streams.asked[person] = true;
            }
        }
    }

    private int makeKeys() {
        int made = 0;
        for (int person = 0; person < SEATS; person++) {
            if (streams.canMakeKey(person, clock)) {
                streams.makeKey(person, clock);
                links.switchToTargets(person);
                made++;
            }
        }
        return made;
    }

    private void fillView(int receiver) {
        view.clear();
        showStream(receiver, wishes.pinned[receiver]);
        showStreams(receiver, floor.spoke);
        showStreams(receiver, streams.published);
    }

    private void showStreams(int receiver, Line line) {
        for (int place = 0; place < line.count; place++) {
            showStream(receiver, line.row[place]);
        }
    }

    private void showStream(int receiver, int other) {
        if (!floor.isHere(other) || other == receiver || !streams.published.holds(other)) {
            return;
        }
        if (view.count < wishes.places[receiver]) {
            view.putLast(other);
        }
    }

    private void stopStream(int person) {
        streams.stop(person);
        links.clearStream(person);
    }

    /** Some of the people, each once, in an order. */
    private static final class Line {
        final int[] row = new int[SEATS];
        int count = 0;

        void clear() {
            count = 0;
        }

        boolean holds(int person) {
            for (int place = 0; place < count; place++) {
                if (row[place] == person) {
                    return true;
                }
            }
            return false;
        }

        void drop(int person) {
            int kept = 0;
            for (int place = 0; place < count; place++) {
                if (row[place] != person) {
                    row[kept] = row[place];
                    kept++;
                }
            }
            count = kept;
        }

        /** One who is in the line already keeps its place. */
        void putLast(int person) {
            if (count < SEATS && !holds(person)) {
                row[count] = person;
                count++;
            }
        }

        void putFirst(int person) {
            drop(person);
            if (count < SEATS) {
                for (int place = count; place > 0; place--) {
                    row[place] = row[place - 1];
                }
                row[0] = person;
                count++;
            }
        }
    }

    /** Who is there, how loud each one is, and who speaks. */
    private static final class Floor {
        final boolean[] here = new boolean[SEATS];
        final int[] level = new int[SEATS];
        final boolean[] muted = new boolean[SEATS];
        /** Those who spoke, the latest first. */
        final Line spoke = new Line();
        int leader = NONE;
        int hold = FIRST_HOLD;
        private int loudest = NONE;
        private int loudSeconds = 0;

        boolean isHere(int person) {
            return person >= 0 && person < SEATS && here[person];
        }

        int headCount() {
            int heads = 0;
            for (int seat = 0; seat < SEATS; seat++) {
                if (here[seat]) {
                    heads++;
                }
            }
            return heads;
        }

        int freeSeat() {
            for (int seat = 0; seat < SEATS; seat++) {
                if (!here[seat]) {
                    return seat;
                }
            }
            return NONE;
        }

        void enter(int person) {
            here[person] = true;
            level[person] = 0;
            muted[person] = false;
        }

        void forget(int person) {
            here[person] = false;
            spoke.drop(person);
            if (leader == person) {
                leader = NONE;
            }
            // The next one in this seat is another person, who must not inherit the seconds.
            if (loudest == person) {
                loudest = NONE;
            }
        }

        void findSpeaker() {
            int found = findLoudest();
            loudSeconds = found == loudest ? loudSeconds + 1 : 1;
            loudest = found;
            if (found != NONE && loudSeconds >= hold) {
                leader = found;
                spoke.putFirst(found);
            }
        }

        private int findLoudest() {
            int found = NONE;
            int greatest = LOUD_LEVEL - 1;
            for (int seat = 0; seat < SEATS; seat++) {
                if (here[seat] && !muted[seat] && level[seat] > greatest) {
                    found = seat;
                    greatest = level[seat];
                }
            }
            return found;
        }
    }

    /** The stream of each person, and its key pictures. */
    private static final class Streams {
        final int[] base = new int[SEATS];
        final int[] step = new int[SEATS];
        final int[] keyCount = new int[SEATS];
        final boolean[] asked = new boolean[SEATS];
        /** Those who publish a stream, the earliest stream first. */
        final Line published = new Line();
        int limit = FIRST_LIMIT;
        private final int[] lastKey = new int[SEATS];

        void begin(int person, int baseRate, int stepRate) {
            base[person] = baseRate;
            step[person] = stepRate;
            published.putLast(person);
        }

        void stop(int person) {
            keyCount[person] = 0;
            asked[person] = false;
            published.drop(person);
        }

        int rateOf(int person, int layer) {
            return layer == 0 ? 0 : base[person] + (layer - 1) * step[person];
        }

        boolean canMakeKey(int person, int time) {
            if (!asked[person]) {
                return false;
            }
            return keyCount[person] == 0 || time - lastKey[person] > limit;
        }

        void makeKey(int person, int time) {
            asked[person] = false;
            keyCount[person]++;
            lastKey[person] = time;
        }
    }

    /** What each receiver has set. */
    private static final class Wishes {
        final int[] places = new int[SEATS];
        final int[] estimate = new int[SEATS];
        final int[] pinned = new int[SEATS];

        void reset(int receiver) {
            places[receiver] = FIRST_PLACES;
            estimate[receiver] = FIRST_ESTIMATE;
            pinned[receiver] = NONE;
        }

        void unpinEverywhere(int person) {
            for (int receiver = 0; receiver < SEATS; receiver++) {
                if (pinned[receiver] == person) {
                    pinned[receiver] = NONE;
                }
            }
        }
    }

    /** Shares the estimate of one receiver out among the streams that it sees. */
    private static final class Sharing {
        /** The layers that are given, by person. */
        final int[] given = new int[SEATS];
        private int rest = 0;

        void shareInRounds(Line seen, Streams streams, int estimate) {
            startWith(estimate);
            for (int place = 0; place < seen.count; place++) {
                giveFirstLayer(seen.row[place], streams);
            }
            for (int place = 0; place < seen.count; place++) {
                for (int layer = 1; layer < TOP_LAYER; layer++) {
                    giveNextLayer(seen.row[place], streams);
                }
            }
        }

        void shareBySteps(Line seen, Streams streams, int estimate) {
            startWith(estimate);
            boolean isGiven = true;
            for (int steps = 0; isGiven && steps < SEATS * TOP_LAYER; steps++) {
                isGiven = giveOneFirstLayer(seen, streams) || giveOneNextLayer(seen, streams);
            }
        }

        private void startWith(int estimate) {
            rest = estimate;
            for (int other = 0; other < SEATS; other++) {
                given[other] = 0;
            }
        }

        private boolean giveOneFirstLayer(Line seen, Streams streams) {
            for (int place = 0; place < seen.count; place++) {
                if (giveFirstLayer(seen.row[place], streams)) {
                    return true;
                }
            }
            return false;
        }

        private boolean giveOneNextLayer(Line seen, Streams streams) {
            for (int place = 0; place < seen.count; place++) {
                if (giveNextLayer(seen.row[place], streams)) {
                    return true;
                }
            }
            return false;
        }

        private boolean giveFirstLayer(int other, Streams streams) {
            if (given[other] != 0 || streams.base[other] > rest) {
                return false;
            }
            given[other] = 1;
            rest -= streams.base[other];
            return true;
        }

        private boolean giveNextLayer(int other, Streams streams) {
            if (given[other] == 0 || given[other] >= TOP_LAYER || streams.step[other] > rest) {
                return false;
            }
            given[other]++;
            rest -= streams.step[other];
            return true;
        }
    }

    /** The layers that are sent, and the targets of this second, by receiver and then by person. */
    private static final class Links {
        final int[][] layers = new int[SEATS][SEATS];
        private final int[][] targets = new int[SEATS][SEATS];

        void setTargets(int receiver, int[] given) {
            for (int other = 0; other < SEATS; other++) {
                targets[receiver][other] = given[other];
            }
        }

        void lowerToTargets() {
            for (int receiver = 0; receiver < SEATS; receiver++) {
                for (int other = 0; other < SEATS; other++) {
                    if (layers[receiver][other] > targets[receiver][other]) {
                        layers[receiver][other] = targets[receiver][other];
                    }
                }
            }
        }

        boolean isWantedHigher(int person) {
            for (int receiver = 0; receiver < SEATS; receiver++) {
                if (targets[receiver][person] > layers[receiver][person]) {
                    return true;
                }
            }
            return false;
        }

        void switchToTargets(int person) {
            for (int receiver = 0; receiver < SEATS; receiver++) {
                layers[receiver][person] = targets[receiver][person];
            }
        }

        void clearStream(int person) {
            for (int receiver = 0; receiver < SEATS; receiver++) {
                layers[receiver][person] = 0;
            }
        }

        /** An empty seat has no targets, so that it neither asks for key pictures nor is sent any. */
        void clearReceiver(int receiver) {
            for (int other = 0; other < SEATS; other++) {
                layers[receiver][other] = 0;
                targets[receiver][other] = 0;
            }
        }
    }
}
