import java.util.NoSuchElementException;

/** A bridge of spans that harden while they set; ../shared/DOC.md says what each call does. */
public final class JamBridge {
    private static final int MOST_SPANS = 10;
    private static final int MOST_JARS = 50;
    private static final int MOST_CRACKS = 9;
    private static final int MOST_VEHICLES = 8;
    private static final int MOST_HOURS = 48;
    private static final int MOST_SIGNS = 60;
    private static final int MOST_CHANGES = 8;
    private static final int TOP_LENGTH = 20;
    private static final int TOP_WEIGHT = 99;
    private static final int TOP_RATE = 20;
    private static final int FIRST_RATE = 5;
    private static final int SETTING_HOURS = 24;
    private static final int TENTHS = 10;
    private static final int MEND_PRICE = 5;
    private static final int CRACKING_STRESS = 3;
    private static final int SPREAD_HOURS = 6;
    private static final int SPREADING_CRACKS = 5;

    // The changes, each with a command of its own in the texts.
    private static final int ADD_SPAN = 0;
    private static final int POUR = 1;
    private static final int ENTER = 2;
    private static final int MEND = 3;
    private static final int SET_RATE = 4;
    private static final int PASS = 5;
    private static final int REMOVE_SPAN = 6;

    // Why a change is refused: 1 to 8 are the denials, the others say which exception is due.
    private static final int NOTHING = 0;
    private static final int LIMIT_REACHED = 1;
    private static final int TOO_HEAVY = 2;
    private static final int NO_SPANS = 3;
    private static final int VEHICLES_THERE = 4;
    private static final int TILL_TOO_LOW = 5;
    private static final int FEWER_CRACKS = 6;
    private static final int PRESENT_VALUE = 7;
    private static final int COMMAND_FAILED = 8;
    private static final int OUT_OF_RANGE = 9;
    private static final int NO_SUCH_SPAN = 10;
    private static final int OTHER_EXCEPTION = 9;

    private static final int NONE = -1;

    private final Bridge bridge = new Bridge();
    private final Bridge trial = new Bridge();
    private final Bridge snapshot = new Bridge();
    private final History history = new History();
    private final Judge judge = new Judge();
    private final Text text = new Text();
    private final StringBuilder line = new StringBuilder();
    private boolean snapshotSaved = false;
    private int faultKept = NONE;
    private int deniedNumber = NOTHING;
    private int deniedDetail = 0;
    private int deniedCause = NOTHING;

    public JamBridge() {
    }

    // ---- spans

    public int addSpan(int length) throws IllegalArgumentException, UnsupportedOperationException {
        prepare(ADD_SPAN, length, 0);
        return bridge.appendSpan(length);
    }

    public int removeLastSpan() throws UnsupportedOperationException {
        prepare(REMOVE_SPAN, 0, 0);
        return bridge.dropLastSpan();
    }

    public int pour(int span, int jars)
            throws IndexOutOfBoundsException, IllegalArgumentException, UnsupportedOperationException {
        prepare(POUR, span, jars);
        return bridge.addJars(span, jars);
    }

    public int mend(int span, int cracks)
            throws IndexOutOfBoundsException, IllegalArgumentException, UnsupportedOperationException {
        prepare(MEND, span, cracks);
        return bridge.repair(span, cracks);
    }

    public int spanCount() {
        return bridge.spans;
    }

    public int jars(int span) throws IndexOutOfBoundsException {
        requireSpan(span);
        return bridge.jars[span];
    }

    public int age(int span) throws IndexOutOfBoundsException {
        requireSpan(span);
        return bridge.ages[span];
    }

    public int cracks(int span) throws IndexOutOfBoundsException {
        requireSpan(span);
        return bridge.cracks[span];
    }

    public int stress(int span) throws IndexOutOfBoundsException {
        requireSpan(span);
        return bridge.stresses[span];
    }

    public int strength(int span) throws IndexOutOfBoundsException {
        requireSpan(span);
        return bridge.strengthOf(span);
    }

    public int load(int span) throws IndexOutOfBoundsException {
        requireSpan(span);
        return bridge.loadOf(span);
    }

    public boolean isStrained(int span) throws IndexOutOfBoundsException {
        requireSpan(span);
        return bridge.strains(span);
    }

    public int hoursUntilBears(int span, int weight)
            throws IndexOutOfBoundsException, IllegalArgumentException, NoSuchElementException {
        requireSpan(span);
        requireWeight(weight);
        trial.copyFrom(bridge);
        for (int hours = 0; hours <= SETTING_HOURS; hours++) {
            if (trial.strengthOf(span) >= weight) {
                return hours;
            }
            trial.ages[span]++;
        }
        throw new NoSuchElementException("the span never bears this weight");
    }

    public int hoursUntilBearsByDivision(int span, int weight)
            throws IndexOutOfBoundsException, IllegalArgumentException, NoSuchElementException {
        requireSpan(span);
        requireWeight(weight);
        int jars = bridge.jars[span];
        int wholeTenths = TENTHS - bridge.cracks[span];
        if (jars < 1 || wholeTenths < 1) {
            throw new NoSuchElementException("the span never sets");
        }
        int setStrength = (weight * TENTHS + wholeTenths - 1) / wholeTenths;
        int age = (setStrength * bridge.lengths[span] + jars - 1) / jars;
        if (age > SETTING_HOURS) {
            throw new NoSuchElementException("the span never bears this weight");
        }
        return Math.max(0, age - bridge.ages[span]);
    }

    public int spanByStrength(int rank) throws NoSuchElementException {
        for (int span = 0; span < bridge.spans; span++) {
            if (bridge.rankOf(span) == rank) {
                return span;
            }
        }
        throw new NoSuchElementException("no such rank");
    }

    // ---- vehicles

    public int enter(int weight) throws IllegalArgumentException, UnsupportedOperationException {
        prepare(ENTER, weight, 0);
        return bridge.appendVehicle(weight);
    }

    public int pass(int hours) throws IllegalArgumentException {
        prepare(PASS, hours, 0);
        return bridge.letHoursPass(hours);
    }

    public int setRate(int rate) throws IllegalArgumentException, UnsupportedOperationException {
        prepare(SET_RATE, rate, 0);
        return bridge.replaceRate(rate);
    }

    public int vehicleCount() {
        return bridge.vehicles;
    }

    public int vehicleAt(int position) throws IndexOutOfBoundsException {
        if (position < 0 || position >= bridge.vehicles) {
            throw new IndexOutOfBoundsException("no such position");
        }
        return bridge.numbers[position];
    }

    public int weightOf(int vehicle) throws NoSuchElementException {
        return bridge.weights[requirePosition(vehicle)];
    }

    public int spanOf(int vehicle) throws NoSuchElementException {
        return bridge.places[requirePosition(vehicle)];
    }

    public int tollOf(int vehicle) throws NoSuchElementException {
        return bridge.tollAt(requirePosition(vehicle));
    }

    public int hoursUntilOver(int vehicle) throws NoSuchElementException {
        trial.copyFrom(bridge);
        for (int hours = 1; hours <= MOST_HOURS; hours++) {
            int position = trial.positionOf(vehicle);
            if (position == NONE) {
                throw new NoSuchElementException("not on the bridge, or it sinks");
            }
            if (trial.isOnLastSpan(position)) {
                return hours;
            }
            trial.letHoursPass(1);
        }
        throw new NoSuchElementException("it does not leave in time");
    }

    public int totalLoad() {
        int sum = 0;
        for (int span = 0; span < bridge.spans; span++) {
            sum += bridge.loadOf(span);
        }
        return sum;
    }

    public int totalLoadByVehicles() {
        int sum = 0;
        for (int position = 0; position < bridge.vehicles; position++) {
            sum += bridge.weights[position];
        }
        return sum;
    }

    public int greatestWeight() {
        if (bridge.spans == 0 || bridge.vehicles >= MOST_VEHICLES) {
            return 0;
        }
        return Math.max(0, Math.min(TOP_WEIGHT, bridge.strengthOf(0) - bridge.loadOf(0)));
    }

    // ---- accounts

    public int hour() {
        return bridge.hour;
    }

    public int rate() {
        return bridge.rate;
    }

    public int till() {
        return bridge.till;
    }

    public int paidTolls() {
        return bridge.paid;
    }

    public int crossed() {
        return bridge.crossed;
    }

    public int sunk() {
        return bridge.sunk;
    }

    public double meanStrength() throws ArithmeticException {
        if (bridge.spans == 0) {
            throw new ArithmeticException("no spans");
        }
        int sum = 0;
        for (int span = 0; span < bridge.spans; span++) {
            sum += bridge.strengthOf(span);
        }
        return (double) sum / (double) bridge.spans;
    }

    public float sunkShare() throws ArithmeticException {
        int gone = bridge.sunk + bridge.crossed;
        if (gone == 0) {
            throw new ArithmeticException("no vehicle has sunk or crossed");
        }
        return (float) bridge.sunk / (float) gone;
    }

    // ---- texts and output lines

    public int feed(char character) throws IllegalStateException {
        if (text.length >= MOST_SIGNS) {
            throw new IllegalStateException("the text buffer is full");
        }
        text.append(character);
        return text.length;
    }

    public int execute() throws IllegalArgumentException, UnsupportedOperationException {
        boolean matches = text.parse();
        text.length = 0;
        if (!matches) {
            faultKept = text.position;
            throw new IllegalArgumentException("the text does not match the grammar");
        }
        // The commands run on a copy, so that a failing one leaves nothing behind.
        trial.copyFrom(bridge);
        for (int index = 0; index < text.commands; index++) {
            int kind = text.kinds[index];
            if (!judge.allows(trial, kind, text.firsts[index], text.seconds[index])) {
                keepDenial(COMMAND_FAILED, index, Math.min(judge.reason, OTHER_EXCEPTION));
                throw new UnsupportedOperationException("a command failed");
            }
            trial.carryOut(kind, text.firsts[index], text.seconds[index]);
        }
        history.keep(bridge);
        bridge.copyFrom(trial);
        return text.commands;
    }

    public int faultPosition() throws NoSuchElementException {
        if (faultKept == NONE) {
            throw new NoSuchElementException("no fault position was kept yet");
        }
        return faultKept;
    }

    public int writeSpan(int span) throws IndexOutOfBoundsException {
        requireSpan(span);
        line.setLength(0);
        line.append(span).append(':').append(bridge.lengths[span]);
        line.append('j').append(bridge.jars[span]);
        line.append('h').append(bridge.ages[span]);
        line.append('=').append(bridge.strengthOf(span));
        for (int crack = 0; crack < bridge.cracks[span]; crack++) {
            line.append('/');
        }
        for (int position = 0; position < bridge.vehicles; position++) {
            if (bridge.places[position] == span) {
                line.append(' ').append(bridge.numbers[position]);
                line.append('w').append(bridge.weights[position]);
            }
        }
        return line.length();
    }

    public int writeBridge() {
        line.setLength(0);
        for (int span = 0; span < bridge.spans; span++) {
            if (span > 0) {
                line.append('|');
            }
            line.append(bridge.loadOf(span));
            if (bridge.strains(span)) {
                line.append('!');
            }
        }
        return line.length();
    }

    public char lineCharacter(int index) throws IndexOutOfBoundsException {
        if (index < 0 || index >= line.length()) {
            throw new IndexOutOfBoundsException("no such index in the line");
        }
        return line.charAt(index);
    }

    // ---- the latest denial

    public int denial() throws NoSuchElementException {
        requireDenial();
        return deniedNumber;
    }

    public int denialDetail() throws NoSuchElementException {
        requireDenial();
        return deniedDetail;
    }

    public int denialCause() throws NoSuchElementException {
        if (deniedCause == NOTHING) {
            throw new NoSuchElementException("nothing was denied yet, or the latest denial has no cause");
        }
        return deniedCause;
    }

    // ---- undo and snapshots

    public int undo() throws IllegalStateException {
        if (history.count == 0) {
            throw new IllegalStateException("no change can be undone");
        }
        history.giveBack(bridge);
        return history.count;
    }

    public int undoCount() {
        return history.count;
    }

    public int saveSnapshot() {
        snapshot.copyFrom(bridge);
        snapshotSaved = true;
        return bridge.spans;
    }

    public int restoreSnapshot() throws IllegalStateException {
        if (!snapshotSaved) {
            throw new IllegalStateException("there is no snapshot");
        }
        bridge.copyFrom(snapshot);
        history.count = 0;
        return bridge.spans;
    }

    // ---- what several calls share

    /** Refuses a change, or keeps the bridge as it is before it. */
    private void prepare(int kind, int first, int second) {
        boolean allowed = judge.allows(bridge, kind, first, second);
        if (!allowed && judge.reason == NO_SUCH_SPAN) {
            throw new IndexOutOfBoundsException("no such span");
        }
        if (!allowed && judge.reason == OUT_OF_RANGE) {
            throw new IllegalArgumentException("out of range");
        }
        if (!allowed) {
            keepDenial(judge.reason, judge.detail, NOTHING);
            throw new UnsupportedOperationException("denied");
        }
        history.keep(bridge);
    }

    private void keepDenial(int number, int detail, int cause) {
        deniedNumber = number;
        deniedDetail = detail;
        deniedCause = cause;
    }

    private void requireDenial() {
        if (deniedNumber == NOTHING) {
            throw new NoSuchElementException("nothing was denied yet");
        }
    }

    private void requireSpan(int span) {
        if (!bridge.hasSpan(span)) {
            throw new IndexOutOfBoundsException("no such span");
        }
    }

    private void requireWeight(int weight) {
        if (weight < 1 || weight > TOP_WEIGHT) {
            throw new IllegalArgumentException("the weight is out of range");
        }
    }

    private int requirePosition(int vehicle) {
        int position = bridge.positionOf(vehicle);
        if (position == NONE) {
            throw new NoSuchElementException("no such vehicle on the bridge");
        }
        return position;
    }

    /** Everything that changes can change. */
    private static final class Bridge {
        private int spans = 0;
        private final int[] lengths = new int[MOST_SPANS];
        private final int[] jars = new int[MOST_SPANS];
        private final int[] ages = new int[MOST_SPANS];
        private final int[] cracks = new int[MOST_SPANS];
        private final int[] stresses = new int[MOST_SPANS];
        private int vehicles = 0;
        private final int[] numbers = new int[MOST_VEHICLES];
        private final int[] weights = new int[MOST_VEHICLES];
        private final int[] places = new int[MOST_VEHICLES];
        private int nextNumber = 0;
        private int hour = 0;
        private int rate = FIRST_RATE;
        private int till = 0;
        private int paid = 0;
        private int crossed = 0;
        private int sunk = 0;

        void copyFrom(Bridge other) {
            spans = other.spans;
            System.arraycopy(other.lengths, 0, lengths, 0, MOST_SPANS);
            System.arraycopy(other.jars, 0, jars, 0, MOST_SPANS);
            System.arraycopy(other.ages, 0, ages, 0, MOST_SPANS);
            System.arraycopy(other.cracks, 0, cracks, 0, MOST_SPANS);
            System.arraycopy(other.stresses, 0, stresses, 0, MOST_SPANS);
            vehicles = other.vehicles;
            System.arraycopy(other.numbers, 0, numbers, 0, MOST_VEHICLES);
            System.arraycopy(other.weights, 0, weights, 0, MOST_VEHICLES);
            System.arraycopy(other.places, 0, places, 0, MOST_VEHICLES);
            nextNumber = other.nextNumber;
            hour = other.hour;
            rate = other.rate;
            till = other.till;
            paid = other.paid;
            crossed = other.crossed;
            sunk = other.sunk;
        }

        boolean hasSpan(int span) {
            return span >= 0 && span < spans && span < MOST_SPANS;
        }

        boolean hasPosition(int position) {
            return position >= 0 && position < vehicles && position < MOST_VEHICLES;
        }

        int strengthOf(int span) {
            if (!hasSpan(span) || lengths[span] < 1) {
                return 0;
            }
            int setStrength = jars[span] * Math.min(ages[span], SETTING_HOURS) / lengths[span];
            return setStrength * (TENTHS - cracks[span]) / TENTHS;
        }

        int loadOf(int span) {
            int sum = 0;
            for (int position = 0; position < vehicles; position++) {
                if (places[position] == span) {
                    sum += weights[position];
                }
            }
            return sum;
        }

        boolean strains(int span) {
            return loadOf(span) * 5 > strengthOf(span) * 4;
        }

        int rankOf(int span) {
            int rank = 0;
            for (int other = 0; other < spans; other++) {
                if (other != span && comesBefore(other, span)) {
                    rank++;
                }
            }
            return rank;
        }

        private boolean comesBefore(int span, int other) {
            if (!hasSpan(span) || !hasSpan(other)) {
                return false;
            }
            int strength = strengthOf(span);
            int otherStrength = strengthOf(other);
            if (strength != otherStrength) {
                return strength < otherStrength;
            }
            if (cracks[span] != cracks[other]) {
                return cracks[span] > cracks[other];
            }
            return span < other;
        }

        int positionOf(int vehicle) {
            for (int position = 0; position < vehicles; position++) {
                if (numbers[position] == vehicle) {
                    return position;
                }
            }
            return NONE;
        }

        boolean isOnLastSpan(int position) {
            return hasPosition(position) && places[position] == spans - 1;
        }

        int tollAt(int position) {
            return hasPosition(position) ? (weights[position] * rate + 9) / 10 : 0;
        }

        /** Makes a change that the judge has allowed. */
        void carryOut(int kind, int first, int second) {
            switch (kind) {
                case ADD_SPAN:
                    appendSpan(first);
                    break;
                case POUR:
                    addJars(first, second);
                    break;
                case ENTER:
                    appendVehicle(first);
                    break;
                case MEND:
                    repair(first, second);
                    break;
                case SET_RATE:
                    replaceRate(first);
                    break;
                case PASS:
                    letHoursPass(first);
                    break;
                default:
                    dropLastSpan();
            }
        }

        int appendSpan(int length) {
            int span = spans;
            if (span >= MOST_SPANS) {
                return NONE;
            }
            lengths[span] = length;
            jars[span] = 0;
            ages[span] = 0;
            cracks[span] = 0;
            stresses[span] = 0;
            spans = span + 1;
            return span;
        }

        int dropLastSpan() {
            int span = spans - 1;
            if (!hasSpan(span)) {
                return 0;
            }
            spans = span;
            return jars[span];
        }

        int addJars(int span, int added) {
            if (!hasSpan(span)) {
                return 0;
            }
            int before = jars[span];
            int after = before + added;
            if (after < 1) {
                return ages[span];
            }
            jars[span] = after;
            ages[span] = ages[span] * before / after;
            return ages[span];
        }

        int repair(int span, int mended) {
            if (hasSpan(span)) {
                cracks[span] -= mended;
                till -= mended * MEND_PRICE;
            }
            return till;
        }

        int replaceRate(int newRate) {
            int before = rate;
            rate = newRate;
            return before;
        }

        int appendVehicle(int weight) {
            int position = vehicles;
            if (position >= MOST_VEHICLES) {
                return NONE;
            }
            numbers[position] = nextNumber;
            weights[position] = weight;
            places[position] = 0;
            vehicles = position + 1;
            nextNumber++;
            return numbers[position];
        }

        private void removeVehicle(int removed) {
            if (!hasPosition(removed)) {
                return;
            }
            for (int position = removed; position + 1 < vehicles; position++) {
                numbers[position] = numbers[position + 1];
                weights[position] = weights[position + 1];
                places[position] = places[position + 1];
            }
            vehicles--;
        }

        int letHoursPass(int hours) {
            int crossedBefore = crossed;
            for (int passed = 0; passed < hours; passed++) {
                hour++;
                ageSpans();
                moveVehicles();
                stressSpans();
                if (hour % SPREAD_HOURS == 0) {
                    spreadCracks();
                }
                sinkVehicles();
            }
            return crossed - crossedBefore;
        }

        private void ageSpans() {
            for (int span = 0; span < spans; span++) {
                if (jars[span] > 0) {
                    ages[span]++;
                }
            }
        }

        private void moveVehicles() {
            int visits = vehicles;
            int position = 0;
            for (int visit = 0; visit < visits; visit++) {
                if (isOnLastSpan(position)) {
                    payToll(position);
                    // The next vehicle moves up to this position and is visited there.
                    removeVehicle(position);
                } else {
                    if (mayMove(position)) {
                        places[position]++;
                    }
                    position++;
                }
            }
        }

        private void payToll(int position) {
            int toll = tollAt(position);
            till += toll;
            paid += toll;
            crossed++;
        }

        private boolean mayMove(int position) {
            if (!hasPosition(position)) {
                return false;
            }
            int place = places[position];
            for (int lower = 0; lower < position; lower++) {
                if (places[lower] == place) {
                    return false;
                }
            }
            return loadOf(place + 1) + weights[position] <= strengthOf(place + 1);
        }

        private void stressSpans() {
            for (int span = 0; span < spans; span++) {
                stresses[span] = strains(span) ? stresses[span] + 1 : 0;
                if (stresses[span] == CRACKING_STRESS) {
                    stresses[span] = 0;
                    crack(span);
                }
            }
        }

        private void crack(int span) {
            if (hasSpan(span) && cracks[span] < MOST_CRACKS) {
                cracks[span]++;
            }
        }

        private void spreadCracks() {
            int left = 0;
            for (int span = 0; span < spans; span++) {
                int own = cracks[span];
                int right = hasSpan(span + 1) ? cracks[span + 1] : 0;
                int worst = Math.max(left, right);
                if (worst >= SPREADING_CRACKS && worst > own) {
                    crack(span);
                }
                // The next span looks at the cracks that were there before this step.
                left = own;
            }
        }

        private void sinkVehicles() {
            for (int span = 0; span < spans; span++) {
                int strength = strengthOf(span);
                for (int position = vehicles - 1; position >= 0 && loadOf(span) > strength; position--) {
                    if (places[position] == span) {
                        removeVehicle(position);
                        sunk++;
                    }
                }
            }
        }
    }

    /** Tells whether a change may be made and, if not, the reason that comes first. */
    private static final class Judge {
        private int reason = NOTHING;
        private int detail = 0;

        boolean allows(Bridge bridge, int kind, int first, int second) {
            reason = NOTHING;
            detail = 0;
            switch (kind) {
                case ADD_SPAN:
                    judgeNewSpan(bridge, first);
                    break;
                case POUR:
                    judgeJars(bridge, first, second);
                    break;
                case ENTER:
                    judgeVehicle(bridge, first);
                    break;
                case MEND:
                    judgeRepair(bridge, first, second);
                    break;
                case SET_RATE:
                    judgeRate(bridge, first);
                    break;
                case PASS:
                    judgeHours(first);
                    break;
                default:
                    judgeRemoval(bridge);
            }
            return reason == NOTHING;
        }

        private void because(int newReason, int newDetail) {
            reason = newReason;
            detail = newDetail;
        }

        private void judgeNewSpan(Bridge bridge, int length) {
            if (length < 1 || length > TOP_LENGTH) {
                because(OUT_OF_RANGE, 0);
            } else if (bridge.vehicles > 0) {
                because(VEHICLES_THERE, bridge.vehicles);
            } else if (bridge.spans >= MOST_SPANS) {
                because(LIMIT_REACHED, MOST_SPANS);
            }
        }

        private void judgeRemoval(Bridge bridge) {
            if (bridge.spans == 0) {
                because(NO_SPANS, bridge.hour);
            } else if (bridge.vehicles > 0) {
                because(VEHICLES_THERE, bridge.vehicles);
            }
        }

        private void judgeJars(Bridge bridge, int span, int jars) {
            if (!bridge.hasSpan(span)) {
                because(NO_SUCH_SPAN, 0);
            } else if (jars < 1 || jars > MOST_JARS) {
                because(OUT_OF_RANGE, 0);
            } else if (bridge.vehicles > 0) {
                because(VEHICLES_THERE, bridge.vehicles);
            } else if (bridge.jars[span] + jars > MOST_JARS) {
                because(LIMIT_REACHED, MOST_JARS);
            }
        }

        private void judgeRepair(Bridge bridge, int span, int cracks) {
            if (!bridge.hasSpan(span)) {
                because(NO_SUCH_SPAN, 0);
            } else if (cracks < 1 || cracks > MOST_CRACKS) {
                because(OUT_OF_RANGE, 0);
            } else if (bridge.cracks[span] < cracks) {
                because(FEWER_CRACKS, bridge.cracks[span]);
            } else if (bridge.till < cracks * MEND_PRICE) {
                because(TILL_TOO_LOW, bridge.till);
            }
        }

        private void judgeVehicle(Bridge bridge, int weight) {
            int spare = bridge.strengthOf(0) - bridge.loadOf(0);
            if (weight < 1 || weight > TOP_WEIGHT) {
                because(OUT_OF_RANGE, 0);
            } else if (bridge.spans == 0) {
                because(NO_SPANS, bridge.hour);
            } else if (bridge.vehicles >= MOST_VEHICLES) {
                because(LIMIT_REACHED, MOST_VEHICLES);
            } else if (weight > spare) {
                because(TOO_HEAVY, spare);
            }
        }

        private void judgeRate(Bridge bridge, int rate) {
            if (rate < 0 || rate > TOP_RATE) {
                because(OUT_OF_RANGE, 0);
            } else if (rate == bridge.rate) {
                because(PRESENT_VALUE, rate);
            }
        }

        private void judgeHours(int hours) {
            if (hours < 1 || hours > MOST_HOURS) {
                because(OUT_OF_RANGE, 0);
            }
        }
    }

    /** The bridge as it was before each of the latest changes. */
    private static final class History {
        private final Bridge[] states = new Bridge[MOST_CHANGES];
        private int newest = 0;
        private int count = 0;

        History() {
            for (int index = 0; index < MOST_CHANGES; index++) {
                states[index] = new Bridge();
            }
        }

        void keep(Bridge bridge) {
            newest = (newest + 1) % MOST_CHANGES;
            states[newest].copyFrom(bridge);
            count = Math.min(count + 1, MOST_CHANGES);
        }

        void giveBack(Bridge bridge) {
            if (count > 0) {
                bridge.copyFrom(states[newest]);
                newest = (newest + MOST_CHANGES - 1) % MOST_CHANGES;
                count--;
            }
        }
    }

    /** The text buffer, and the commands that were read from it. */
    private static final class Text {
        private static final char DIGIT = 'D';
        private static final char NUMBER = 'N';

        private final char[] signs = new char[MOST_SIGNS];
        private int length = 0;
        private int position = 0;
        private final int[] kinds = new int[MOST_SIGNS];
        private final int[] firsts = new int[MOST_SIGNS];
        private final int[] seconds = new int[MOST_SIGNS];
        private int commands = 0;

        void append(char sign) {
            if (length < MOST_SIGNS) {
                signs[length] = sign;
                length++;
            }
        }

        /** Reads the commands; where the text does not match, the position is the fault's. */
        boolean parse() {
            position = 0;
            commands = 0;
            boolean matches = readCommand();
            for (int read = 1; read < MOST_SIGNS && matches && position < length; read++) {
                matches = readSign(';') && readCommand();
            }
            return matches;
        }

        private boolean readCommand() {
            int kind = kindHere();
            if (kind == NONE || commands >= MOST_SIGNS) {
                return false;
            }
            kinds[commands] = kind;
            firsts[commands] = 0;
            seconds[commands] = 0;
            if (!readPattern(patternOf(kind))) {
                return false;
            }
            commands++;
            return true;
        }

        /** The kind of the command that begins here; each kind has a first sign of its own. */
        private int kindHere() {
            if (position >= length) {
                return NONE;
            }
            switch (signs[position]) {
                case 's':
                    return ADD_SPAN;
                case 'p':
                    return POUR;
                case 'e':
                    return ENTER;
                case 'm':
                    return MEND;
                case 'r':
                    return SET_RATE;
                case 'w':
                    return PASS;
                case 'c':
                    return REMOVE_SPAN;
                default:
                    return NONE;
            }
        }

        private static String patternOf(int kind) {
            switch (kind) {
                case ADD_SPAN:
                    return "span N";
                case POUR:
                    return "pour D N";
                case ENTER:
                    return "enter N";
                case MEND:
                    return "mend D D";
                case SET_RATE:
                    return "rate N";
                case PASS:
                    return "wait N";
                default:
                    return "cut";
            }
        }

        private boolean readPattern(String pattern) {
            int values = 0;
            for (int index = 0; index < pattern.length(); index++) {
                char wanted = pattern.charAt(index);
                if (wanted == DIGIT || wanted == NUMBER) {
                    int value = readValue(wanted == NUMBER ? 2 : 1);
                    if (value == NONE) {
                        return false;
                    }
                    putValue(values, value);
                    values++;
                } else if (!readSign(wanted)) {
                    return false;
                }
            }
            return true;
        }

        private void putValue(int index, int value) {
            if (commands >= MOST_SIGNS) {
                return;
            }
            if (index == 0) {
                firsts[commands] = value;
            } else {
                seconds[commands] = value;
            }
        }

        private int readValue(int mostDigits) {
            int value = NONE;
            for (int digit = 0; digit < mostDigits && isDigitHere(); digit++) {
                value = Math.max(value, 0) * 10 + (signs[position] - '0');
                position++;
            }
            return value;
        }

        private boolean isDigitHere() {
            return position < length && signs[position] >= '0' && signs[position] <= '9';
        }

        private boolean readSign(char wanted) {
            if (position >= length || signs[position] != wanted) {
                return false;
            }
            position++;
            return true;
        }
    }
}
