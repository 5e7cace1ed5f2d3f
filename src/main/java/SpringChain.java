import java.util.NoSuchElementException;

/**
 * A chain of masses and springs between two ends, in whole numbers and ticks.
 * What each call answers stands in the document as promises 1 to 24.
 */
public final class SpringChain {
    public static final int SYNTAX_ERROR = -2;
    public static final int OUT_OF_RANGE = -3;
    public static final int REPEATED = -4;
    public static final int TOO_MANY = -5;

    private static final int MOST_BYTES = 500;
    private static final int APPENDED_BYTES = 20;
    private static final int MOST_MASSES = 12;
    private static final int MOST_SPRINGS = MOST_MASSES + 1;
    private static final int MOST_WEIGHT = 99;
    private static final int MOST_STIFFNESS = 999;
    private static final int MOST_LIMIT = 99999;
    private static final int MOST_DAMPING = 999;
    private static final int MOST_IMPULSES = 16;
    private static final int MOST_TICK = 9999;
    private static final int MOST_IMPULSE = 9999;
    private static final int MOST_PATTERNS = 32;
    private static final int MOST_UNDONE = 8;
    private static final int MOST_PLUCKED = 10000;
    private static final int MOST_STRUCK = 100000;
    private static final int MOST_MOVED = 100000;
    private static final int MOST_DISPLACEMENT = 1000000;
    private static final int MOST_MOMENTUM = 100000000;
    private static final int MOST_FORETOLD = 200;
    private static final int MOST_PERIOD = 300;
    private static final int MOST_PASSED = 50;

    private static final int LAST_OF_STATE = 11;
    private static final int LAST_OF_ACCOUNT = 7;
    private static final int LAST_OF_MASS = 3;
    private static final int LAST_OF_SPRING = 4;
    private static final int LAST_OF_NOTED = 1;
    private static final int LAST_OF_WAITING = 2;
    private static final int LAST_OF_FORETOLD = 4;

    private final byte[] buffer;
    private final SetupReader reader;
    private final Chain chain;
    // Setup texts are read into it and what is foretold happens in it, so that no call makes objects.
    private final Chain draft;
    private final History history;
    private int buffered;
    private int errorAt;

    public SpringChain() {
        buffer = new byte[MOST_BYTES];
        reader = new SetupReader();
        chain = new Chain();
        draft = new Chain();
        history = new History();
        buffered = 0;
        errorAt = -1;
    }

    public int append(int w0, int w1, int w2, int w3, int w4) {
        if (buffered > MOST_BYTES - APPENDED_BYTES) {
            return -1;
        }
        appendWord(w0);
        appendWord(w1);
        appendWord(w2);
        appendWord(w3);
        appendWord(w4);
        return buffered;
    }

    public int load(int length) throws IllegalArgumentException {
        requireWithin(length, 0, buffered);
        boolean isRead = reader.readSetup(buffer, length, draft);
        buffered = 0;
        errorAt = reader.errorAt;
        if (!isRead) {
            return reader.errorCode;
        }
        history.keep(chain);
        chain.become(draft);
        return chain.masses;
    }

    public int errorOffset() {
        return errorAt;
    }

    public int state(int what) throws IllegalArgumentException {
        requireWithin(what, 0, LAST_OF_STATE);
        return chain.tellState(what);
    }

    public long account(int what) throws IllegalArgumentException {
        requireWithin(what, 0, LAST_OF_ACCOUNT);
        return chain.tellAccount(what);
    }

    public int mass(int mass, int what) throws IndexOutOfBoundsException, IllegalArgumentException {
        requireMass(mass);
        requireWithin(what, 0, LAST_OF_MASS);
        return chain.tellMass(mass, what);
    }

    public int spring(int spring, int what) throws IndexOutOfBoundsException, IllegalArgumentException {
        requireSpring(spring);
        requireWithin(what, 0, LAST_OF_SPRING);
        return chain.tellSpring(spring, what);
    }

    public int noted(int k, int what) throws NoSuchElementException, IllegalArgumentException {
        requireElement(k, chain.patterns.count);
        requireWithin(what, 0, LAST_OF_NOTED);
        return chain.patterns.tell(k, what);
    }

    public int waiting(int k, int what) throws NoSuchElementException, IllegalArgumentException {
        requireElement(k, chain.impulses.count);
        requireWithin(what, 0, LAST_OF_WAITING);
        return chain.impulses.tell(k, what);
    }

    public int foretold(int ticks, int mass, int what) throws IndexOutOfBoundsException, IllegalArgumentException {
        requireMass(mass);
        requireWithin(ticks, 1, MOST_FORETOLD);
        requireWithin(what, 0, LAST_OF_FORETOLD);
        draft.become(chain);
        int greatest = 0;
        for (int passed = 0; passed < ticks; passed++) {
            draft.tick();
            greatest = Math.max(greatest, Math.abs(draft.displacementOf(mass)));
        }
        switch (what) {
            case 0:
                return draft.displacementOf(mass);
            case 1:
                return draft.momentumOf(mass);
            case 2:
                return greatest;
            case 3:
                return draft.countBroken();
            default:
                return draft.countNodes();
        }
    }

    public int period(int mass, int limit) throws IndexOutOfBoundsException, IllegalArgumentException {
        requireMass(mass);
        requireWithin(limit, 1, MOST_PERIOD);
        draft.become(chain);
        int firstRise = 0;
        for (int passed = 1; passed <= limit; passed++) {
            boolean wasLow = draft.displacementOf(mass) <= 0;
            draft.tick();
            if (wasLow && draft.displacementOf(mass) > 0) {
                if (firstRise > 0) {
                    return passed - firstRise;
                }
                firstRise = passed;
            }
        }
        return -1;
    }

    public int breaksIn(int limit) throws IllegalArgumentException {
        requireWithin(limit, 1, MOST_FORETOLD);
        draft.become(chain);
        for (int passed = 1; passed <= limit; passed++) {
            if (draft.tick() > 0) {
                return passed;
            }
        }
        return -1;
    }

    public int pieces() {
        return chain.countPieces();
    }

    public double centre() {
        return chain.centreOfWeights();
    }

    public int pass(int ticks) throws IllegalArgumentException {
        requireWithin(ticks, 1, MOST_PASSED);
        history.keep(chain);
        int broke = 0;
        for (int passed = 0; passed < ticks; passed++) {
            broke += chain.tick();
        }
        return broke;
    }

    public int pluck(int mass, int displacement) throws IndexOutOfBoundsException, IllegalArgumentException {
        requireMass(mass);
        requireWithin(displacement, -MOST_PLUCKED, MOST_PLUCKED);
        history.keep(chain);
        int before = chain.displacementOf(mass);
        chain.displace(mass, displacement);
        return before;
    }

    public int strike(int mass, int strength) throws IndexOutOfBoundsException, IllegalArgumentException {
        requireMass(mass);
        requireWithin(strength, -MOST_STRUCK, MOST_STRUCK);
        history.keep(chain);
        chain.hit(mass, strength);
        return chain.momentumOf(mass);
    }

    public int impulse(int tick, int mass, int strength)
            throws IndexOutOfBoundsException, IllegalArgumentException, IllegalStateException {
        requireMass(mass);
        requireWithin(tick, chain.time, MOST_TICK);
        requireWithin(strength, -MOST_IMPULSE, MOST_IMPULSE);
        if (strength == 0) {
            throw new IllegalArgumentException("an impulse of strength 0");
        }
        if (chain.impulses.count >= MOST_IMPULSES) {
            throw new IllegalStateException("16 impulses wait");
        }
        history.keep(chain);
        chain.impulses.insert(tick, mass, strength);
        return chain.impulses.count;
    }

    public int stiffen(int spring, int stiffness) throws IndexOutOfBoundsException, IllegalArgumentException {
        requireSpring(spring);
        requireWithin(stiffness, 0, MOST_STIFFNESS);
        history.keep(chain);
        int before = chain.stiffnessOf(spring);
        chain.setStiffness(spring, stiffness);
        return before;
    }

    public int mend(int spring) throws IndexOutOfBoundsException, IllegalStateException {
        requireSpring(spring);
        if (!chain.isBroken(spring)) {
            throw new IllegalStateException("the spring is whole");
        }
        history.keep(chain);
        chain.setBroken(spring, false);
        return chain.countBroken();
    }

    public int move(boolean isRight, int displacement) throws IllegalArgumentException {
        requireWithin(displacement, -MOST_MOVED, MOST_MOVED);
        history.keep(chain);
        int before = isRight ? chain.rightEnd : chain.leftEnd;
        chain.setEnd(isRight, displacement);
        return before;
    }

    public int undo() {
        if (history.count == 0) {
            return -1;
        }
        history.takeBack(chain);
        return history.count;
    }

    public long checksum() {
        long sum = 0;
        for (int what = 0; what <= LAST_OF_STATE; what++) {
            sum = 31 * sum + chain.tellState(what);
        }
        for (int what = 0; what <= LAST_OF_ACCOUNT; what++) {
            sum = 31 * sum + chain.tellAccount(what);
        }
        for (int mass = 0; mass < chain.masses; mass++) {
            for (int what = 0; what <= LAST_OF_MASS; what++) {
                sum = 31 * sum + chain.tellMass(mass, what);
            }
        }
        for (int spring = 0; spring <= chain.masses; spring++) {
            for (int what = 0; what <= LAST_OF_SPRING; what++) {
                sum = 31 * sum + chain.tellSpring(spring, what);
            }
        }
        for (int k = 0; k < chain.patterns.count; k++) {
            for (int what = 0; what <= LAST_OF_NOTED; what++) {
                sum = 31 * sum + chain.patterns.tell(k, what);
            }
        }
        return sum;
    }

    private void appendWord(int word) {
        for (int shift = 24; shift >= 0; shift -= 8) {
            if (buffered >= 0 && buffered < buffer.length) {
                buffer[buffered] = (byte) (word >> shift);
                buffered++;
            }
        }
    }

    private void requireMass(int mass) throws IndexOutOfBoundsException {
        if (mass < 0 || mass >= chain.masses) {
            throw new IndexOutOfBoundsException("no such mass");
        }
    }

    private void requireSpring(int spring) throws IndexOutOfBoundsException {
        if (spring < 0 || spring > chain.masses) {
            throw new IndexOutOfBoundsException("no such spring");
        }
    }

    private static void requireElement(int k, int count) throws NoSuchElementException {
        if (k < 0 || k >= count) {
            throw new NoSuchElementException("there are not so many");
        }
    }

    private static void requireWithin(int number, int least, int most) throws IllegalArgumentException {
        if (number < least || number > most) {
            throw new IllegalArgumentException("a number out of range");
        }
    }

    private static int limited(long number, int bound) {
        return (int) Math.max(-bound, Math.min(bound, number));
    }

    /** All data that a change replaces and that an undo brings back. */
    private static final class Chain {
        // Always 1 to MOST_MASSES, so that what counts up to it stays inside the rows.
        int masses;
        int time;
        int damping;
        int leftEnd;
        int rightEnd;
        final Ledger ledger;
        final Impulses impulses;
        final Patterns patterns;
        private final int[] weights;
        private final int[] displacements;
        private final int[] momenta;
        private final int[] stiffnesses;
        private final int[] limits;
        private final boolean[] broken;

        Chain() {
            weights = new int[MOST_MASSES];
            displacements = new int[MOST_MASSES];
            momenta = new int[MOST_MASSES];
            stiffnesses = new int[MOST_SPRINGS];
            limits = new int[MOST_SPRINGS];
            broken = new boolean[MOST_SPRINGS];
            ledger = new Ledger();
            impulses = new Impulses();
            patterns = new Patterns();
            begin(1);
        }

        /** Becomes as by the text "chain n;". */
        void begin(int n) {
            masses = Math.max(1, Math.min(MOST_MASSES, n));
            time = 0;
            damping = 0;
            leftEnd = 0;
            rightEnd = 0;
            for (int mass = 0; mass < MOST_MASSES; mass++) {
                weights[mass] = 10;
                displacements[mass] = 0;
                momenta[mass] = 0;
            }
            for (int spring = 0; spring < MOST_SPRINGS; spring++) {
                stiffnesses[spring] = 100;
                limits[spring] = 0;
                broken[spring] = false;
            }
            ledger.clear();
            impulses.count = 0;
            patterns.count = 0;
        }

        void become(Chain other) {
            masses = other.masses;
            time = other.time;
            damping = other.damping;
            leftEnd = other.leftEnd;
            rightEnd = other.rightEnd;
            for (int mass = 0; mass < MOST_MASSES; mass++) {
                weights[mass] = other.weights[mass];
                displacements[mass] = other.displacements[mass];
                momenta[mass] = other.momenta[mass];
            }
            for (int spring = 0; spring < MOST_SPRINGS; spring++) {
                stiffnesses[spring] = other.stiffnesses[spring];
                limits[spring] = other.limits[spring];
                broken[spring] = other.broken[spring];
            }
            ledger.become(other.ledger);
            impulses.become(other.impulses);
            patterns.become(other.patterns);
        }

        boolean hasMass(int mass) {
            return mass >= 0 && mass < masses && mass < MOST_MASSES;
        }

        boolean hasSpring(int spring) {
            return spring >= 0 && spring <= masses && spring < MOST_SPRINGS;
        }

        int weightOf(int mass) {
            return hasMass(mass) ? weights[mass] : 0;
        }

        int displacementOf(int mass) {
            return hasMass(mass) ? displacements[mass] : 0;
        }

        int momentumOf(int mass) {
            return hasMass(mass) ? momenta[mass] : 0;
        }

        int velocityOf(int mass) {
            int weight = weightOf(mass);
            return weight == 0 ? 0 : momentumOf(mass) / weight;
        }

        int stiffnessOf(int spring) {
            return hasSpring(spring) ? stiffnesses[spring] : 0;
        }

        int limitOf(int spring) {
            return hasSpring(spring) ? limits[spring] : 0;
        }

        boolean isBroken(int spring) {
            return hasSpring(spring) && broken[spring];
        }

        int stretchOf(int spring) {
            int onLeft = spring <= 0 ? leftEnd : displacementOf(spring - 1);
            int onRight = spring >= masses ? rightEnd : displacementOf(spring);
            return onRight - onLeft;
        }

        int pullOf(int spring) {
            return isBroken(spring) ? 0 : (int) ((long) stiffnessOf(spring) * stretchOf(spring) / 100);
        }

        long energyOfMass(int mass) {
            long weight = weightOf(mass);
            long momentum = momentumOf(mass);
            return weight == 0 ? 0 : momentum * momentum / (2 * weight);
        }

        long energyOfSpring(int spring) {
            long stretch = stretchOf(spring);
            return isBroken(spring) ? 0 : stiffnessOf(spring) * stretch * stretch / 200;
        }

        void setWeight(int mass, int weight) {
            if (hasMass(mass)) {
                weights[mass] = weight;
            }
        }

        void setAllWeights(int weight) {
            for (int mass = 0; mass < MOST_MASSES; mass++) {
                weights[mass] = weight;
            }
        }

        void setStiffness(int spring, int stiffness) {
            if (hasSpring(spring)) {
                stiffnesses[spring] = stiffness;
            }
        }

        void setAllStiffnesses(int stiffness) {
            for (int spring = 0; spring < MOST_SPRINGS; spring++) {
                stiffnesses[spring] = stiffness;
            }
        }

        void setLimit(int spring, int limit) {
            if (hasSpring(spring)) {
                limits[spring] = limit;
            }
        }

        void setBroken(int spring, boolean isBroken) {
            if (hasSpring(spring)) {
                broken[spring] = isBroken;
            }
        }

        void setEnd(boolean isRight, int displacement) {
            if (isRight) {
                rightEnd = displacement;
            } else {
                leftEnd = displacement;
            }
        }

        void displace(int mass, int displacement) {
            if (hasMass(mass)) {
                displacements[mass] = displacement;
            }
        }

        private void putMomentum(int mass, int momentum) {
            if (hasMass(mass)) {
                momenta[mass] = momentum;
            }
        }

        /** A strike: only what the limited momentum gained counts as given. */
        void hit(int mass, int strength) {
            int before = momentumOf(mass);
            putMomentum(mass, limited((long) before + strength, MOST_MOMENTUM));
            ledger.given += momentumOf(mass) - before;
        }

        /** Does one tick, in the document's order, and returns how many springs broke in it. */
        int tick() {
            takePulls();
            giveImpulses();
            dampMomenta();
            limitMomenta();
            shiftMasses();
            int broke = breakSprings();
            patterns.note(patternNumber());
            time++;
            return broke;
        }

        // Pulls go by displacements alone, so that no momentum that changes here changes one of them.
        private void takePulls() {
            for (int mass = 0; mass < masses; mass++) {
                putMomentum(mass, momentumOf(mass) + pullOf(mass + 1) - pullOf(mass));
            }
            ledger.byLeftEnd -= pullOf(0);
            ledger.byRightEnd += pullOf(masses);
        }

        private void giveImpulses() {
            int due = impulses.countOfTick(time);
            for (int k = 0; k < due; k++) {
                int mass = impulses.massOf(k);
                putMomentum(mass, momentumOf(mass) + impulses.strengthOf(k));
                ledger.given += impulses.strengthOf(k);
            }
            impulses.dropFirst(due);
        }

        private void dampMomenta() {
            for (int mass = 0; mass < masses; mass++) {
                int taken = (int) ((long) momentumOf(mass) * damping / 1000);
                putMomentum(mass, momentumOf(mass) - taken);
                ledger.damped += taken;
            }
        }

        private void limitMomenta() {
            for (int mass = 0; mass < masses; mass++) {
                int before = momentumOf(mass);
                putMomentum(mass, limited(before, MOST_MOMENTUM));
                ledger.lost += before - momentumOf(mass);
            }
        }

        private void shiftMasses() {
            for (int mass = 0; mass < masses; mass++) {
                displace(mass, limited((long) displacementOf(mass) + velocityOf(mass), MOST_DISPLACEMENT));
            }
        }

        private int breakSprings() {
            int broke = 0;
            for (int spring = 0; spring <= masses; spring++) {
                if (!isBroken(spring) && isOverstretched(spring)) {
                    setBroken(spring, true);
                    broke++;
                }
            }
            return broke;
        }

        private boolean isOverstretched(int spring) {
            int limit = limitOf(spring);
            return limit != 0 && Math.abs(stretchOf(spring)) > limit;
        }

        int tellState(int what) {
            switch (what) {
                case 0:
                    return time;
                case 1:
                    return masses;
                case 2:
                    return countBroken();
                case 3:
                    return leftEnd;
                case 4:
                    return rightEnd;
                case 5:
                    return damping;
                case 6:
                    return impulses.count;
                case 7:
                    return patternNumber();
                case 8:
                    return countNodes();
                case 9:
                    return patterns.count;
                case 10:
                    return countResting();
                default:
                    return farthestMass();
            }
        }

        long tellAccount(int what) {
            switch (what) {
                case 0:
                    return sumOfMomenta();
                case 1:
                    return ledger.byLeftEnd;
                case 2:
                    return ledger.byRightEnd;
                case 3:
                    return ledger.given;
                case 4:
                    return ledger.damped;
                case 5:
                    return ledger.lost;
                case 6:
                    return energyOfMasses();
                default:
                    return energyOfSprings();
            }
        }

        int tellMass(int mass, int what) {
            switch (what) {
                case 0:
                    return weightOf(mass);
                case 1:
                    return displacementOf(mass);
                case 2:
                    return momentumOf(mass);
                default:
                    return velocityOf(mass);
            }
        }

        int tellSpring(int spring, int what) {
            switch (what) {
                case 0:
                    return stiffnessOf(spring);
                case 1:
                    return limitOf(spring);
                case 2:
                    return isBroken(spring) ? 1 : 0;
                case 3:
                    return stretchOf(spring);
                default:
                    return pullOf(spring);
            }
        }

        int countBroken() {
            int count = 0;
            for (int spring = 0; spring <= masses; spring++) {
                count += isBroken(spring) ? 1 : 0;
            }
            return count;
        }

        private int signOf(int mass) {
            int displacement = displacementOf(mass);
            return displacement > 0 ? 1 : displacement < 0 ? -1 : 0;
        }

        int patternNumber() {
            int number = 0;
            for (int mass = masses - 1; mass >= 0; mass--) {
                int sign = signOf(mass);
                number = 3 * number + (sign < 0 ? 2 : sign);
            }
            return number;
        }

        int countNodes() {
            int nodes = 0;
            int latestSign = 0;
            for (int mass = 0; mass < masses; mass++) {
                int sign = signOf(mass);
                if (sign != 0) {
                    nodes += latestSign == -sign ? 1 : 0;
                    latestSign = sign;
                }
            }
            return nodes;
        }

        private int countResting() {
            int count = 0;
            for (int mass = 0; mass < masses; mass++) {
                count += momentumOf(mass) == 0 ? 1 : 0;
            }
            return count;
        }

        private int farthestMass() {
            int farthest = 0;
            for (int mass = 1; mass < masses; mass++) {
                if (Math.abs(displacementOf(mass)) > Math.abs(displacementOf(farthest))) {
                    farthest = mass;
                }
            }
            return farthest;
        }

        private long sumOfMomenta() {
            long sum = 0;
            for (int mass = 0; mass < masses; mass++) {
                sum += momentumOf(mass);
            }
            return sum;
        }

        private long energyOfMasses() {
            long sum = 0;
            for (int mass = 0; mass < masses; mass++) {
                sum += energyOfMass(mass);
            }
            return sum;
        }

        private long energyOfSprings() {
            long sum = 0;
            for (int spring = 0; spring <= masses; spring++) {
                sum += energyOfSpring(spring);
            }
            return sum;
        }

        // The springs at the ends join no two masses, so they part no pieces.
        int countPieces() {
            int count = 1;
            for (int spring = 1; spring < masses; spring++) {
                count += isBroken(spring) || stiffnessOf(spring) == 0 ? 1 : 0;
            }
            return count;
        }

        double centreOfWeights() {
            long moments = 0;
            long weight = 0;
            for (int mass = 0; mass < masses; mass++) {
                moments += (long) weightOf(mass) * displacementOf(mass);
                weight += weightOf(mass);
            }
            return weight == 0 ? 0.0 : (double) moments / (double) weight;
        }
    }

    /** What came into the momenta and what went out of them since the latest load. */
    private static final class Ledger {
        long byLeftEnd;
        long byRightEnd;
        long given;
        long damped;
        long lost;

        void clear() {
            byLeftEnd = 0;
            byRightEnd = 0;
            given = 0;
            damped = 0;
            lost = 0;
        }

        void become(Ledger other) {
            byLeftEnd = other.byLeftEnd;
            byRightEnd = other.byRightEnd;
            given = other.given;
            damped = other.damped;
            lost = other.lost;
        }
    }

    /** The impulses that wait, always in the order in which they are told. */
    private static final class Impulses {
        int count;
        private final int[] ticks;
        private final int[] receivers;
        private final int[] strengths;

        Impulses() {
            ticks = new int[MOST_IMPULSES];
            receivers = new int[MOST_IMPULSES];
            strengths = new int[MOST_IMPULSES];
            count = 0;
        }

        void become(Impulses other) {
            count = other.count;
            for (int k = 0; k < MOST_IMPULSES; k++) {
                put(k, other.ticks[k], other.receivers[k], other.strengths[k]);
            }
        }

        private void put(int k, int tick, int mass, int strength) {
            if (k >= 0 && k < MOST_IMPULSES) {
                ticks[k] = tick;
                receivers[k] = mass;
                strengths[k] = strength;
            }
        }

        int tickOf(int k) {
            return k >= 0 && k < MOST_IMPULSES ? ticks[k] : 0;
        }

        int massOf(int k) {
            return k >= 0 && k < MOST_IMPULSES ? receivers[k] : 0;
        }

        int strengthOf(int k) {
            return k >= 0 && k < MOST_IMPULSES ? strengths[k] : 0;
        }

        int tell(int k, int what) {
            switch (what) {
                case 0:
                    return tickOf(k);
                case 1:
                    return massOf(k);
                default:
                    return strengthOf(k);
            }
        }

        // It goes behind its equals, so that these stay in the order in which they were told.
        void insert(int tick, int mass, int strength) {
            if (count >= MOST_IMPULSES) {
                return;
            }
            int place = count;
            while (place > 0 && isLater(place - 1, tick, mass)) {
                put(place, tickOf(place - 1), massOf(place - 1), strengthOf(place - 1));
                place--;
            }
            put(place, tick, mass, strength);
            count++;
        }

        private boolean isLater(int k, int tick, int mass) {
            return tickOf(k) > tick || tickOf(k) == tick && massOf(k) > mass;
        }

        /** How many are of this tick, if none is of an earlier one. */
        int countOfTick(int tick) {
            int due = 0;
            while (due < count && tickOf(due) == tick) {
                due++;
            }
            return due;
        }

        void dropFirst(int dropped) {
            for (int k = dropped; k < count; k++) {
                put(k - dropped, tickOf(k), massOf(k), strengthOf(k));
            }
            count -= dropped;
        }
    }

    /** The different patterns that are kept, in the order in which they were noted first. */
    private static final class Patterns {
        int count;
        private final int[] numbers;
        private final int[] times;

        Patterns() {
            numbers = new int[MOST_PATTERNS];
            times = new int[MOST_PATTERNS];
            count = 0;
        }

        void become(Patterns other) {
            count = other.count;
            for (int k = 0; k < MOST_PATTERNS; k++) {
                numbers[k] = other.numbers[k];
                times[k] = other.times[k];
            }
        }

        void note(int number) {
            for (int k = 0; k < MOST_PATTERNS; k++) {
                if (k >= count) {
                    numbers[k] = number;
                    times[k] = 1;
                    count++;
                    return;
                }
                if (numbers[k] == number) {
                    times[k]++;
                    return;
                }
            }
        }

        int tell(int k, int what) {
            if (k < 0 || k >= MOST_PATTERNS) {
                return 0;
            }
            return what == 0 ? numbers[k] : times[k];
        }
    }

    /** The chain as it was ahead of each change that can be undone; the oldest gives way to a ninth. */
    private static final class History {
        int count;
        private int next;
        private final Chain[] kept;

        History() {
            kept = new Chain[MOST_UNDONE];
            for (int k = 0; k < MOST_UNDONE; k++) {
                kept[k] = new Chain();
            }
            count = 0;
            next = 0;
        }

        void keep(Chain chain) {
            Chain place = placeAt(next);
            if (place != null) {
                place.become(chain);
                next = next + 1 < MOST_UNDONE ? next + 1 : 0;
                count = Math.min(MOST_UNDONE, count + 1);
            }
        }

        void takeBack(Chain chain) {
            int latest = next > 0 ? next - 1 : MOST_UNDONE - 1;
            Chain place = placeAt(latest);
            if (place != null && count > 0) {
                chain.become(place);
                next = latest;
                count--;
            }
        }

        private Chain placeAt(int k) {
            return k >= 0 && k < kept.length ? kept[k] : null;
        }
    }

    /**
     * Reads a setup text into a chain. It reads from left to right and stops at the first error;
     * a mistake in a number or a statement is looked for ahead of the token behind it, so that
     * the error that is found has the smallest offset.
     */
    private static final class SetupReader {
        // Any number from here on is out of every range, so its further digits do not matter.
        private static final int HUGE = 10000000;
        private static final int END = -1;

        int errorCode;
        int errorAt;
        private byte[] text;
        private int length;
        private int position;
        private int number;
        private Chain target;
        private boolean isDampTold;
        private final boolean[] plucked;
        private final boolean[] struck;

        SetupReader() {
            plucked = new boolean[MOST_MASSES];
            struck = new boolean[MOST_MASSES];
            errorAt = -1;
        }

        /** Returns whether the text has no error; otherwise errorCode and errorAt tell the first. */
        boolean readSetup(byte[] from, int size, Chain into) {
            text = from;
            length = from == null ? 0 : Math.min(size, from.length);
            target = into;
            position = 0;
            errorCode = 0;
            errorAt = -1;
            isDampTold = false;
            for (int mass = 0; mass < MOST_MASSES; mass++) {
                plucked[mass] = false;
                struck[mass] = false;
            }
            if (target == null || !readHead()) {
                return false;
            }
            for (int statements = 0; statements < MOST_BYTES && !isAtEnd(); statements++) {
                if (!readStatement() || !readSign(';')) {
                    return false;
                }
            }
            return true;
        }

        private boolean isAtEnd() {
            skipSpaces();
            return position >= length;
        }

        private boolean readHead() {
            if (!takeWord("chain")) {
                return fail(SYNTAX_ERROR, position);
            }
            if (!readNumber(1, MOST_MASSES)) {
                return false;
            }
            target.begin(number);
            return readSign(';');
        }

        private boolean readStatement() {
            int start = position;
            if (takeWord("mass")) {
                return readWeight();
            }
            if (takeWord("masses")) {
                return readAllWeights();
            }
            if (takeWord("spring")) {
                return readSpring();
            }
            if (takeWord("springs")) {
                return readAllStiffnesses();
            }
            if (takeWord("damp")) {
                return readDamping(start);
            }
            if (takeWord("pluck")) {
                return readPluck();
            }
            if (takeWord("strike")) {
                return readStrike();
            }
            if (takeWord("end")) {
                return readEnd();
            }
            if (takeWord("impulse")) {
                return readImpulse(start);
            }
            return fail(SYNTAX_ERROR, start);
        }

        private boolean readWeight() {
            if (!readNumber(0, target.masses - 1)) {
                return false;
            }
            int mass = number;
            if (!readNumber(1, MOST_WEIGHT)) {
                return false;
            }
            target.setWeight(mass, number);
            return true;
        }

        private boolean readAllWeights() {
            if (!readNumber(1, MOST_WEIGHT)) {
                return false;
            }
            target.setAllWeights(number);
            return true;
        }

        private boolean readSpring() {
            if (!readNumber(0, target.masses)) {
                return false;
            }
            int spring = number;
            if (!readNumber(0, MOST_STIFFNESS)) {
                return false;
            }
            target.setStiffness(spring, number);
            target.setLimit(spring, 0);
            if (takeWord("limit")) {
                if (!readNumber(0, MOST_LIMIT)) {
                    return false;
                }
                target.setLimit(spring, number);
            }
            return true;
        }

        private boolean readAllStiffnesses() {
            if (!readNumber(0, MOST_STIFFNESS)) {
                return false;
            }
            target.setAllStiffnesses(number);
            return true;
        }

        private boolean readDamping(int start) {
            if (isDampTold) {
                return fail(SYNTAX_ERROR, start);
            }
            isDampTold = true;
            if (!readNumber(0, MOST_DAMPING)) {
                return false;
            }
            target.damping = number;
            return true;
        }

        private boolean readPluck() {
            skipSpaces();
            int massAt = position;
            if (!readNumber(0, target.masses - 1) || !isFirst(plucked, massAt)) {
                return false;
            }
            int mass = number;
            if (!readSigned(MOST_PLUCKED)) {
                return false;
            }
            target.displace(mass, number);
            return true;
        }

        private boolean readStrike() {
            skipSpaces();
            int massAt = position;
            if (!readNumber(0, target.masses - 1) || !isFirst(struck, massAt)) {
                return false;
            }
            int mass = number;
            if (!readSigned(MOST_STRUCK)) {
                return false;
            }
            target.hit(mass, number);
            return true;
        }

        private boolean readEnd() {
            boolean isRight = takeWord("right");
            if (!isRight && !takeWord("left")) {
                return fail(SYNTAX_ERROR, position);
            }
            if (!readSigned(MOST_MOVED)) {
                return false;
            }
            target.setEnd(isRight, number);
            return true;
        }

        private boolean readImpulse(int start) {
            if (target.impulses.count >= MOST_IMPULSES) {
                return fail(TOO_MANY, start);
            }
            if (!readNumber(0, MOST_TICK)) {
                return false;
            }
            int tick = number;
            if (!readNumber(0, target.masses - 1)) {
                return false;
            }
            int mass = number;
            skipSpaces();
            int strengthAt = position;
            if (!readSigned(MOST_IMPULSE)) {
                return false;
            }
            if (number == 0) {
                return fail(OUT_OF_RANGE, strengthAt);
            }
            target.impulses.insert(tick, mass, number);
            return true;
        }

        /** Notes the mass that was read as told; it is an error if it was told already. */
        private boolean isFirst(boolean[] told, int massAt) {
            if (number < 0 || number >= told.length) {
                return false;
            }
            if (told[number]) {
                return fail(REPEATED, massAt);
            }
            told[number] = true;
            return true;
        }

        private boolean readNumber(int least, int most) {
            skipSpaces();
            int start = position;
            return readDigits() && checkRange(least, most, start);
        }

        private boolean readSigned(int most) {
            skipSpaces();
            int start = position;
            boolean isNegative = byteAt(position) == '-';
            if (isNegative) {
                position++;
                skipSpaces();
            }
            if (!readDigits()) {
                return false;
            }
            if (isNegative) {
                number = -number;
            }
            return checkRange(-most, most, start);
        }

        private boolean checkRange(int least, int most, int start) {
            return number >= least && number <= most || fail(OUT_OF_RANGE, start);
        }

        private boolean readDigits() {
            int start = position;
            number = 0;
            while (position < length && isDigit(byteAt(position))) {
                if (number < HUGE) {
                    number = 10 * number + (byteAt(position) - '0');
                }
                position++;
            }
            return position > start || fail(SYNTAX_ERROR, start);
        }

        private boolean readSign(char sign) {
            skipSpaces();
            if (byteAt(position) != sign) {
                return fail(SYNTAX_ERROR, position);
            }
            position++;
            return true;
        }

        /** Goes behind the next token if it is this word; otherwise only ahead of that token. */
        private boolean takeWord(String word) {
            skipSpaces();
            for (int k = 0; k < word.length(); k++) {
                if (byteAt(position + k) != word.charAt(k)) {
                    return false;
                }
            }
            if (isLetter(byteAt(position + word.length()))) {
                return false;
            }
            position += word.length();
            return true;
        }

        private void skipSpaces() {
            while (position < length && byteAt(position) == ' ') {
                position++;
            }
        }

        private int byteAt(int offset) {
            if (text == null || offset < 0 || offset >= length || offset >= text.length) {
                return END;
            }
            return text[offset] & 255;
        }

        private static boolean isDigit(int sign) {
            return sign >= '0' && sign <= '9';
        }

        private static boolean isLetter(int sign) {
            return sign >= 'a' && sign <= 'z';
        }

        private boolean fail(int code, int at) {
            errorCode = code;
            errorAt = at;
            return false;
        }
    }
}
