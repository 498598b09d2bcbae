/** A vault whose doors ask each other. */
public final class VaultDoors {
    private static final int MOST_DOORS = 10;
    private static final int MOST_ASKED = 4;
    private static final int MOST_VOICES = 60;
    /**
     * More than a door can ever remember: it waits for 20 ticks at most, and each of 9 others
     * asks it at most once in 4 ticks, as it is barred or open between two wakings.
     */
    private static final int MOST_REMEMBERED = 60;

    private static final int HIGHEST_SECRET = 99;
    private static final int LONGEST_PATIENCE = 20;
    private static final int LONGEST_DISTANCE = 5;
    private static final int LONGEST_PASS = 200;
    private static final int LONGEST_OPENS = 100;
    private static final int LONGEST_WOULD = 100;
    private static final int LONGEST_BEST = 30;

    private static final int ALL = 0;
    private static final int SOME = 1;
    private static final int MOST = 2;
    private static final int NONE = 3;

    private static final int SHUT = 0;
    private static final int WAITS = 1;
    private static final int OPEN = 2;
    private static final int BARRED = 3;
    private static final int OPEN_TIME = 12;
    private static final int BARRED_TIME = 4;

    private static final int QUESTION = 0;
    private static final int NO = 1;
    private static final int YES = 2;

    private static final int ANSWERED_YES = 1;
    private static final int ANSWERED_NO = 0;
    private static final int NOT_ANSWERED = -1;

    private static final int DOOR_FACTS = 9;
    private static final int ASKED_FACTS = 3;
    private static final int VOICE_FACTS = 4;
    private static final int COUNT_FACTS = 9;

    private final Vault vault;
    /** A copy of the vault on which is tried what would be; made once, as every object is counted. */
    private final Vault trial;

    public VaultDoors() {
        vault = new Vault();
        trial = new Vault();
    }

    // ---- doors

    public int build(int secret, int patience, int rule)
            throws IllegalArgumentException, IllegalStateException {
        if (!isIn(secret, 0, HIGHEST_SECRET)) {
            throw new IllegalArgumentException("secret is not 0 to 99");
        }
        if (!isPatience(patience) || !isRule(rule)) {
            throw new IllegalArgumentException("patience is not 1 to 20, or rule is not 0 to 3");
        }
        if (vault.doorCount >= MOST_DOORS) {
            throw new IllegalStateException("there are 10 doors");
        }
        return vault.addDoor(secret, patience, rule);
    }

    public int ask(int door, int other, int distance)
            throws IndexOutOfBoundsException, IllegalArgumentException, IllegalStateException {
        if (!vault.isDoor(door) || !vault.isDoor(other)) {
            throw new IndexOutOfBoundsException("no such door");
        }
        if (door == other || !isIn(distance, 1, LONGEST_DISTANCE)) {
            throw new IllegalArgumentException("both are the same, or distance is not 1 to 5");
        }
        Door asking = vault.doors[door];
        if (asking.state != SHUT || asking.placeOf(other) >= 0 || asking.asked >= MOST_ASKED) {
            throw new IllegalStateException("it is not shut, asks this one already, or asks 4");
        }
        asking.addAsked(other, distance);
        return asking.asked;
    }

    public int set(int door, int rule, int patience)
            throws IndexOutOfBoundsException, IllegalArgumentException {
        if (!vault.isDoor(door)) {
            throw new IndexOutOfBoundsException("no such door");
        }
        if (!isRule(rule) || !isPatience(patience)) {
            throw new IllegalArgumentException("rule is not 0 to 3, or patience is not 1 to 20");
        }
        Door changed = vault.doors[door];
        int before = 100 * changed.rule + changed.patience;
        changed.rule = rule;
        changed.patience = patience;
        return before;
    }

    public boolean whisper(int door, int token)
            throws IndexOutOfBoundsException, IllegalArgumentException {
        if (!vault.isDoor(door)) {
            throw new IndexOutOfBoundsException("no such door");
        }
        if (!isIn(token, 0, HIGHEST_SECRET)) {
            throw new IllegalArgumentException("token is not 0 to 99");
        }
        return vault.hearToken(door, token);
    }

    // ---- what is there

    public int door(int door, int what) throws IndexOutOfBoundsException {
        if (!vault.isDoor(door) || !isIn(what, 0, DOOR_FACTS - 1)) {
            throw new IndexOutOfBoundsException("no such door, or what is not 0 to 8");
        }
        return vault.doors[door].fact(what);
    }

    public int asks(int door, int index, int what) throws IndexOutOfBoundsException {
        if (!vault.isDoor(door) || !isIn(what, 0, ASKED_FACTS - 1)) {
            throw new IndexOutOfBoundsException("no such door, or what is not 0 to 2");
        }
        Door asking = vault.doors[door];
        if (!isIn(index, 0, asking.asked - 1)) {
            throw new IndexOutOfBoundsException("no such place");
        }
        return asking.askedFact(index, what);
    }

    public int voice(int index, int what) throws IndexOutOfBoundsException {
        if (!isIn(index, 0, vault.voices.size - 1) || !isIn(what, 0, VOICE_FACTS - 1)) {
            throw new IndexOutOfBoundsException("no such voice, or what is not 0 to 3");
        }
        return vault.voices.fact(index, what);
    }

    public int count(int what) throws IndexOutOfBoundsException {
        if (!isIn(what, 0, COUNT_FACTS - 1)) {
            throw new IndexOutOfBoundsException("what is not 0 to 8");
        }
        return vault.fact(what);
    }

    public int reach(int door) throws IndexOutOfBoundsException {
        if (!vault.isDoor(door)) {
            throw new IndexOutOfBoundsException("no such door");
        }
        return vault.reachedFrom(door);
    }

    // ---- ticks

    public int pass(int ticks) throws IllegalArgumentException {
        if (!isIn(ticks, 1, LONGEST_PASS)) {
            throw new IllegalArgumentException("ticks is not 1 to 200");
        }
        int opened = 0;
        for (int i = 0; i < ticks; i++) {
            opened += vault.tickOn();
        }
        return opened;
    }

    // ---- what would be

    public int opens(int door) throws IndexOutOfBoundsException {
        if (!vault.isDoor(door)) {
            throw new IndexOutOfBoundsException("no such door");
        }
        if (vault.doors[door].state == OPEN) {
            return 0;
        }
        trial.copyFrom(vault);
        for (int ticks = 1; ticks <= LONGEST_OPENS; ticks++) {
            trial.tickOn();
            if (trial.doors[door].state == OPEN) {
                return ticks;
            }
        }
        return -1;
    }

    public int would(int door, int ticks)
            throws IndexOutOfBoundsException, IllegalArgumentException {
        if (!vault.isDoor(door)) {
            throw new IndexOutOfBoundsException("no such door");
        }
        if (!isIn(ticks, 1, LONGEST_WOULD)) {
            throw new IllegalArgumentException("ticks is not 1 to 100");
        }
        return openedByWhisper(door, ticks);
    }

    public int best(int ticks) throws IllegalArgumentException {
        if (!isIn(ticks, 1, LONGEST_BEST)) {
            throw new IllegalArgumentException("ticks is not 1 to 30");
        }
        int best = -1;
        int most = -1;
        for (int i = 0; i < vault.doorCount; i++) {
            int size = Integer.bitCount(openedByWhisper(i, ticks));
            if (size > most) {
                most = size;
                best = i;
            }
        }
        return best;
    }

    public double mean() {
        int opened = 0;
        int barred = 0;
        for (int i = 0; i < vault.doorCount; i++) {
            opened += vault.doors[i].opened;
            barred += vault.doors[i].barred;
        }
        int decided = opened + barred;
        return decided > 0 ? (double) opened / (double) decided : 0.0;
    }

    public long digest() {
        long d = 907L;
        for (int what = 0; what < COUNT_FACTS; what++) {
            d = d * 31L + vault.fact(what);
        }
        for (int i = 0; i < vault.doorCount; i++) {
            d = digestOfDoor(d, vault.doors[i]);
        }
        for (int i = 0; i < vault.voices.size; i++) {
            for (int what = 0; what < VOICE_FACTS; what++) {
                d = d * 31L + vault.voices.fact(i, what);
            }
        }
        return d;
    }

    // ---- helpers

    private static long digestOfDoor(long before, Door door) {
        long d = before;
        for (int what = 0; what < DOOR_FACTS; what++) {
            d = d * 31L + door.fact(what);
        }
        for (int i = 0; i < door.asked; i++) {
            for (int what = 0; what < ASKED_FACTS; what++) {
                d = d * 31L + door.askedFact(i, what);
            }
        }
        return d;
    }

    private int openedByWhisper(int door, int ticks) {
        trial.copyFrom(vault);
        trial.hearToken(door, trial.doors[door].secret);
        int opened = 0;
        for (int i = 0; i < ticks; i++) {
            trial.tickOn();
            opened |= trial.openDoors();
        }
        return opened;
    }

    private static boolean isIn(int number, int lowest, int highest) {
        return number >= lowest && number <= highest;
    }

    private static boolean isPatience(int patience) {
        return isIn(patience, 1, LONGEST_PATIENCE);
    }

    private static boolean isRule(int rule) {
        return isIn(rule, ALL, NONE);
    }

    /** A door, the doors that it asks, and the questions that it remembers. */
    private static final class Door {
        int secret;
        int patience;
        int rule;
        int state;
        /** Patience if it waits, time if it is open or barred, 0 if it is shut. */
        int left;
        int opened;
        int barred;

        int asked;
        final int[] other = new int[MOST_ASKED];
        final int[] distance = new int[MOST_ASKED];
        final int[] answer = new int[MOST_ASKED];

        int remembered;
        final int[] asker = new int[MOST_REMEMBERED];
        final int[] askerDistance = new int[MOST_REMEMBERED];

        void copyFrom(Door door) {
            secret = door.secret;
            patience = door.patience;
            rule = door.rule;
            state = door.state;
            left = door.left;
            opened = door.opened;
            barred = door.barred;
            asked = door.asked;
            System.arraycopy(door.other, 0, other, 0, MOST_ASKED);
            System.arraycopy(door.distance, 0, distance, 0, MOST_ASKED);
            System.arraycopy(door.answer, 0, answer, 0, MOST_ASKED);
            remembered = door.remembered;
            System.arraycopy(door.asker, 0, asker, 0, MOST_REMEMBERED);
            System.arraycopy(door.askerDistance, 0, askerDistance, 0, MOST_REMEMBERED);
        }

        int placeOf(int number) {
            for (int i = 0; i < asked; i++) {
                if (other[i] == number) {
                    return i;
                }
            }
            return -1;
        }

        void addAsked(int number, int ticks) {
            if (asked < MOST_ASKED) {
                other[asked] = number;
                distance[asked] = ticks;
                answer[asked] = NOT_ANSWERED;
                asked++;
            }
        }

        void startWaiting() {
            state = WAITS;
            left = patience;
        }

        void open() {
            state = OPEN;
            left = OPEN_TIME;
            opened++;
        }

        void bar() {
            state = BARRED;
            left = BARRED_TIME;
            barred++;
        }

        void spendTime() {
            if (state == OPEN || state == BARRED) {
                left--;
                if (left <= 0) {
                    left = 0;
                    state = SHUT;
                }
            }
        }

        void takeAnswer(int number, int given) {
            int place = placeOf(number);
            if (state == WAITS && place >= 0 && answer[place] == NOT_ANSWERED) {
                answer[place] = given;
            }
        }

        void remember(int number, int ticks) {
            if (remembered < MOST_REMEMBERED) {
                asker[remembered] = number;
                askerDistance[remembered] = ticks;
                remembered++;
            }
        }

        /** Answers count only while it waits, so they go as soon as it has decided. */
        void forget() {
            remembered = 0;
            for (int i = 0; i < asked; i++) {
                answer[i] = NOT_ANSWERED;
            }
        }

        boolean isReadyToDecide() {
            return left <= 0 || answersOf(ANSWERED_NO) + answersOf(ANSWERED_YES) == asked;
        }

        void decide() {
            if (isPersuaded(answersOf(ANSWERED_YES))) {
                open();
            } else {
                bar();
            }
        }

        private boolean isPersuaded(int yes) {
            switch (rule) {
                case ALL:
                    return yes == asked;
                case SOME:
                    return yes >= 1;
                case MOST:
                    return 2 * yes > asked;
                default:
                    return yes == 0;
            }
        }

        private int answersOf(int given) {
            int answers = 0;
            for (int i = 0; i < asked; i++) {
                if (answer[i] == given) {
                    answers++;
                }
            }
            return answers;
        }

        int fact(int what) {
            switch (what) {
                case 0:
                    return state;
                case 1:
                    return left;
                case 2:
                    return rule;
                case 3:
                    return asked;
                case 4:
                    return answersOf(ANSWERED_NO) + answersOf(ANSWERED_YES);
                case 5:
                    return answersOf(ANSWERED_YES);
                case 6:
                    return remembered;
                case 7:
                    return opened;
                default:
                    return barred;
            }
        }

        int askedFact(int index, int what) {
            if (!isIn(index, 0, asked - 1)) {
                return 0;
            }
            switch (what) {
                case 0:
                    return other[index];
                case 1:
                    return distance[index];
                default:
                    return answer[index];
            }
        }
    }

    /** Voices in the order in which they were sent. */
    private static final class Voices {
        int size;
        int lost;
        final int[] from = new int[MOST_VOICES];
        final int[] to = new int[MOST_VOICES];
        final int[] kind = new int[MOST_VOICES];
        final int[] left = new int[MOST_VOICES];
        /** The whole way, as an answer goes back over the distance of its question. */
        final int[] distance = new int[MOST_VOICES];

        void copyFrom(Voices voices) {
            size = voices.size;
            lost = voices.lost;
            System.arraycopy(voices.from, 0, from, 0, MOST_VOICES);
            System.arraycopy(voices.to, 0, to, 0, MOST_VOICES);
            System.arraycopy(voices.kind, 0, kind, 0, MOST_VOICES);
            System.arraycopy(voices.left, 0, left, 0, MOST_VOICES);
            System.arraycopy(voices.distance, 0, distance, 0, MOST_VOICES);
        }

        void add(int sender, int hearer, int what, int ticks) {
            if (size >= MOST_VOICES) {
                lost++;
                return;
            }
            from[size] = sender;
            to[size] = hearer;
            kind[size] = what;
            left[size] = ticks;
            distance[size] = ticks;
            size++;
        }

        /** Lets all go on by a tick; those that arrive are gone from here, and are all of arrived. */
        void moveOn(Voices arrived) {
            arrived.size = 0;
            int kept = 0;
            for (int i = 0; i < size; i++) {
                left[i]--;
                if (left[i] <= 0) {
                    arrived.add(from[i], to[i], kind[i], distance[i]);
                } else {
                    moveUp(i, kept);
                    kept++;
                }
            }
            size = kept;
        }

        private void moveUp(int index, int place) {
            from[place] = from[index];
            to[place] = to[index];
            kind[place] = kind[index];
            left[place] = left[index];
            distance[place] = distance[index];
        }

        int fact(int index, int what) {
            if (!isIn(index, 0, size - 1)) {
                return 0;
            }
            switch (what) {
                case 0:
                    return from[index];
                case 1:
                    return to[index];
                case 2:
                    return kind[index];
                default:
                    return left[index];
            }
        }
    }

    /** All that is there at a tick, and how it goes on. */
    private static final class Vault {
        int tick;
        int doorCount;
        final Door[] doors = new Door[MOST_DOORS];
        final Voices voices = new Voices();
        /** The voices that arrive in a tick; nothing of it is kept until the next one. */
        final Voices arrived = new Voices();

        Vault() {
            for (int i = 0; i < MOST_DOORS; i++) {
                doors[i] = new Door();
            }
        }

        void copyFrom(Vault vault) {
            tick = vault.tick;
            doorCount = vault.doorCount;
            for (int i = 0; i < doorCount; i++) {
                doors[i].copyFrom(vault.doors[i]);
            }
            voices.copyFrom(vault.voices);
        }

        boolean isDoor(int number) {
            return number >= 0 && number < doorCount;
        }

        int addDoor(int secret, int patience, int rule) {
            int number = doorCount;
            if (number < MOST_DOORS) {
                doors[number].secret = secret;
                doors[number].patience = patience;
                doors[number].rule = rule;
                doorCount++;
            }
            return number;
        }

        /** Returns whether the door is woken. */
        boolean hearToken(int number, int token) {
            if (!isDoor(number) || doors[number].state != SHUT) {
                return false;
            }
            if (token != doors[number].secret) {
                doors[number].bar();
                return false;
            }
            wake(number);
            return true;
        }

        /** Returns how many doors opened. */
        int tickOn() {
            for (int i = 0; i < doorCount; i++) {
                doors[i].spendTime();
            }
            voices.moveOn(arrived);
            for (int i = 0; i < arrived.size; i++) {
                hear(arrived.from[i], arrived.to[i], arrived.kind[i], arrived.distance[i]);
            }
            int opened = 0;
            for (int i = 0; i < doorCount; i++) {
                if (doors[i].state == WAITS && waitOn(i)) {
                    opened++;
                }
            }
            tick++;
            return opened;
        }

        private void hear(int from, int to, int kind, int distance) {
            if (!isDoor(to)) {
                return;
            }
            Door hearer = doors[to];
            if (kind != QUESTION) {
                hearer.takeAnswer(from, kind == YES ? ANSWERED_YES : ANSWERED_NO);
            } else if (hearer.state == OPEN) {
                voices.add(to, from, YES, distance);
            } else if (hearer.state == BARRED) {
                voices.add(to, from, NO, distance);
            } else {
                if (hearer.state == SHUT) {
                    wake(to);
                }
                hearer.remember(from, distance);
            }
        }

        private void wake(int number) {
            Door woken = doors[number];
            woken.startWaiting();
            for (int i = 0; i < woken.asked; i++) {
                voices.add(number, woken.other[i], QUESTION, woken.distance[i]);
            }
        }

        /** Returns whether the door, which waits, opened. */
        private boolean waitOn(int number) {
            Door waiting = doors[number];
            waiting.left--;
            if (!waiting.isReadyToDecide()) {
                return false;
            }
            waiting.decide();
            boolean opened = waiting.state == OPEN;
            for (int i = 0; i < waiting.remembered; i++) {
                voices.add(number, waiting.asker[i], opened ? YES : NO, waiting.askerDistance[i]);
            }
            waiting.forget();
            return opened;
        }

        int openDoors() {
            int open = 0;
            for (int i = 0; i < doorCount; i++) {
                if (doors[i].state == OPEN) {
                    open |= 1 << i;
                }
            }
            return open;
        }

        private int doorsThat(int state) {
            int doorsSo = 0;
            for (int i = 0; i < doorCount; i++) {
                if (doors[i].state == state) {
                    doorsSo++;
                }
            }
            return doorsSo;
        }

        int fact(int what) {
            switch (what) {
                case 0:
                    return tick;
                case 1:
                    return doorCount;
                case 2:
                    return doorsThat(SHUT);
                case 3:
                    return doorsThat(WAITS);
                case 4:
                    return doorsThat(OPEN);
                case 5:
                    return doorsThat(BARRED);
                case 6:
                    return voices.size;
                case 7:
                    return voices.lost;
                default:
                    return openDoors();
            }
        }

        /** Each round goes a step further; behind as many rounds as doors nothing new is reached. */
        int reachedFrom(int number) {
            int reached = askedBy(number);
            for (int round = 0; round < doorCount; round++) {
                int further = reached;
                for (int i = 0; i < doorCount; i++) {
                    if ((reached & 1 << i) != 0) {
                        further |= askedBy(i);
                    }
                }
                reached = further;
            }
            return reached;
        }

        private int askedBy(int number) {
            int askedDoors = 0;
            if (isDoor(number)) {
                Door asking = doors[number];
                for (int i = 0; i < asking.asked; i++) {
                    askedDoors |= 1 << asking.other[i];
                }
            }
            return askedDoors;
        }
    }
}
