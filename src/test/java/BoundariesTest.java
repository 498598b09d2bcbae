import java.math.BigInteger;
import java.util.ArrayList;
import java.util.List;

/**
 * A test of its own for each sentence of the document that names a boundary: too small, too large,
 * empty, full, a wrap-around, a refused call. Each test begins with its sentence, which is printed
 * with each call whose answer is not the one that is due. No vault is used for more than 512 calls.
 */
public final class BoundariesTest {
    private interface Maker {
        VaultDoors make();
    }

    private interface Call {
        Object on(VaultDoors x);
    }

    /** A call of which one number is tried: the limits, what lies beside them, and what is far off. */
    private interface CallWith {
        Object on(VaultDoors x, int number);
    }

    private static final Class<IndexOutOfBoundsException> INDEX = IndexOutOfBoundsException.class;
    private static final Class<IllegalArgumentException> ARGUMENT = IllegalArgumentException.class;
    private static final Class<IllegalStateException> STATE = IllegalStateException.class;

    private static final int SHUT = 0;
    private static final int WAITS = 1;
    private static final int OPEN = 2;
    private static final int BARRED = 3;

    private static final int QUESTION = 0;
    private static final int NO = 1;
    private static final int YES = 2;

    private static String sentence = "";
    private static int sentences = 0;
    private static int wrong = 0;

    // ---- helpers

    private static void about(String words) {
        sentence = words;
        sentences++;
    }

    private static void fault(String text) {
        wrong++;
        System.out.println("[" + sentence + "] " + text);
    }

    private static void due(String call, Object want, Object got) {
        if (!want.equals(got)) {
            fault(call + " answered " + got + ", due is " + want);
        }
    }

    private static void dueDoor(VaultDoors x, String name, int door, int... want) {
        for (int what = 0; what < want.length; what++) {
            due(name + ": door(" + door + ", " + what + ")", want[what], x.door(door, what));
        }
    }

    private static void dueCounts(VaultDoors x, String name, int... want) {
        for (int what = 0; what < want.length; what++) {
            due(name + ": count(" + what + ")", want[what], x.count(what));
        }
    }

    private static void dueVoice(VaultDoors x, String name, int index, int... want) {
        for (int what = 0; what < want.length; what++) {
            due(name + ": voice(" + index + ", " + what + ")", want[what], x.voice(index, what));
        }
    }

    /** All that can be seen of a vault, also by changing it: it is of no further use. */
    private static List<Object> lookAt(VaultDoors x) {
        List<Object> seen = new ArrayList<>();
        seen.add(x.digest());
        seen.add(x.mean());
        seen.add(x.best(30));
        int doors = x.count(1);
        for (int door = 0; door < doors; door++) {
            seen.add(x.opens(door));
            seen.add(x.would(door, 100));
            seen.add(x.reach(door));
            seen.add(x.set(door, 0, 20));
            seen.add(x.whisper(door, door));
        }
        for (int i = 0; i < 8; i++) {
            seen.add(x.pass(1 + i));
            seen.add(x.digest());
        }
        return seen;
    }

    private static void sameAsUntouched(Maker maker, String call, VaultDoors touched) {
        if (!lookAt(maker.make()).equals(lookAt(touched))) {
            fault(call + " changed something");
        }
    }

    /** The call throws just this exception, and changes nothing. */
    private static void refused(Maker maker, String name, Class<?> want, Call call) {
        VaultDoors x = maker.make();
        String got;
        try {
            got = "no exception, but " + call.on(x);
        } catch (RuntimeException e) {
            got = e.getClass().getName();
        }
        if (!got.equals(want.getName())) {
            fault(name + ": " + got + ", due is " + want.getName());
        }
        sameAsUntouched(maker, name, x);
    }

    /** Each number outside of the limits is refused: those beside them, and the farthest ones. */
    private static void refusedOutside(Maker maker, String name, Class<?> want,
            int lowest, int highest, CallWith call) {
        int[] outside = {lowest - 1, highest + 1, lowest - 2, highest + 2, lowest - 256, highest + 256,
            Integer.MIN_VALUE, Integer.MIN_VALUE + 1, Integer.MAX_VALUE - 1, Integer.MAX_VALUE};
        for (int number : outside) {
            refused(maker, name + " with " + number, want, x -> call.on(x, number));
        }
    }

    private static void changesNothing(Maker maker, String name, Object want, Call call) {
        VaultDoors x = maker.make();
        due(name, want, call.on(x));
        sameAsUntouched(maker, name, x);
    }

    // ---- vaults

    private static VaultDoors empty() {
        return new VaultDoors();
    }

    /** Doors with the secrets 0, 1, 2 and so on. */
    private static VaultDoors vaultOf(int doors, int patience, int rule) {
        VaultDoors x = new VaultDoors();
        for (int i = 0; i < doors; i++) {
            x.build(i, patience, rule);
        }
        return x;
    }

    private static VaultDoors three() {
        return vaultOf(3, 7, 0);
    }

    private static VaultDoors ten() {
        return vaultOf(10, 7, 0);
    }

    /** The door 0 is shut, 1 waits for 4, 2 is open, 3 is barred, 4 is shut. */
    private static VaultDoors eachState() {
        VaultDoors x = vaultOf(5, 20, 0);
        x.ask(1, 4, 5);
        x.whisper(2, 2);
        x.pass(1);
        x.whisper(1, 1);
        x.whisper(3, 90);
        return x;
    }

    /** The door 2 is open, and the door 3 barred, for their last tick. */
    private static VaultDoors lastTicks() {
        VaultDoors x = vaultOf(4, 20, 0);
        x.whisper(2, 2);
        x.pass(9);
        x.whisper(3, 90);
        x.pass(3);
        return x;
    }

    /** The door 0 asks 4, and waits; the door 1 asks one of them; the door 5 asks none. */
    private static VaultDoors asking() {
        VaultDoors x = vaultOf(6, 20, 0);
        for (int other = 1; other <= 4; other++) {
            x.ask(0, other, other);
        }
        x.ask(1, 2, 5);
        x.whisper(0, 0);
        return x;
    }

    /** Two doors that ask each other over 5 ticks: without patience for 20 ticks none of them decides. */
    private static VaultDoors pair(int patience, int rule) {
        VaultDoors x = vaultOf(2, patience, rule);
        x.ask(0, 1, 5);
        x.ask(1, 0, 5);
        x.whisper(0, 0);
        return x;
    }

    /** 30 questions were heard in the tick 5, and their doors sent 30 answers and asked 30 in turn. */
    private static VaultDoors sixtyVoices() {
        VaultDoors x = vaultOf(9, 1, 0);
        for (int door = 0; door < 7; door++) {
            for (int step = 1; step <= 4; step++) {
                x.ask(door, (door + step) % 7, 5);
            }
        }
        x.ask(7, 8, 5);
        x.ask(8, 7, 5);
        for (int door = 0; door < 9; door++) {
            x.whisper(door, door);
        }
        x.pass(5);
        return x;
    }

    /** Whispered at 0, the doors ask on, and 3 opens in the tick 30: it is woken in 15, and waits 16. */
    private static VaultDoors thirtyTicks() {
        VaultDoors x = new VaultDoors();
        int[][] doors = {{20, 0}, {20, 0}, {20, 0}, {16, 3}, {14, 1}};
        for (int i = 0; i < doors.length; i++) {
            x.build(i, doors[i][0], doors[i][1]);
        }
        for (int door = 0; door < 4; door++) {
            x.ask(door, door + 1, 5);
        }
        x.ask(4, 3, 5);
        return x;
    }

    private static final int SLOW_DOOR = 1;
    private static final int IDLE_DOOR = 5;
    private static final int SLOW_TICKS = 128;

    /** Found by search: questions go round until SLOW_DOOR opens, for the first time, in SLOW_TICKS. */
    private static VaultDoors slowVault(int ticksAhead) {
        VaultDoors x = new VaultDoors();
        int[][] doors = {{17, 3}, {17, 3}, {18, 1}, {1, 0}, {2, 0}, {1, 1}};
        for (int i = 0; i < doors.length; i++) {
            x.build(i, doors[i][0], doors[i][1]);
        }
        int[][] links = {{1, 0, 1}, {1, 2, 4}, {1, 4, 2}, {4, 0, 3}, {4, 3, 5}, {2, 1, 5},
            {0, 1, 4}, {4, 2, 2}, {3, 4, 2}};
        for (int[] link : links) {
            x.ask(link[0], link[1], link[2]);
        }
        x.whisper(4, 4);
        x.whisper(2, 2);
        x.pass(SLOW_TICKS - ticksAhead);
        return x;
    }

    // ---- the terms

    private static void calls() {
        about("An object is used for at most 512 calls after it has been made.");
        VaultDoors x = new VaultDoors();
        for (int call = 0; call < 511; call++) {
            x.pass(200);
        }
        due("the 512th call: count(0)", 102200, x.count(0));
        VaultDoors y = vaultOf(1, 1, 0);
        for (int round = 0; round < 170; round++) {
            y.whisper(0, 0);
            due("round " + round + ": pass(1)", 1, y.pass(1));
            y.pass(12);
        }
        due("the 512th call: door(0, 7)", 170, y.door(0, 7));
    }

    private static void time() {
        about("Time is told in ticks, from 0. The tick is 1 greater.");
        VaultDoors x = three();
        due("count(0) at first", 0, x.count(0));
        x.pass(1);
        due("count(0) after a tick", 1, x.count(0));
        x.pass(200);
        due("count(0) after 200 more", 201, x.count(0));
        x.whisper(0, 0);
        x.opens(0);
        x.would(0, 100);
        x.best(30);
        due("count(0) after calls that pass no tick", 201, x.count(0));
    }

    private static void doorNumbers() {
        about("There are at most 10, numbered from 0 in the order of their building.");
        VaultDoors x = new VaultDoors();
        for (int number = 0; number < 10; number++) {
            due("build", number, x.build(90 - number, 1 + number, number % 4));
        }
        due("count(1)", 10, x.count(1));
        for (int number = 0; number < 10; number++) {
            due("rule of the door " + number, number % 4, x.door(number, 2));
            due("its secret is its own: whisper", true, x.whisper(number, 90 - number));
            due("its patience: door(" + number + ", 1)", 1 + number, x.door(number, 1));
        }
        refused(BoundariesTest::ten, "an eleventh", STATE, v -> v.build(1, 1, 1));
    }

    private static void shutAtFirst() {
        about("It is shut (at first).");
        VaultDoors x = three();
        dueDoor(x, "just built", 2, SHUT, 0, 0, 0, 0, 0, 0, 0, 0);
        x.pass(200);
        dueDoor(x, "200 ticks later", 2, SHUT, 0, 0, 0, 0, 0, 0, 0, 0);
    }

    private static void openFor12() {
        about("It opens for 12 ticks. With none left it is shut.");
        VaultDoors x = vaultOf(1, 1, 0);
        x.whisper(0, 0);
        x.pass(1);
        for (int left = 12; left > 0; left--) {
            dueDoor(x, "open", 0, OPEN, left);
            x.pass(1);
        }
        dueDoor(x, "fallen shut", 0, SHUT, 0);
        x.pass(1);
        dueDoor(x, "shut still", 0, SHUT, 0);
    }

    private static void barredFor4() {
        about("And is barred for 4. With none left it is shut.");
        VaultDoors decided = vaultOf(1, 1, 1);
        decided.whisper(0, 0);
        decided.pass(1);
        VaultDoors token = vaultOf(1, 1, 1);
        token.whisper(0, 1);
        for (int left = 4; left > 0; left--) {
            dueDoor(decided, "barred by deciding", 0, BARRED, left);
            dueDoor(token, "barred by a token", 0, BARRED, left);
            decided.pass(1);
            token.pass(1);
        }
        dueDoor(decided, "shut again", 0, SHUT, 0);
        dueDoor(token, "shut again", 0, SHUT, 0);
    }

    private static void asksAtMost4() {
        about("Each asks at most 4 other doors, in the order in which they were told.");
        VaultDoors x = ten();
        int[] others = {7, 2, 9, 0};
        due("asks none at first: door(5, 3)", 0, x.door(5, 3));
        for (int i = 0; i < 4; i++) {
            due("ask", i + 1, x.ask(5, others[i], 1 + i));
        }
        for (int i = 0; i < 4; i++) {
            due("asks(5, " + i + ", 0)", others[i], x.asks(5, i, 0));
            due("asks(5, " + i + ", 1)", 1 + i, x.asks(5, i, 1));
        }
        due("asks four: door(5, 3)", 4, x.door(5, 3));
        due("others ask none: door(7, 3)", 0, x.door(7, 3));
        refused(BoundariesTest::askedFour, "a fifth", STATE, v -> v.ask(0, 5, 1));
        x.whisper(5, 5);
        for (int i = 0; i < 4; i++) {
            dueVoice(x, "asked in their order", i, 5, others[i], QUESTION, 1 + i);
        }
    }

    /** For each number of doors that are asked, and each rule: does it open by 0, 1, 2 .. yes? */
    private static final String[][] OPENS_BY = {
        {"1", "0", "0", "1"},
        {"01", "01", "01", "10"},
        {"001", "011", "001", "100"},
        {"0001", "0111", "0011", "1000"},
        {"00001", "01111", "00011", "10000"},
    };

    private static void decidesBy(int rule) {
        for (int asked = 0; asked <= 4; asked++) {
            for (int yes = 0; yes <= asked; yes++) {
                VaultDoors x = vaultOf(5, 20, 0);
                x.set(0, rule, 20);
                for (int other = 1; other <= asked; other++) {
                    x.ask(0, other, 1);
                    x.whisper(other, other <= yes ? other : 90);
                }
                x.whisper(0, 0);
                x.pass(2);
                due("rule " + rule + " with " + yes + " yes of " + asked + ": door(0, 0)",
                    OPENS_BY[asked][rule].charAt(yes) == '1' ? OPEN : BARRED, x.door(0, 0));
            }
        }
    }

    private static void ruleAll() {
        about("By the rule 0 all say yes (also if it asks none).");
        decidesBy(0);
    }

    private static void ruleSome() {
        about("By the rule 1 at least one.");
        decidesBy(1);
    }

    private static void ruleMost() {
        about("By the rule 2 more than half.");
        decidesBy(2);
    }

    private static void ruleNone() {
        about("By the rule 3 none at all say yes.");
        decidesBy(3);
    }

    private static void atMost60() {
        about("There are at most 60: a voice beyond that is lost.");
        VaultDoors x = sixtyVoices();
        due("just sixty: count(6)", 60, x.count(6));
        due("none is lost: count(7)", 0, x.count(7));
        dueVoice(x, "the last one", 59, 8, 7, NO, 5);
        x.pass(4);
        due("all are under way: count(6)", 60, x.count(6));
        due("whisper(7, 7)", true, x.whisper(7, 7));
        due("its one question is too many: count(6)", 60, x.count(6));
        due("it is lost: count(7)", 1, x.count(7));
        dueVoice(x, "the last one stays", 59, 8, 7, NO, 1);
        due("the door waits all the same: door(7, 0)", WAITS, x.door(7, 0));
        due("whisper(0, 0)", true, x.whisper(0, 0));
        due("four more are lost: count(7)", 5, x.count(7));
    }

    private static void heardAreGoneAhead() {
        about("Those that are heard in a tick are gone ahead of new ones.");
        VaultDoors x = sixtyVoices();
        x.pass(5);
        due("sixty were heard, sixty are new: count(6)", 60, x.count(6));
        due("none was lost: count(7)", 0, x.count(7));
        VaultDoors y = sixtyVoices();
        y.pass(4);
        y.whisper(7, 7);
        y.pass(1);
        due("all but the question that was lost: count(6)", 59, y.count(6));
        due("count(7)", 1, y.count(7));
    }

    private static void fullInATick() {
        about("There are at most 60: a voice beyond that is lost (in a tick).");
        VaultDoors x = vaultOf(10, 1, 0);
        for (int door = 0; door < 10; door++) {
            for (int step = 1; step <= 4; step++) {
                x.ask(door, (door + step) % 10, 5);
            }
            x.whisper(door, door);
        }
        dueCounts(x, "forty questions", 0, 10, 0, 10, 0, 0, 40, 0, 0);
        x.pass(5);
        dueCounts(x, "forty questions and twenty answers", 5, 10, 0, 0, 0, 10, 60, 20, 0);
        dueVoice(x, "the last question, of the door that was woken last", 39, 0, 4, QUESTION, 5);
        dueVoice(x, "the first answer", 40, 0, 6, NO, 5);
        dueVoice(x, "the last that is kept", 59, 4, 3, NO, 5);
    }

    private static void wakingWaits() {
        about("It waits from now on, for as many ticks as its patience.");
        for (int patience = 1; patience <= 20; patience++) {
            VaultDoors x = pair(patience, 0);
            dueDoor(x, "whispered", 0, WAITS, patience);
            for (int left = patience - 1; left > 0 && x.count(0) < 9; left--) {
                x.pass(1);
                dueDoor(x, "patience " + patience, 0, WAITS, left);
            }
        }
        VaultDoors longest = pair(20, 0);
        longest.pass(19);
        dueDoor(longest, "for its last tick", 0, WAITS, 1);
        longest.pass(1);
        dueDoor(longest, "out of patience", 0, BARRED, 4);
        VaultDoors shortest = pair(1, 0);
        shortest.pass(1);
        dueDoor(shortest, "out of patience at once", 0, BARRED, 4);
    }

    private static void wakingSends() {
        about("And it sends a question to each door that it asks, in their order, over its distance.");
        VaultDoors none = three();
        none.whisper(1, 1);
        due("asks none: count(6)", 0, none.count(6));
        VaultDoors x = asking();
        due("asks four: count(6)", 4, x.count(6));
        for (int i = 0; i < 4; i++) {
            dueVoice(x, "asks four", i, 0, i + 1, QUESTION, i + 1);
        }
    }

    private static void wokenWithoutAnswers() {
        about("It has no answers yet.");
        VaultDoors x = vaultOf(3, 20, 0);
        x.set(0, 0, 3);
        x.ask(0, 1, 1);
        x.ask(0, 2, 5);
        x.whisper(0, 0);
        x.pass(2);
        dueDoor(x, "with an answer", 0, WAITS, 1, 0, 2, 1, 1);
        x.pass(5);
        dueDoor(x, "barred, and shut again", 0, SHUT, 0, 0, 2, 0, 0);
        x.whisper(0, 0);
        dueDoor(x, "woken again", 0, WAITS, 3, 0, 2, 0, 0);
        due("asks(0, 0, 2)", -1, x.asks(0, 0, 2));
        due("asks(0, 1, 2)", -1, x.asks(0, 1, 2));
    }

    private static void heardWithNoneLeft() {
        about("Each has a tick less to go. Then those with none left are heard, in their order.");
        for (int distance = 1; distance <= 5; distance++) {
            VaultDoors x = three();
            x.ask(0, 1, distance);
            x.whisper(0, 0);
            for (int left = distance; left > 0; left--) {
                due("under way: count(6)", 1, x.count(6));
                dueVoice(x, "over " + distance, 0, 0, 1, QUESTION, left);
                due("not heard: door(1, 7)", 0, x.door(1, 7));
                x.pass(1);
            }
            due("heard: door(1, 7)", 1, x.door(1, 7));
            dueVoice(x, "its answer goes the same way", 0, 1, 0, YES, distance);
        }
    }

    private static void questionToOpen() {
        about("A question to an open door is answered yes at once, over the same distance.");
        for (int ticks = 1; ticks <= 11; ticks += 10) {
            VaultDoors x = three();
            x.ask(0, 1, 1);
            x.ask(2, 1, 5);
            x.whisper(1, 1);
            x.pass(ticks);
            x.whisper(0, 0);
            x.pass(1);
            dueDoor(x, "open still", 1, OPEN, 12 - ticks);
            due("count(6)", 1, x.count(6));
            dueVoice(x, "yes", 0, 1, 0, YES, 1);
        }
        VaultDoors late = three();
        late.ask(0, 1, 1);
        late.whisper(1, 1);
        late.pass(12);
        late.whisper(0, 0);
        late.pass(1);
        dueDoor(late, "it fell shut in this tick, and was woken", 1, OPEN, 12, 0, 0, 0, 0, 0, 2, 0);
    }

    private static void questionToBarred() {
        about("One to a barred door is answered no at once, over the same distance.");
        for (int ticks = 0; ticks <= 2; ticks += 2) {
            VaultDoors x = three();
            x.ask(0, 1, 1);
            x.whisper(1, 90);
            x.pass(ticks + 1);
            dueDoor(x, "barred", 1, BARRED, 3 - ticks);
            VaultDoors y = three();
            y.ask(0, 1, 1);
            y.whisper(1, 90);
            if (ticks > 0) {
                y.pass(ticks);
            }
            y.whisper(0, 0);
            y.pass(1);
            due("count(6)", 1, y.count(6));
            dueVoice(y, "no", 0, 1, 0, NO, 1);
        }
        VaultDoors late = three();
        late.ask(0, 1, 1);
        late.whisper(1, 90);
        late.pass(3);
        late.whisper(0, 0);
        late.pass(1);
        dueDoor(late, "it was shut in this tick, and woken", 1, OPEN, 12, 0, 0, 0, 0, 0, 1, 1);
    }

    private static void remembered() {
        about("One to a door that waits (also that by which it was just woken) is remembered.");
        VaultDoors x = vaultOf(5, 20, 0);
        x.ask(4, 0, 5);
        for (int door = 0; door < 4; door++) {
            x.ask(door, 4, 2);
        }
        x.whisper(3, 3);
        due("not asked yet: door(4, 6)", 0, x.door(4, 6));
        x.pass(2);
        due("the one that woke it: door(4, 6)", 1, x.door(4, 6));
        x.whisper(1, 1);
        x.whisper(2, 2);
        x.pass(2);
        due("and two more: door(4, 6)", 3, x.door(4, 6));
        x.pass(3);
        due("the door 0 is woken in turn: door(0, 0)", WAITS, x.door(0, 0));
        due("and remembers the door 4: door(0, 6)", 1, x.door(0, 6));
    }

    private static void answersInOrder() {
        about("It decides, and answers all questions that it remembers, in the order they came.");
        VaultDoors x = vaultOf(5, 20, 0);
        int[] askers = {2, 0, 3, 1};
        for (int asker : askers) {
            x.ask(asker, 4, 1 + asker);
        }
        x.ask(4, 3, 5);
        x.set(4, 3, 6);
        x.whisper(0, 0);
        x.whisper(1, 1);
        x.whisper(2, 2);
        x.whisper(3, 3);
        x.pass(5);
        due("four are remembered: door(4, 6)", 4, x.door(4, 6));
        x.pass(1);
        dueDoor(x, "out of patience, no yes", 4, OPEN, 12, 3, 1, 0, 0, 0, 1, 0);
        due("four answers: count(6)", 4, x.count(6));
        for (int i = 0; i < 4; i++) {
            dueVoice(x, "in their order", i, 4, i, YES, 1 + i);
        }
        VaultDoors none = three();
        none.whisper(0, 0);
        none.pass(1);
        due("none is remembered: count(6)", 0, none.count(6));
    }

    private static void answersCountOnce() {
        about("An answer counts, if it has none of this door yet; otherwise it is forgotten.");
        VaultDoors x = vaultOf(3, 20, 0);
        x.ask(1, 0, 1);
        x.ask(1, 2, 5);
        x.ask(2, 1, 5);
        x.set(1, 0, 1);
        x.whisper(0, 90);
        x.whisper(1, 1);
        x.pass(1);
        dueDoor(x, "barred ahead of the answer", 1, BARRED, 4, 0, 2, 0, 0);
        dueVoice(x, "the no is under way", 1, 0, 1, NO, 1);
        x.pass(1);
        dueDoor(x, "the no is forgotten", 1, BARRED, 3, 0, 2, 0, 0);
        due("asks(1, 0, 2)", -1, x.asks(1, 0, 2));

        VaultDoors y = vaultOf(3, 20, 1);
        y.set(0, 0, 1);
        y.ask(0, 1, 3);
        y.ask(0, 2, 5);
        y.ask(2, 0, 5);
        y.whisper(0, 0);
        y.pass(5);
        y.set(0, 0, 20);
        y.set(1, 0, 1);
        y.whisper(0, 0);
        y.pass(1);
        due("a no: asks(0, 0, 2)", 0, y.asks(0, 0, 2));
        y.pass(5);
        due("a yes of the same door is heard: count(6)", 0, y.door(0, 5));
        due("and forgotten: asks(0, 0, 2)", 0, y.asks(0, 0, 2));
    }

    private static void patienceInATick() {
        about("A door that waits (also since this tick) has a tick less of its patience.");
        VaultDoors x = pair(20, 0);
        x.set(1, 0, 2);
        x.pass(5);
        dueDoor(x, "woken in this tick", 1, WAITS, 1, 0, 1, 0, 0, 1);
        x.pass(1);
        dueDoor(x, "out of patience", 1, BARRED, 4, 0, 1, 0, 0, 0, 0, 1);
        VaultDoors y = pair(20, 0);
        y.set(1, 0, 1);
        y.pass(5);
        dueDoor(y, "woken in this tick, out of patience", 1, BARRED, 4, 0, 1, 0, 0, 0, 0, 1);
        dueVoice(y, "which it was woken by", 1, 1, 0, NO, 5);
    }

    private static void missingAnswers() {
        about("If no patience is left, it decides (missing answers count as no).");
        int[] states = {BARRED, OPEN, BARRED, BARRED};
        for (int rule = 0; rule < 4; rule++) {
            VaultDoors x = vaultOf(3, 20, 0);
            x.ask(0, 1, 1);
            x.ask(0, 2, 5);
            x.set(0, rule, 3);
            x.whisper(0, 0);
            x.pass(2);
            dueDoor(x, "a yes of two", 0, WAITS, 1, rule, 2, 1, 1);
            x.pass(1);
            due("rule " + rule + ": door(0, 0)", states[rule], x.door(0, 0));
            VaultDoors none = pair(1, rule);
            none.pass(1);
            due("rule " + rule + " without an answer: door(0, 0)", rule == 3 ? OPEN : BARRED,
                none.door(0, 0));
        }
    }

    private static void allAnswers() {
        about("If it has an answer of each door that it asks, it decides.");
        VaultDoors none = vaultOf(1, 20, 0);
        none.whisper(0, 0);
        none.pass(1);
        dueDoor(none, "asks none", 0, OPEN, 12);
        VaultDoors x = vaultOf(3, 20, 1);
        x.ask(0, 1, 1);
        x.ask(0, 2, 2);
        x.set(1, 0, 20);
        x.whisper(0, 0);
        x.pass(3);
        dueDoor(x, "a yes would do, but one is missing", 0, WAITS, 17, 1, 2, 1, 1);
        x.pass(1);
        dueDoor(x, "with both", 0, OPEN, 12);
    }

    private static void namedFirst() {
        about("If several exceptions apply, the one that is named first is thrown.");
        refused(BoundariesTest::ten, "build(100, 1, 0), full", ARGUMENT, x -> x.build(100, 1, 0));
        refused(BoundariesTest::ten, "build(0, 21, 0), full", ARGUMENT, x -> x.build(0, 21, 0));
        refused(BoundariesTest::ten, "build(0, 1, 4), full", ARGUMENT, x -> x.build(0, 1, 4));
        refused(BoundariesTest::empty, "ask(0, 0, 0), no door", INDEX, x -> x.ask(0, 0, 0));
        refused(BoundariesTest::three, "ask(3, 3, 1)", INDEX, x -> x.ask(3, 3, 1));
        refused(BoundariesTest::three, "ask(0, 3, 6)", INDEX, x -> x.ask(0, 3, 6));
        refused(BoundariesTest::eachState, "ask(1, 5, 1), it waits", INDEX, x -> x.ask(1, 5, 1));
        refused(BoundariesTest::eachState, "ask(1, 1, 1), it waits", ARGUMENT, x -> x.ask(1, 1, 1));
        refused(BoundariesTest::eachState, "ask(1, 0, 6), it waits", ARGUMENT, x -> x.ask(1, 0, 6));
        refused(BoundariesTest::eachState, "ask(3, 0, 0), barred", ARGUMENT, x -> x.ask(3, 0, 0));
        refused(BoundariesTest::asking, "ask(1, 2, 0), asked", ARGUMENT, x -> x.ask(1, 2, 0));
        refused(BoundariesTest::asking, "ask(0, 5, 6), asks 4", ARGUMENT, x -> x.ask(0, 5, 6));
        refused(BoundariesTest::three, "set(3, 4, 0)", INDEX, x -> x.set(3, 4, 0));
        refused(BoundariesTest::three, "set(-1, 0, 21)", INDEX, x -> x.set(-1, 0, 21));
        refused(BoundariesTest::three, "whisper(3, 100)", INDEX, x -> x.whisper(3, 100));
        refused(BoundariesTest::three, "whisper(-1, -1)", INDEX, x -> x.whisper(-1, -1));
        refused(BoundariesTest::three, "would(3, 0)", INDEX, x -> x.would(3, 0));
        refused(BoundariesTest::three, "would(-1, 101)", INDEX, x -> x.would(-1, 101));
    }

    // ---- promises 1 to 5: doors

    private static void newVault() {
        about("Promise 1: Creates a vault without doors, at the tick 0.");
        dueCounts(empty(), "a new vault", 0, 0, 0, 0, 0, 0, 0, 0, 0);
        due("mean()", 0.0, empty().mean());
        due("pass(200)", 0, empty().pass(200));
        refused(BoundariesTest::empty, "ask(0, 1, 1)", INDEX, x -> x.ask(0, 1, 1));
        refused(BoundariesTest::empty, "set(0, 0, 1)", INDEX, x -> x.set(0, 0, 1));
        refused(BoundariesTest::empty, "whisper(0, 0)", INDEX, x -> x.whisper(0, 0));
        refused(BoundariesTest::empty, "door(0, 0)", INDEX, x -> x.door(0, 0));
        refused(BoundariesTest::empty, "asks(0, 0, 0)", INDEX, x -> x.asks(0, 0, 0));
        refused(BoundariesTest::empty, "voice(0, 0)", INDEX, x -> x.voice(0, 0));
        refused(BoundariesTest::empty, "reach(0)", INDEX, x -> x.reach(0));
        refused(BoundariesTest::empty, "opens(0)", INDEX, x -> x.opens(0));
        refused(BoundariesTest::empty, "would(0, 1)", INDEX, x -> x.would(0, 1));
        VaultDoors other = three();
        other.pass(3);
        due("another vault has its own time: count(0)", 0, empty().count(0));
        due("and its own doors: count(1)", 0, empty().count(1));
    }

    private static void buildSecret() {
        about("Promise 2: IllegalArgumentException if secret is not 0 to 99.");
        for (int secret = 0; secret <= 99; secret += 99) {
            VaultDoors x = new VaultDoors();
            due("build with the secret " + secret, 0, x.build(secret, 1, 0));
            due("would(0, 1)", 1, x.would(0, 1));
            due("whisper(0, " + secret + ")", true, x.whisper(0, secret));
        }
        refusedOutside(BoundariesTest::three, "build: secret", ARGUMENT, 0, 99,
            (x, secret) -> x.build(secret, 1, 0));
    }

    private static void buildPatience() {
        about("Promise 2: IllegalArgumentException if patience is not 1 to 20.");
        for (int patience = 1; patience <= 20; patience += 19) {
            VaultDoors x = new VaultDoors();
            due("build with the patience " + patience, 0, x.build(5, patience, 0));
            x.whisper(0, 5);
            due("door(0, 1)", patience, x.door(0, 1));
        }
        refusedOutside(BoundariesTest::three, "build: patience", ARGUMENT, 1, 20,
            (x, patience) -> x.build(0, patience, 0));
    }

    private static void buildRule() {
        about("Promise 2: IllegalArgumentException if rule is not 0 to 3.");
        for (int rule = 0; rule <= 3; rule++) {
            VaultDoors x = new VaultDoors();
            due("build with the rule " + rule, 0, x.build(5, 1, rule));
            due("door(0, 2)", rule, x.door(0, 2));
        }
        refusedOutside(BoundariesTest::three, "build: rule", ARGUMENT, 0, 3,
            (x, rule) -> x.build(0, 1, rule));
    }

    private static void buildFull() {
        about("Promise 2: IllegalStateException if there are 10.");
        VaultDoors nine = vaultOf(9, 7, 0);
        due("the tenth", 9, nine.build(9, 7, 0));
        due("count(1)", 10, nine.count(1));
        due("count(2)", 10, nine.count(2));
        refused(BoundariesTest::ten, "an eleventh", STATE, x -> x.build(0, 1, 0));
        refused(BoundariesTest::ten, "an eleventh", STATE, x -> x.build(99, 20, 3));
    }

    private static void askNoDoor() {
        about("Promise 3: IndexOutOfBoundsException if there is no such door.");
        VaultDoors x = ten();
        due("ask(9, 0, 1)", 1, x.ask(9, 0, 1));
        due("ask(0, 9, 1)", 1, x.ask(0, 9, 1));
        refusedOutside(BoundariesTest::three, "ask: door", INDEX, 0, 2, (v, door) -> v.ask(door, 0, 1));
        refusedOutside(BoundariesTest::three, "ask: other", INDEX, 0, 2, (v, door) -> v.ask(0, door, 1));
        refusedOutside(BoundariesTest::ten, "ask: door", INDEX, 0, 9, (v, door) -> v.ask(door, 0, 1));
        refusedOutside(BoundariesTest::ten, "ask: other", INDEX, 0, 9, (v, door) -> v.ask(0, door, 1));
    }

    private static void askSame() {
        about("Promise 3: IllegalArgumentException if both are the same.");
        for (int door = 0; door < 3; door++) {
            int same = door;
            refused(BoundariesTest::three, "ask of itself", ARGUMENT, x -> x.ask(same, same, 1));
        }
    }

    private static void askDistance() {
        about("Promise 3: IllegalArgumentException if distance is not 1 to 5.");
        for (int distance = 1; distance <= 5; distance++) {
            VaultDoors x = three();
            due("ask over " + distance, 1, x.ask(0, 1, distance));
            due("asks(0, 0, 1)", distance, x.asks(0, 0, 1));
        }
        refusedOutside(BoundariesTest::three, "ask: distance", ARGUMENT, 1, 5,
            (x, distance) -> x.ask(0, 1, distance));
    }

    private static void askNotShut() {
        about("Promise 3: IllegalStateException if it is not shut.");
        refused(BoundariesTest::eachState, "ask of one that waits", STATE, x -> x.ask(1, 0, 1));
        refused(BoundariesTest::eachState, "ask of an open one", STATE, x -> x.ask(2, 0, 1));
        refused(BoundariesTest::eachState, "ask of a barred one", STATE, x -> x.ask(3, 0, 1));
        refused(BoundariesTest::lastTicks, "open for a last tick", STATE, x -> x.ask(2, 0, 1));
        refused(BoundariesTest::lastTicks, "barred for a last tick", STATE, x -> x.ask(3, 0, 1));
        VaultDoors x = lastTicks();
        x.pass(1);
        due("a tick later: ask(2, 0, 1)", 1, x.ask(2, 0, 1));
        due("a tick later: ask(3, 0, 1)", 1, x.ask(3, 0, 1));
        VaultDoors other = eachState();
        for (int door = 1; door <= 4; door++) {
            due("the other one need not be shut: ask", door, other.ask(0, door, 1));
        }
    }

    private static VaultDoors askedThree() {
        VaultDoors x = vaultOf(6, 7, 0);
        x.ask(0, 1, 1);
        x.ask(0, 2, 2);
        x.ask(0, 3, 3);
        return x;
    }

    private static VaultDoors askedFour() {
        VaultDoors x = askedThree();
        x.ask(0, 4, 4);
        return x;
    }

    private static void askAlready() {
        about("Promise 3: IllegalStateException if it asks this one already.");
        for (int other = 1; other <= 3; other++) {
            int asked = other;
            refused(BoundariesTest::askedThree, "ask again", STATE, x -> x.ask(0, asked, asked));
            refused(BoundariesTest::askedThree, "over another way", STATE, x -> x.ask(0, asked, 5));
        }
        VaultDoors x = askedThree();
        due("the other way round: ask(1, 0, 1)", 1, x.ask(1, 0, 1));
        due("of another: ask(2, 1, 1)", 1, x.ask(2, 1, 1));
    }

    private static void askFour() {
        about("Promise 3: IllegalStateException if it asks 4.");
        due("the fourth", 4, askedThree().ask(0, 4, 5));
        refused(BoundariesTest::askedFour, "a fifth", STATE, x -> x.ask(0, 5, 1));
        refused(BoundariesTest::askedFour, "one that is asked", STATE, x -> x.ask(0, 4, 4));
        due("another door asks four too", 1, askedFour().ask(5, 0, 1));
    }

    private static void setNoDoor() {
        about("Promise 4: IndexOutOfBoundsException if there is no such door.");
        due("set(0, 1, 3)", 7, three().set(0, 1, 3));
        due("set(2, 1, 3)", 7, three().set(2, 1, 3));
        due("set(9, 1, 3)", 7, ten().set(9, 1, 3));
        refusedOutside(BoundariesTest::three, "set: door", INDEX, 0, 2, (x, door) -> x.set(door, 0, 7));
        refusedOutside(BoundariesTest::ten, "set: door", INDEX, 0, 9, (x, door) -> x.set(door, 0, 7));
    }

    private static void setRule() {
        about("Promise 4: IllegalArgumentException if rule is not 0 to 3.");
        VaultDoors x = three();
        for (int rule = 0; rule <= 3; rule++) {
            x.set(1, rule, 7);
            due("door(1, 2)", rule, x.door(1, 2));
            due("set again", 100 * rule + 7, x.set(1, rule, 7));
        }
        refusedOutside(BoundariesTest::three, "set: rule", ARGUMENT, 0, 3, (v, rule) -> v.set(1, rule, 9));
    }

    private static void setPatience() {
        about("Promise 4: IllegalArgumentException if patience is not 1 to 20.");
        VaultDoors x = three();
        for (int patience = 1; patience <= 20; patience++) {
            x.set(1, 3, patience);
            due("set again", 300 + patience, x.set(1, 3, patience));
        }
        refusedOutside(BoundariesTest::three, "set: patience", ARGUMENT, 1, 20,
            (v, patience) -> v.set(1, 2, patience));
    }

    private static void setAsItIsWoken() {
        about("Promise 4: patience: its patience, as it is woken.");
        for (int door = 0; door <= 3; door++) {
            VaultDoors x = eachState();
            int left = x.door(door, 1);
            due("set", 20, x.set(door, 1, 2));
            due("what is left stays: door(" + door + ", 1)", left, x.door(door, 1));
        }
        VaultDoors x = three();
        x.set(0, 0, 20);
        x.whisper(0, 0);
        due("the longest: door(0, 1)", 20, x.door(0, 1));
        x.set(1, 0, 1);
        x.whisper(1, 1);
        due("the shortest: door(1, 1)", 1, x.door(1, 1));
    }

    private static void whisperNoDoor() {
        about("Promise 5: IndexOutOfBoundsException if there is no such door.");
        due("whisper(0, 0)", true, ten().whisper(0, 0));
        due("whisper(9, 9)", true, ten().whisper(9, 9));
        refusedOutside(BoundariesTest::three, "whisper: door", INDEX, 0, 2, (x, door) -> x.whisper(door, 0));
        refusedOutside(BoundariesTest::ten, "whisper: door", INDEX, 0, 9, (x, door) -> x.whisper(door, 0));
    }

    private static void whisperToken() {
        about("Promise 5: IllegalArgumentException if token is not 0 to 99.");
        VaultDoors x = new VaultDoors();
        x.build(0, 1, 0);
        x.build(99, 1, 0);
        x.build(50, 1, 0);
        x.build(50, 1, 0);
        due("whisper(0, 0)", true, x.whisper(0, 0));
        due("whisper(1, 99)", true, x.whisper(1, 99));
        due("whisper(2, 0)", false, x.whisper(2, 0));
        due("whisper(3, 99)", false, x.whisper(3, 99));
        dueCounts(x, "two wait, two are barred", 0, 4, 0, 2, 0, 2);
        refusedOutside(BoundariesTest::three, "whisper: token", ARGUMENT, 0, 99,
            (v, token) -> v.whisper(0, token));
        refusedOutside(BoundariesTest::eachState, "whisper at one that waits: token", ARGUMENT, 0, 99,
            (v, token) -> v.whisper(1, token));
    }

    private static void whisperNotShut() {
        about("Promise 5: if the door is shut.");
        for (int door = 1; door <= 3; door++) {
            int whispered = door;
            changesNothing(BoundariesTest::eachState, "the secret at " + door, false,
                x -> x.whisper(whispered, whispered));
            changesNothing(BoundariesTest::eachState, "another token at " + door, false,
                x -> x.whisper(whispered, 90));
        }
        for (int door = 2; door <= 3; door++) {
            int whispered = door;
            changesNothing(BoundariesTest::lastTicks, "the secret, for a last tick", false,
                x -> x.whisper(whispered, whispered));
            changesNothing(BoundariesTest::lastTicks, "another token, for a last tick", false,
                x -> x.whisper(whispered, 90));
            VaultDoors later = lastTicks();
            later.pass(1);
            due("the secret, a tick later", true, later.whisper(door, door));
        }
    }

    private static void whisperOther() {
        about("Promise 5: if it is another token, and the door is shut, it is barred for 4 ticks.");
        for (int token = 0; token <= 99; token++) {
            VaultDoors x = new VaultDoors();
            x.build(1, 7, 0);
            x.build(42, 7, 0);
            x.ask(1, 0, 1);
            due("whisper(1, " + token + ")", token == 42, x.whisper(1, token));
            dueDoor(x, "token " + token, 1, token == 42 ? WAITS : BARRED, token == 42 ? 7 : 4,
                0, 1, 0, 0, 0, 0, token == 42 ? 0 : 1);
            due("asks only if it is woken: count(6)", token == 42 ? 1 : 0, x.count(6));
        }
    }

    // ---- promises 6 to 10: what is there

    private static void doorWhat() {
        about("Promise 6: IndexOutOfBoundsException if there is no such door, or what is not 0 to 8.");
        for (int door = 0; door < 5; door++) {
            for (int what = 0; what <= 8; what++) {
                int asked = door;
                int fact = what;
                changesNothing(BoundariesTest::eachState, "door", eachState().door(door, what),
                    x -> x.door(asked, fact));
            }
        }
        refusedOutside(BoundariesTest::three, "door: what", INDEX, 0, 8, (x, what) -> x.door(0, what));
        refusedOutside(BoundariesTest::three, "door: door", INDEX, 0, 2, (x, door) -> x.door(door, 0));
        refusedOutside(BoundariesTest::ten, "door: door", INDEX, 0, 9, (x, door) -> x.door(door, 8));
    }

    private static void doorLeft() {
        about("Promise 6: its patience that is left, if it waits, its time, if it is open or barred, otherwise 0.");
        VaultDoors x = eachState();
        int[] left = {0, 20, 12, 4, 0};
        for (int door = 0; door < 5; door++) {
            due("door(" + door + ", 1)", left[door], x.door(door, 1));
        }
        VaultDoors last = lastTicks();
        due("open for its last tick: door(2, 1)", 1, last.door(2, 1));
        due("barred for its last tick: door(3, 1)", 1, last.door(3, 1));
        last.pass(1);
        due("shut again: door(2, 1)", 0, last.door(2, 1));
        due("shut again: door(3, 1)", 0, last.door(3, 1));
    }

    private static void doorAnswers() {
        about("Promise 6: answers that it has, if it waits, otherwise 0; those of these that are yes.");
        VaultDoors x = vaultOf(4, 20, 1);
        x.set(1, 0, 20);
        x.ask(0, 1, 1);
        x.ask(0, 2, 2);
        x.ask(0, 3, 5);
        dueDoor(x, "shut", 0, SHUT, 0, 1, 3, 0, 0, 0);
        x.whisper(0, 0);
        dueDoor(x, "without any", 0, WAITS, 20, 1, 3, 0, 0, 0);
        x.pass(2);
        dueDoor(x, "a yes", 0, WAITS, 18, 1, 3, 1, 1, 0);
        x.pass(2);
        dueDoor(x, "a yes and a no", 0, WAITS, 16, 1, 3, 2, 1, 0);
        x.pass(6);
        dueDoor(x, "open by a yes and two no", 0, OPEN, 12, 1, 3, 0, 0, 0, 1, 0);
        x.pass(12);
        dueDoor(x, "shut again", 0, SHUT, 0, 1, 3, 0, 0, 0, 1, 0);
        x.whisper(0, 90);
        dueDoor(x, "barred", 0, BARRED, 4, 1, 3, 0, 0, 0, 1, 1);
    }

    private static void asksPlace() {
        about("Promise 7: IndexOutOfBoundsException if there is no such door or place, or what is not 0 to 2.");
        due("asks(0, 0, 0)", 1, asking().asks(0, 0, 0));
        due("asks(0, 3, 0)", 4, asking().asks(0, 3, 0));
        due("asks(0, 3, 2)", -1, asking().asks(0, 3, 2));
        due("asks(1, 0, 1)", 5, asking().asks(1, 0, 1));
        refusedOutside(BoundariesTest::asking, "asks: place", INDEX, 0, 3, (x, i) -> x.asks(0, i, 0));
        refusedOutside(BoundariesTest::asking, "asks: place", INDEX, 0, 0, (x, i) -> x.asks(1, i, 0));
        for (int index = -1; index <= 4; index++) {
            int place = index;
            refused(BoundariesTest::asking, "asks none", INDEX, x -> x.asks(5, place, 0));
        }
        refusedOutside(BoundariesTest::asking, "asks: what", INDEX, 0, 2, (x, what) -> x.asks(0, 0, what));
        refusedOutside(BoundariesTest::asking, "asks: door", INDEX, 0, 5, (x, door) -> x.asks(door, 0, 0));
    }

    private static void asksAnswer() {
        about("Promise 7: 1 yes, 0 no, -1 none yet, or the door does not wait.");
        VaultDoors x = vaultOf(4, 20, 1);
        x.set(1, 0, 20);
        x.ask(0, 1, 1);
        x.ask(0, 2, 2);
        x.ask(0, 3, 3);
        due("shut: asks(0, 0, 2)", -1, x.asks(0, 0, 2));
        x.whisper(0, 0);
        due("none yet: asks(0, 0, 2)", -1, x.asks(0, 0, 2));
        x.pass(5);
        due("yes: asks(0, 0, 2)", 1, x.asks(0, 0, 2));
        due("no: asks(0, 1, 2)", 0, x.asks(0, 1, 2));
        due("none yet: asks(0, 2, 2)", -1, x.asks(0, 2, 2));
        x.pass(1);
        due("it has opened: door(0, 0)", OPEN, x.door(0, 0));
        for (int i = 0; i < 3; i++) {
            due("open: asks(0, " + i + ", 2)", -1, x.asks(0, i, 2));
        }
        x.pass(12);
        due("shut again: asks(0, 0, 2)", -1, x.asks(0, 0, 2));
        x.whisper(0, 90);
        due("barred: asks(0, 0, 2)", -1, x.asks(0, 0, 2));
    }

    private static void voicePlace() {
        about("Promise 8: IndexOutOfBoundsException if there is no such voice, or what is not 0 to 3.");
        due("the first of sixty: voice(0, 3)", 5, sixtyVoices().voice(0, 3));
        due("the last of sixty: voice(59, 0)", 8, sixtyVoices().voice(59, 0));
        refusedOutside(BoundariesTest::sixtyVoices, "voice: place", INDEX, 0, 59, (x, i) -> x.voice(i, 0));
        due("the last of four: voice(3, 1)", 4, asking().voice(3, 1));
        refusedOutside(BoundariesTest::asking, "voice: place", INDEX, 0, 3, (x, i) -> x.voice(i, 0));
        refusedOutside(BoundariesTest::asking, "voice: what", INDEX, 0, 3, (x, what) -> x.voice(0, what));
        refused(BoundariesTest::three, "voice(0, 0) without any", INDEX, x -> x.voice(0, 0));
        VaultDoors heard = asking();
        heard.pass(60);
        due("all were heard: count(6)", 0, heard.count(6));
        refused(() -> {
            VaultDoors x = asking();
            x.pass(60);
            return x;
        }, "voice(0, 0) when all were heard", INDEX, x -> x.voice(0, 0));
    }

    private static void countWhat() {
        about("Promise 9: IndexOutOfBoundsException if what is not 0 to 8.");
        dueCounts(eachState(), "each state", 1, 5, 2, 1, 1, 1, 1, 0, 4);
        refusedOutside(BoundariesTest::eachState, "count: what", INDEX, 0, 8, (x, what) -> x.count(what));
        refusedOutside(BoundariesTest::empty, "count: what", INDEX, 0, 8, (x, what) -> x.count(what));
    }

    private static void countSet() {
        about("Promise 9: the doors that are open, as a set: the bit with the number of each one is set.");
        VaultDoors x = ten();
        due("none", 0, x.count(8));
        x.whisper(9, 9);
        due("one that waits", 0, x.count(8));
        x.pass(1);
        due("the last one", 512, x.count(8));
        x.whisper(0, 0);
        x.pass(1);
        due("the last and the first one", 513, x.count(8));
        for (int door = 1; door < 9; door++) {
            x.whisper(door, door);
        }
        x.pass(1);
        due("all", 1023, x.count(8));
        due("count(4)", 10, x.count(4));
        due("count(2)", 0, x.count(2));
    }

    private static void reachNoDoor() {
        about("Promise 10: IndexOutOfBoundsException if there is no such door.");
        changesNothing(BoundariesTest::ten, "reach(0)", 0, x -> x.reach(0));
        changesNothing(BoundariesTest::ten, "reach(9)", 0, x -> x.reach(9));
        refusedOutside(BoundariesTest::three, "reach: door", INDEX, 0, 2, (x, door) -> x.reach(door));
        refusedOutside(BoundariesTest::ten, "reach: door", INDEX, 0, 9, (x, door) -> x.reach(door));
    }

    private static VaultDoors chain(boolean down) {
        VaultDoors x = ten();
        for (int door = 0; door < 9; door++) {
            x.ask(down ? door + 1 : door, down ? door : door + 1, 1);
        }
        return x;
    }

    private static void reachItself() {
        about("Promise 10: the doors that it asks, and so on; with itself, if it is asked so.");
        due("the longest way up: reach(0)", 1022, chain(false).reach(0));
        due("its end: reach(9)", 0, chain(false).reach(9));
        due("ahead of its end: reach(8)", 512, chain(false).reach(8));
        due("the longest way down: reach(9)", 511, chain(true).reach(9));
        due("its end: reach(0)", 0, chain(true).reach(0));
        VaultDoors up = chain(false);
        up.ask(9, 0, 1);
        VaultDoors down = chain(true);
        down.ask(0, 9, 1);
        for (int door = 0; door < 10; door++) {
            due("a ring of ten: reach(" + door + ")", 1023, up.reach(door));
            due("a ring of ten: reach(" + door + ")", 1023, down.reach(door));
        }
        VaultDoors two = three();
        two.ask(0, 1, 1);
        two.ask(1, 2, 1);
        two.ask(2, 1, 1);
        due("it is not in the ring that it asks: reach(0)", 6, two.reach(0));
        due("in a ring of two: reach(1)", 6, two.reach(1));
        due("asks four, and one of these another one of them: reach(0)", 30, asking().reach(0));
        due("in a ring of seven that ask four each: reach(6)", 127, sixtyVoices().reach(6));
    }

    // ---- promise 11: ticks

    private static void passTicks() {
        about("Promise 11: IllegalArgumentException if ticks is not 1 to 200.");
        VaultDoors x = eachState();
        x.pass(1);
        due("a tick: count(0)", 2, x.count(0));
        x.pass(200);
        due("200 ticks: count(0)", 202, x.count(0));
        refusedOutside(BoundariesTest::eachState, "pass", ARGUMENT, 1, 200, (v, ticks) -> v.pass(ticks));
        refusedOutside(BoundariesTest::empty, "pass", ARGUMENT, 1, 200, (v, ticks) -> v.pass(ticks));
        VaultDoors once = slowVault(SLOW_TICKS - 1);
        VaultDoors often = slowVault(SLOW_TICKS - 1);
        int opened = 0;
        for (int i = 0; i < 200; i++) {
            opened += often.pass(1);
        }
        due("200 ticks, and 200 times a tick", opened, once.pass(200));
        due("digest()", often.digest(), once.digest());
    }

    /** Three doors ask in a ring: each opens again, whenever a question has gone round in 15 ticks. */
    private static void passCounts() {
        about("Promise 11: Returns how often doors opened in them.");
        VaultDoors x = vaultOf(3, 1, 3);
        x.ask(0, 1, 5);
        x.ask(1, 2, 5);
        x.ask(2, 0, 5);
        due("none", 0, x.pass(1));
        x.whisper(0, 0);
        due("one at once", 1, x.pass(1));
        due("none", 0, x.pass(3));
        due("one in its last tick", 1, x.pass(1));
        due("the others, and the first one again", 2, x.pass(10));
        due("again and again", 40, x.pass(200));
        due("door(0, 7)", 15, x.door(0, 7));
        VaultDoors all = ten();
        for (int door = 0; door < 10; door++) {
            all.whisper(door, door);
        }
        due("ten in a tick", 10, all.pass(1));
    }

    // ---- promises 12 to 16: what would be

    private static void opensNoDoor() {
        about("Promise 12: IndexOutOfBoundsException if there is no such door.");
        due("opens(0)", -1, ten().opens(0));
        due("opens(9)", -1, ten().opens(9));
        refusedOutside(BoundariesTest::three, "opens: door", INDEX, 0, 2, (x, door) -> x.opens(door));
        refusedOutside(BoundariesTest::ten, "opens: door", INDEX, 0, 9, (x, door) -> x.opens(door));
    }

    private static void opensAtOnce() {
        about("Promise 12: behind how many ticks it is open, if nothing is done: 0 if it is.");
        changesNothing(BoundariesTest::eachState, "open", 0, x -> x.opens(2));
        changesNothing(BoundariesTest::lastTicks, "open for its last tick", 0, x -> x.opens(2));
        VaultDoors shut = lastTicks();
        shut.pass(1);
        due("shut again", -1, shut.opens(2));
        VaultDoors soon = three();
        soon.whisper(0, 0);
        due("a tick ahead", 1, soon.opens(0));
    }

    private static void opensAtMost100() {
        about("Promise 12: at most 100; -1 if not by then (nothing is changed).");
        changesNothing(BoundariesTest::eachState, "shut", -1, x -> x.opens(0));
        changesNothing(BoundariesTest::eachState, "waits", 10, x -> x.opens(1));
        changesNothing(BoundariesTest::eachState, "barred", -1, x -> x.opens(3));
        for (int ticks = 1; ticks <= 103; ticks++) {
            int ahead = ticks;
            changesNothing(() -> slowVault(ahead), ticks + " ticks ahead: opens", ticks <= 100 ? ticks : -1,
                x -> x.opens(SLOW_DOOR));
        }
        due("it opens then: pass(1)", OPEN, slowVault(0).door(SLOW_DOOR, 0));
    }

    private static void wouldNoDoor() {
        about("Promise 13: IndexOutOfBoundsException if there is no such door.");
        due("would(0, 1)", 1, ten().would(0, 1));
        due("would(9, 1)", 512, ten().would(9, 1));
        refusedOutside(BoundariesTest::three, "would: door", INDEX, 0, 2, (x, door) -> x.would(door, 1));
        refusedOutside(BoundariesTest::ten, "would: door", INDEX, 0, 9, (x, door) -> x.would(door, 1));
    }

    private static void wouldTicks() {
        about("Promise 13: IllegalArgumentException if ticks is not 1 to 100.");
        changesNothing(BoundariesTest::three, "would(2, 1)", 4, x -> x.would(2, 1));
        changesNothing(BoundariesTest::three, "would(2, 100)", 4, x -> x.would(2, 100));
        refusedOutside(BoundariesTest::three, "would: ticks", ARGUMENT, 1, 100, (x, ticks) -> x.would(0, ticks));
        refusedOutside(BoundariesTest::eachState, "would: ticks", ARGUMENT, 1, 100, (x, ticks) -> x.would(2, ticks));
    }

    private static void wouldBehind() {
        about("Promise 13: all doors that are open behind one or more of so many ticks, as a set.");
        for (int ticks = 1; ticks <= 100; ticks++) {
            due("would(0, " + ticks + ")", ticks < 30 ? 0 : 8, thirtyTicks().would(0, ticks));
        }
        for (int ticks = 99; ticks <= 101; ticks++) {
            VaultDoors x = slowVault(ticks);
            due(ticks + " ticks ahead, of 100", ticks <= 100 ? 1 : 0, x.would(IDLE_DOOR, 100) >> SLOW_DOOR & 1);
            due(ticks + " ticks ahead, of 99", ticks <= 99 ? 1 : 0, x.would(IDLE_DOOR, 99) >> SLOW_DOOR & 1);
        }
    }

    private static void wouldAnyway() {
        about("Promise 13: also those that are open anyway (nothing is changed).");
        changesNothing(BoundariesTest::eachState, "would(0, 1)", 1 + 4, x -> x.would(0, 1));
        changesNothing(BoundariesTest::eachState, "would of one that waits", 2 + 4 + 16, x -> x.would(1, 100));
        changesNothing(BoundariesTest::eachState, "would of an open one", 4, x -> x.would(2, 1));
        changesNothing(BoundariesTest::eachState, "would of a barred one", 4, x -> x.would(3, 1));
        changesNothing(BoundariesTest::lastTicks, "open now, but behind no tick", 1, x -> x.would(0, 1));
        changesNothing(BoundariesTest::lastTicks, "of this one too", 0, x -> x.would(2, 100));
        VaultDoors x = vaultOf(3, 20, 1);
        due("none", 0, x.would(0, 100));
    }

    private static void bestTicks() {
        about("Promise 14: IllegalArgumentException if ticks is not 1 to 30.");
        changesNothing(BoundariesTest::three, "best(1)", 0, x -> x.best(1));
        changesNothing(BoundariesTest::three, "best(30)", 0, x -> x.best(30));
        refusedOutside(BoundariesTest::three, "best", ARGUMENT, 1, 30, (x, ticks) -> x.best(ticks));
        refusedOutside(BoundariesTest::empty, "best", ARGUMENT, 1, 30, (x, ticks) -> x.best(ticks));
        changesNothing(BoundariesTest::thirtyTicks, "best(29)", 1, x -> x.best(29));
        changesNothing(BoundariesTest::thirtyTicks, "best(30)", 0, x -> x.best(30));
    }

    private static void bestWithoutDoors() {
        about("Promise 14: -1 without doors (nothing is changed).");
        changesNothing(BoundariesTest::empty, "best(1)", -1, x -> x.best(1));
        changesNothing(BoundariesTest::empty, "best(30)", -1, x -> x.best(30));
        due("with a door", 0, vaultOf(1, 1, 0).best(1));
        due("with a door that opens by no token", 0, vaultOf(1, 1, 1).best(30));
    }

    private static void bestOfSeveral() {
        about("Promise 14: of several the one with the smallest number.");
        for (int first = 0; first < 9; first++) {
            VaultDoors x = vaultOf(10, 7, 1);
            for (int door = first; door < 10; door++) {
                x.set(door, 0, 7);
            }
            due("the first of several: best(1)", first, x.best(1));
        }
        due("none opens: best(30)", 0, vaultOf(10, 7, 1).best(30));
        VaultDoors last = vaultOf(10, 7, 0);
        last.ask(9, 0, 1);
        due("the last opens one more: best(2)", 9, last.best(2));
        due("but not in a tick: best(1)", 0, last.best(1));
    }

    private static void meanOfNone() {
        about("Promise 15: 0 if neither was.");
        due("without doors", 0.0, empty().mean());
        due("none was whispered at", 0.0, ten().mean());
        VaultDoors waits = asking();
        due("one waits", 0.0, waits.mean());
    }

    private static void meanOfSome() {
        about("Promise 15: how often doors opened in all, divided by how often they opened or were barred.");
        VaultDoors one = vaultOf(1, 1, 0);
        one.whisper(0, 0);
        one.pass(1);
        due("opened once", 1.0, one.mean());
        VaultDoors x = vaultOf(3, 1, 0);
        x.set(2, 1, 1);
        x.whisper(2, 2);
        x.pass(1);
        due("barred only", 0.0, x.mean());
        x.whisper(0, 90);
        due("barred only, once by a token", 0.0, x.mean());
        x.whisper(1, 1);
        x.pass(1);
        due("a third", 1.0 / 3.0, x.mean());
        x.pass(200);
        due("all are shut again", 1.0 / 3.0, x.mean());
        VaultDoors open = vaultOf(10, 1, 0);
        for (int door = 0; door < 10; door++) {
            open.whisper(door, door);
        }
        open.pass(1);
        due("opened only", 1.0, open.mean());
    }

    /** What digest() adds, each number asked of a new vault, as an object has but 512 calls. */
    private static List<Integer> numbersOf(Maker maker) {
        List<Integer> numbers = new ArrayList<>();
        VaultDoors counted = maker.make();
        for (int what = 0; what < 9; what++) {
            numbers.add(counted.count(what));
        }
        for (int door = 0; door < counted.count(1); door++) {
            VaultDoors x = maker.make();
            for (int what = 0; what < 9; what++) {
                numbers.add(x.door(door, what));
            }
            for (int i = 0; i < x.door(door, 3); i++) {
                for (int what = 0; what < 3; what++) {
                    numbers.add(x.asks(door, i, what));
                }
            }
        }
        VaultDoors voiced = maker.make();
        for (int i = 0; i < counted.count(6); i++) {
            for (int what = 0; what < 4; what++) {
                numbers.add(voiced.voice(i, what));
            }
        }
        return numbers;
    }

    private static BigInteger unwrapped(List<Integer> numbers) {
        BigInteger d = BigInteger.valueOf(907);
        for (int number : numbers) {
            d = d.multiply(BigInteger.valueOf(31)).add(BigInteger.valueOf(number));
        }
        return d;
    }

    private static void digestWraps() {
        about("Promise 16: d becomes d * 31 + x, which wraps around as a 64-bit integer.");
        due("without doors", 23980737299728597L, empty().digest());
        List<Maker> makers = List.of(BoundariesTest::three, BoundariesTest::ten, BoundariesTest::eachState,
            BoundariesTest::asking, BoundariesTest::sixtyVoices, () -> slowVault(50));
        for (Maker maker : makers) {
            BigInteger d = unwrapped(numbersOf(maker));
            if (d.bitLength() <= 64) {
                fault("too few numbers to wrap around");
            }
            changesNothing(maker, "digest()", d.longValue(), x -> x.digest());
        }
        VaultDoors x = new VaultDoors();
        x.build(5, 6, 2);
        due("a door of the rule 2", unwrapped(List.of(0, 1, 1, 0, 0, 0, 0, 0, 0,
            0, 0, 2, 0, 0, 0, 0, 0, 0)).longValue(), x.digest());
    }

    // ---- all of them

    /** What one test throws is its own fault, and keeps no other one from being run. */
    private static void check(Runnable test) {
        try {
            test.run();
        } catch (RuntimeException e) {
            fault("a call that is within the limits throws " + e);
        }
    }

    private static void terms() {
        check(BoundariesTest::calls);
        check(BoundariesTest::time);
        check(BoundariesTest::doorNumbers);
        check(BoundariesTest::shutAtFirst);
        check(BoundariesTest::openFor12);
        check(BoundariesTest::barredFor4);
        check(BoundariesTest::asksAtMost4);
        check(BoundariesTest::ruleAll);
        check(BoundariesTest::ruleSome);
        check(BoundariesTest::ruleMost);
        check(BoundariesTest::ruleNone);
        check(BoundariesTest::atMost60);
        check(BoundariesTest::heardAreGoneAhead);
        check(BoundariesTest::fullInATick);
        check(BoundariesTest::wakingWaits);
        check(BoundariesTest::wakingSends);
        check(BoundariesTest::wokenWithoutAnswers);
        check(BoundariesTest::heardWithNoneLeft);
        check(BoundariesTest::questionToOpen);
        check(BoundariesTest::questionToBarred);
        check(BoundariesTest::remembered);
        check(BoundariesTest::answersInOrder);
        check(BoundariesTest::answersCountOnce);
        check(BoundariesTest::patienceInATick);
        check(BoundariesTest::missingAnswers);
        check(BoundariesTest::allAnswers);
        check(BoundariesTest::namedFirst);
    }

    private static void promises1To5() {
        check(BoundariesTest::newVault);
        check(BoundariesTest::buildSecret);
        check(BoundariesTest::buildPatience);
        check(BoundariesTest::buildRule);
        check(BoundariesTest::buildFull);
        check(BoundariesTest::askNoDoor);
        check(BoundariesTest::askSame);
        check(BoundariesTest::askDistance);
        check(BoundariesTest::askNotShut);
        check(BoundariesTest::askAlready);
        check(BoundariesTest::askFour);
        check(BoundariesTest::setNoDoor);
        check(BoundariesTest::setRule);
        check(BoundariesTest::setPatience);
        check(BoundariesTest::setAsItIsWoken);
        check(BoundariesTest::whisperNoDoor);
        check(BoundariesTest::whisperToken);
        check(BoundariesTest::whisperNotShut);
        check(BoundariesTest::whisperOther);
    }

    private static void promises6To11() {
        check(BoundariesTest::doorWhat);
        check(BoundariesTest::doorLeft);
        check(BoundariesTest::doorAnswers);
        check(BoundariesTest::asksPlace);
        check(BoundariesTest::asksAnswer);
        check(BoundariesTest::voicePlace);
        check(BoundariesTest::countWhat);
        check(BoundariesTest::countSet);
        check(BoundariesTest::reachNoDoor);
        check(BoundariesTest::reachItself);
        check(BoundariesTest::passTicks);
        check(BoundariesTest::passCounts);
    }

    private static void promises12To16() {
        check(BoundariesTest::opensNoDoor);
        check(BoundariesTest::opensAtOnce);
        check(BoundariesTest::opensAtMost100);
        check(BoundariesTest::wouldNoDoor);
        check(BoundariesTest::wouldTicks);
        check(BoundariesTest::wouldBehind);
        check(BoundariesTest::wouldAnyway);
        check(BoundariesTest::bestTicks);
        check(BoundariesTest::bestWithoutDoors);
        check(BoundariesTest::bestOfSeveral);
        check(BoundariesTest::meanOfNone);
        check(BoundariesTest::meanOfSome);
        check(BoundariesTest::digestWraps);
    }

    public static void main(String[] args) {
        terms();
        promises1To5();
        promises6To11();
        promises12To16();
        System.out.println(wrong == 0 ? sentences + " sentences hold" : wrong + " answers are not as due");
        if (wrong != 0) {
            System.exit(1);
        }
    }
}
