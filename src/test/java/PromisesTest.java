import java.util.ArrayList;
import java.util.List;

/** For each promise of the document: ordinary inputs, the edges that it names, and wrong inputs. */
public final class PromisesTest {
    private interface Call {
        long answer();
    }

    private static final Class<IndexOutOfBoundsException> INDEX = IndexOutOfBoundsException.class;
    private static final Class<IllegalArgumentException> ARGUMENT = IllegalArgumentException.class;
    private static final Class<IllegalStateException> STATE = IllegalStateException.class;

    private static final int SHUT = 0;
    private static final int WAITS = 1;
    private static final int OPEN = 2;
    private static final int BARRED = 3;

    private static int wrong = 0;

    private static void due(String call, long want, long got) {
        if (got != want) {
            wrong++;
            System.out.println(call + " answered " + got + ", due is " + want);
        }
    }

    private static void dueMean(String call, double want, double got) {
        if (got != want) {
            wrong++;
            System.out.println(call + ": mean() answered " + got + ", due is " + want);
        }
    }

    /** The call throws just this exception, and changes nothing. */
    private static void refused(VaultDoors x, String name, Class<?> want, Call call) {
        List<Long> before = look(x);
        String got = "no exception";
        try {
            call.answer();
        } catch (RuntimeException e) {
            got = e.getClass().getName();
        }
        if (!got.equals(want.getName())) {
            wrong++;
            System.out.println(name + ": " + got + ", due is " + want.getName());
        }
        unchanged(x, name, before);
    }

    private static void unchanged(VaultDoors x, String name, List<Long> before) {
        if (!before.equals(look(x))) {
            wrong++;
            System.out.println(name + " changed something");
        }
    }

    /** What is there, and what becomes of it; in few calls, as an object has but 512. */
    private static List<Long> look(VaultDoors x) {
        List<Long> seen = new ArrayList<>();
        seen.add(x.digest());
        int doors = x.count(1);
        for (int door = 0; door < doors; door++) {
            seen.add((long) x.would(door, 60));
        }
        return seen;
    }

    private static void dueDoor(VaultDoors x, String name, int door, int... want) {
        for (int what = 0; what < want.length; what++) {
            due(name + ": door(" + door + ", " + what + ")", want[what], x.door(door, what));
        }
    }

    private static void dueCounts(VaultDoors x, String name, int... want) {
        for (int what = 0; what < want.length; what++) {
            due(name + ": count(" + what + ")", want[what], x.count(what));
        }
    }

    private static void dueVoices(VaultDoors x, String name, int[]... want) {
        due(name + ": count(6)", want.length, x.count(6));
        for (int i = 0; i < want.length && i < x.count(6); i++) {
            for (int what = 0; what < 4; what++) {
                due(name + ": voice(" + i + ", " + what + ")", want[i][what], x.voice(i, what));
            }
        }
    }

    private static int[] voice(int... facts) {
        return facts;
    }

    private static long whispered(VaultDoors x, int door, int token) {
        return x.whisper(door, token) ? 1 : 0;
    }

    /** Doors with the secrets 0, 1, 2 and so on. */
    private static VaultDoors vaultOf(int doors, int patience, int rule) {
        VaultDoors x = new VaultDoors();
        for (int i = 0; i < doors; i++) {
            x.build(i, patience, rule);
        }
        return x;
    }

    private static void promise1() {
        VaultDoors x = new VaultDoors();
        dueCounts(x, "a new vault", 0, 0, 0, 0, 0, 0, 0, 0, 0);
        dueMean("a new vault", 0.0, x.mean());
        due("a new vault: best(30)", -1, x.best(30));
        refused(x, "a new vault: door(0, 0)", INDEX, () -> x.door(0, 0));
        refused(x, "a new vault: voice(0, 0)", INDEX, () -> x.voice(0, 0));
        VaultDoors other = new VaultDoors();
        other.build(1, 1, 0);
        due("two vaults share no doors: count(1)", 0, x.count(1));
        due("a new vault: pass(1)", 0, x.pass(1));
        due("a new vault after a tick: count(0)", 1, x.count(0));
    }

    private static void promise2() {
        VaultDoors x = new VaultDoors();
        due("build(0, 1, 0)", 0, x.build(0, 1, 0));
        due("build(99, 20, 3)", 1, x.build(99, 20, 3));
        due("build(99, 5, 1), a secret that is used", 2, x.build(99, 5, 1));
        dueDoor(x, "a new door", 1, SHUT, 0, 3, 0, 0, 0, 0, 0, 0);
        int[][] bad = {{-1, 1, 0}, {100, 1, 0}, {0, 0, 0}, {0, 21, 0}, {0, 1, -1}, {0, 1, 4},
            {Integer.MIN_VALUE, 1, 0}, {0, Integer.MAX_VALUE, 0}, {0, 1, Integer.MIN_VALUE}};
        for (int[] b : bad) {
            refused(x, "build of wrong numbers", ARGUMENT, () -> x.build(b[0], b[1], b[2]));
        }
        for (int number = 3; number < 10; number++) {
            due("build", number, x.build(1, 1, 2));
        }
        refused(x, "an eleventh build", STATE, () -> x.build(1, 1, 2));
        refused(x, "an eleventh build of wrong numbers", ARGUMENT, () -> x.build(1, 0, 2));
        due("whisper(1, 99)", 1, whispered(x, 1, 99));
        due("its patience", 20, x.door(1, 1));
    }

    private static void promise3() {
        VaultDoors x = vaultOf(7, 3, 0);
        due("ask(0, 1, 1)", 1, x.ask(0, 1, 1));
        due("ask(0, 6, 5)", 2, x.ask(0, 6, 5));
        due("ask(1, 0, 5), the other way round", 1, x.ask(1, 0, 5));
        due("asks(0, 1, 0)", 6, x.asks(0, 1, 0));
        due("asks(0, 1, 1)", 5, x.asks(0, 1, 1));
        refused(x, "ask(7, 0, 1)", INDEX, () -> x.ask(7, 0, 1));
        refused(x, "ask(-1, 0, 1)", INDEX, () -> x.ask(-1, 0, 1));
        refused(x, "ask(0, 7, 1)", INDEX, () -> x.ask(0, 7, 1));
        refused(x, "ask(0, -1, 1)", INDEX, () -> x.ask(0, -1, 1));
        refused(x, "ask(7, 7, 0)", INDEX, () -> x.ask(7, 7, 0));
        refused(x, "ask(2, 2, 1)", ARGUMENT, () -> x.ask(2, 2, 1));
        refused(x, "ask(2, 3, 0)", ARGUMENT, () -> x.ask(2, 3, 0));
        refused(x, "ask(2, 3, 6)", ARGUMENT, () -> x.ask(2, 3, 6));
        refused(x, "ask(0, 1, 6), asked already", ARGUMENT, () -> x.ask(0, 1, 6));
        refused(x, "ask(0, 1, 2), asked already", STATE, () -> x.ask(0, 1, 2));
        due("ask(0, 2, 2)", 3, x.ask(0, 2, 2));
        due("ask(0, 3, 3)", 4, x.ask(0, 3, 3));
        refused(x, "a fifth ask", STATE, () -> x.ask(0, 4, 1));
        x.whisper(4, 4);
        refused(x, "ask of a door that waits", STATE, () -> x.ask(4, 0, 1));
        due("ask for a door that waits", 1, x.ask(5, 4, 1));
        x.pass(1);
        due("door(4, 0)", OPEN, x.door(4, 0));
        refused(x, "ask of an open door", STATE, () -> x.ask(4, 0, 1));
        x.whisper(6, 50);
        refused(x, "ask of a barred door", STATE, () -> x.ask(6, 0, 1));
        x.pass(12);
        due("ask of a door that is shut again", 1, x.ask(4, 0, 1));
        due("ask of a door that is shut again", 1, x.ask(6, 0, 1));
    }

    private static void promise4() {
        VaultDoors x = vaultOf(2, 5, 0);
        x.ask(0, 1, 1);
        due("set(0, 3, 20)", 5, x.set(0, 3, 20));
        due("set(0, 1, 1)", 320, x.set(0, 1, 1));
        due("set(0, 0, 5)", 101, x.set(0, 0, 5));
        refused(x, "set(2, 0, 1)", INDEX, () -> x.set(2, 0, 1));
        refused(x, "set(-1, 9, 0)", INDEX, () -> x.set(-1, 9, 0));
        refused(x, "set(0, -1, 1)", ARGUMENT, () -> x.set(0, -1, 1));
        refused(x, "set(0, 4, 1)", ARGUMENT, () -> x.set(0, 4, 1));
        refused(x, "set(0, 0, 0)", ARGUMENT, () -> x.set(0, 0, 0));
        refused(x, "set(0, 0, 21)", ARGUMENT, () -> x.set(0, 0, 21));
        due("set(0, 0, 5) after wrong ones", 5, x.set(0, 0, 5));
        x.whisper(1, 70);
        x.whisper(0, 0);
        due("set of a door that waits", 5, x.set(0, 3, 2));
        due("its rule is new at once: door(0, 2)", 3, x.door(0, 2));
        due("its patience is not: door(0, 1)", 5, x.door(0, 1));
        due("it decides by the new rule: pass(2)", 1, x.pass(2));
        due("door(0, 0)", OPEN, x.door(0, 0));
        x.pass(12);
        x.whisper(0, 0);
        due("the new patience, as it is woken: door(0, 1)", 2, x.door(0, 1));
    }

    private static void promise5() {
        VaultDoors x = new VaultDoors();
        x.build(0, 3, 0);
        x.build(99, 20, 0);
        x.build(5, 4, 0);
        x.ask(0, 1, 4);
        x.ask(0, 2, 2);
        refused(x, "whisper(3, 0)", INDEX, () -> whispered(x, 3, 0));
        refused(x, "whisper(-1, 100)", INDEX, () -> whispered(x, -1, 100));
        refused(x, "whisper(0, -1)", ARGUMENT, () -> whispered(x, 0, -1));
        refused(x, "whisper(0, 100)", ARGUMENT, () -> whispered(x, 0, 100));
        due("whisper(0, 0)", 1, whispered(x, 0, 0));
        dueDoor(x, "woken", 0, WAITS, 3, 0, 2, 0, 0, 0, 0, 0);
        dueVoices(x, "woken", voice(0, 1, 0, 4), voice(0, 2, 0, 2));
        List<Long> before = look(x);
        due("whisper(0, 0) as it waits", 0, whispered(x, 0, 0));
        due("whisper(0, 1) as it waits", 0, whispered(x, 0, 1));
        unchanged(x, "whispering at a door that waits", before);
        due("whisper(1, 98)", 0, whispered(x, 1, 98));
        dueDoor(x, "barred", 1, BARRED, 4, 0, 0, 0, 0, 0, 0, 1);
        before = look(x);
        due("whisper(1, 99) as it is barred", 0, whispered(x, 1, 99));
        due("whisper(1, 98) as it is barred", 0, whispered(x, 1, 98));
        unchanged(x, "whispering at a barred door", before);
        x.whisper(2, 5);
        x.pass(1);
        due("door(2, 0)", OPEN, x.door(2, 0));
        before = look(x);
        due("whisper(2, 5) as it is open", 0, whispered(x, 2, 5));
        due("whisper(2, 6) as it is open", 0, whispered(x, 2, 6));
        unchanged(x, "whispering at an open door", before);
        x.pass(2);
        dueDoor(x, "barred still", 1, BARRED, 1);
        x.pass(1);
        dueDoor(x, "shut again, and woken by the question of this tick", 1, OPEN, 12);
    }

    private static void promise6() {
        VaultDoors x = vaultOf(4, 9, 0);
        x.set(0, 2, 9);
        x.ask(0, 1, 1);
        x.ask(0, 2, 2);
        x.ask(0, 3, 5);
        x.ask(3, 0, 1);
        x.whisper(2, 77);
        x.whisper(0, 0);
        x.whisper(3, 3);
        x.pass(2);
        dueDoor(x, "with one answer of three", 0, WAITS, 7, 2, 3, 1, 1, 1, 0, 0);
        x.pass(2);
        dueDoor(x, "with two answers", 0, WAITS, 5, 2, 3, 2, 1, 1, 0, 0);
        dueDoor(x, "open since the tick 1", 1, OPEN, 9, 0, 0, 0, 0, 0, 1, 0);
        dueDoor(x, "shut after being barred", 2, SHUT, 0, 0, 0, 0, 0, 0, 0, 1);
        x.pass(5);
        dueDoor(x, "out of patience, with one yes of three", 0, BARRED, 4, 2, 3, 0, 0, 0, 0, 1);
        dueDoor(x, "out of patience as well", 3, BARRED, 4, 0, 1, 0, 0, 0, 0, 1);
        refused(x, "door(4, 0)", INDEX, () -> x.door(4, 0));
        refused(x, "door(-1, 0)", INDEX, () -> x.door(-1, 0));
        refused(x, "door(0, -1)", INDEX, () -> x.door(0, -1));
        refused(x, "door(0, 9)", INDEX, () -> x.door(0, 9));
    }

    private static void promise7() {
        VaultDoors x = vaultOf(4, 12, 0);
        x.ask(0, 3, 1);
        x.ask(0, 1, 2);
        x.ask(0, 2, 5);
        due("asks(0, 0, 0)", 3, x.asks(0, 0, 0));
        due("asks(0, 1, 0)", 1, x.asks(0, 1, 0));
        due("asks(0, 2, 1)", 5, x.asks(0, 2, 1));
        due("asks(0, 0, 2) of a door that is shut", -1, x.asks(0, 0, 2));
        x.whisper(1, 50);
        x.whisper(0, 0);
        due("asks(0, 0, 2) without an answer", -1, x.asks(0, 0, 2));
        x.pass(4);
        due("asks(0, 0, 2) by a yes", 1, x.asks(0, 0, 2));
        due("asks(0, 1, 2) by a no", 0, x.asks(0, 1, 2));
        due("asks(0, 2, 2) without an answer", -1, x.asks(0, 2, 2));
        x.pass(6);
        due("it has decided: door(0, 0)", BARRED, x.door(0, 0));
        due("asks(0, 0, 2) of a barred door", -1, x.asks(0, 0, 2));
        due("asks(0, 1, 2) of a barred door", -1, x.asks(0, 1, 2));
        x.pass(4);
        x.whisper(0, 0);
        due("asks(0, 0, 2) as it is woken again", -1, x.asks(0, 0, 2));
        refused(x, "asks(4, 0, 0)", INDEX, () -> x.asks(4, 0, 0));
        refused(x, "asks(-1, 0, 0)", INDEX, () -> x.asks(-1, 0, 0));
        refused(x, "asks(0, 3, 0)", INDEX, () -> x.asks(0, 3, 0));
        refused(x, "asks(0, -1, 0)", INDEX, () -> x.asks(0, -1, 0));
        refused(x, "asks(1, 0, 0)", INDEX, () -> x.asks(1, 0, 0));
        refused(x, "asks(0, 0, -1)", INDEX, () -> x.asks(0, 0, -1));
        refused(x, "asks(0, 0, 3)", INDEX, () -> x.asks(0, 0, 3));
    }

    private static void promise8() {
        VaultDoors x = vaultOf(3, 20, 0);
        x.ask(0, 1, 2);
        x.ask(0, 2, 3);
        x.whisper(2, 50);
        x.whisper(0, 0);
        dueVoices(x, "two questions", voice(0, 1, 0, 2), voice(0, 2, 0, 3));
        x.pass(1);
        dueVoices(x, "a tick later", voice(0, 1, 0, 1), voice(0, 2, 0, 2));
        x.pass(1);
        dueVoices(x, "a yes is new at the end", voice(0, 2, 0, 1), voice(1, 0, 2, 2));
        x.pass(1);
        dueVoices(x, "and a no", voice(1, 0, 2, 1), voice(2, 0, 1, 3));
        refused(x, "voice(2, 0)", INDEX, () -> x.voice(2, 0));
        refused(x, "voice(-1, 0)", INDEX, () -> x.voice(-1, 0));
        refused(x, "voice(60, 0)", INDEX, () -> x.voice(60, 0));
        refused(x, "voice(0, -1)", INDEX, () -> x.voice(0, -1));
        refused(x, "voice(0, 4)", INDEX, () -> x.voice(0, 4));
        x.pass(3);
        dueVoices(x, "all is said");
        refused(x, "voice(0, 0)", INDEX, () -> x.voice(0, 0));
    }

    private static void promise9() {
        VaultDoors x = vaultOf(5, 7, 0);
        x.ask(0, 1, 5);
        x.ask(4, 0, 5);
        x.whisper(1, 1);
        x.whisper(3, 3);
        x.whisper(2, 50);
        x.pass(2);
        x.whisper(0, 0);
        dueCounts(x, "one of each", 2, 5, 1, 1, 2, 1, 1, 0, 2 + 8);
        x.pass(200);
        dueCounts(x, "all are shut", 202, 5, 5, 0, 0, 0, 0, 0, 0);
        refused(x, "count(-1)", INDEX, () -> x.count(-1));
        refused(x, "count(9)", INDEX, () -> x.count(9));
    }

    private static void promise10() {
        VaultDoors x = vaultOf(10, 3, 0);
        for (int door = 9; door > 0; door--) {
            x.ask(door, door - 1, 1);
        }
        due("reach(0) of a door that asks none", 0, x.reach(0));
        due("reach(1)", 1, x.reach(1));
        due("reach(9) down a chain of ten", 511, x.reach(9));
        x.ask(3, 5, 1);
        due("reach(5) of a door in a ring", 63, x.reach(5));
        due("reach(3) of a door in a ring", 63, x.reach(3));
        due("reach(6) of a door that only asks a ring", 63, x.reach(6));
        due("reach(2) of a door that a ring asks", 3, x.reach(2));
        x.ask(0, 9, 1);
        due("reach(0) up a ring of ten", 1023, x.reach(0));
        due("reach(5) on a ring of ten, past the door 0", 1023, x.reach(5));
        refused(x, "reach(10)", INDEX, () -> x.reach(10));
        refused(x, "reach(-1)", INDEX, () -> x.reach(-1));
    }

    private static void promise11() {
        VaultDoors x = vaultOf(2, 2, 0);
        x.ask(1, 0, 1);
        x.ask(0, 1, 1);
        refused(x, "pass(0)", ARGUMENT, () -> x.pass(0));
        refused(x, "pass(-1)", ARGUMENT, () -> x.pass(-1));
        refused(x, "pass(201)", ARGUMENT, () -> x.pass(201));
        due("pass(1)", 0, x.pass(1));
        due("pass(200)", 0, x.pass(200));
        due("count(0)", 201, x.count(0));
        x.set(0, 3, 1);
        x.set(1, 3, 1);
        x.whisper(0, 0);
        due("both open in one tick after the other: pass(2)", 2, x.pass(1) + x.pass(1));
        VaultDoors ring = vaultOf(2, 1, 3);
        ring.ask(0, 1, 5);
        ring.ask(1, 0, 5);
        ring.whisper(0, 0);
        due("0 in the tick 1, 1 in the tick 5: pass(200)", 2, ring.pass(200));
        VaultDoors three = vaultOf(3, 1, 3);
        three.whisper(0, 0);
        three.whisper(1, 1);
        three.whisper(2, 50);
        due("two in one tick: pass(1)", 2, three.pass(1));
        due("none is told twice: pass(1)", 0, three.pass(1));
    }

    private static void promise12() {
        VaultDoors x = vaultOf(3, 20, 0);
        x.ask(0, 1, 5);
        due("opens(0) of a door that is shut", -1, x.opens(0));
        x.whisper(0, 0);
        List<Long> before = look(x);
        due("opens(1)", 5, x.opens(1));
        due("opens(0)", 10, x.opens(0));
        due("opens(2)", -1, x.opens(2));
        unchanged(x, "opens()", before);
        x.pass(9);
        due("opens(0) a tick before", 1, x.opens(0));
        x.pass(1);
        due("opens(0) of an open door", 0, x.opens(0));
        due("opens(1) of an open door", 0, x.opens(1));
        VaultDoors asking = vaultOf(4, 20, 0);
        asking.ask(0, 2, 1);
        asking.ask(1, 2, 3);
        asking.ask(2, 3, 5);
        asking.whisper(0, 0);
        asking.whisper(1, 1);
        asking.pass(3);
        due("remembers both questions: door(2, 6)", 2, asking.door(2, 6));
        due("opens(0), which 2 remembers", 9, asking.opens(0));
        due("opens(1), which 2 remembers", 11, asking.opens(1));
        asking.pass(24);
        due("opens(0), when 2 remembers none", -1, asking.opens(0));
        due("would(0, 1), when 2 remembers none", 0, asking.would(0, 1));
        refused(x, "opens(3)", INDEX, () -> x.opens(3));
        refused(x, "opens(-1)", INDEX, () -> x.opens(-1));
    }

    private static void promise13() {
        VaultDoors x = vaultOf(4, 20, 0);
        x.ask(0, 1, 5);
        x.ask(3, 2, 1);
        List<Long> before = look(x);
        due("would(1, 1)", 2, x.would(1, 1));
        due("would(0, 4)", 0, x.would(0, 4));
        due("would(0, 5)", 2, x.would(0, 5));
        due("would(0, 9)", 2, x.would(0, 9));
        due("would(0, 10)", 3, x.would(0, 10));
        due("would(0, 100), also what is shut again by then", 3, x.would(0, 100));
        unchanged(x, "would()", before);
        x.whisper(2, 2);
        due("would(1, 1), and 2 anyway", 6, x.would(1, 1));
        due("would(2, 1) of a door that waits", 4, x.would(2, 1));
        x.pass(12);
        due("open for its last tick: door(2, 1)", 1, x.door(2, 1));
        due("would(1, 1), as 2 is shut behind a tick", 2, x.would(1, 1));
        due("would(2, 100) of a door that is open now only", 0, x.would(2, 100));
        x.whisper(0, 90);
        due("would(0, 100) of a barred door", 0, x.would(0, 100));
        refused(x, "would(4, 1)", INDEX, () -> x.would(4, 1));
        refused(x, "would(-1, 0)", INDEX, () -> x.would(-1, 0));
        refused(x, "would(0, 0)", ARGUMENT, () -> x.would(0, 0));
        refused(x, "would(0, 101)", ARGUMENT, () -> x.would(0, 101));
    }

    private static void promise14() {
        VaultDoors none = new VaultDoors();
        due("best(1) without doors", -1, none.best(1));
        refused(none, "best(0) without doors", ARGUMENT, () -> none.best(0));
        refused(none, "best(31) without doors", ARGUMENT, () -> none.best(31));
        VaultDoors x = vaultOf(4, 20, 0);
        x.ask(1, 0, 1);
        x.ask(3, 2, 5);
        List<Long> before = look(x);
        due("best(1), 0 and 2 open one each", 0, x.best(1));
        due("best(2), 1 opens two", 1, x.best(2));
        due("best(30), 1 and 3 open two each", 1, x.best(30));
        unchanged(x, "best()", before);
        x.whisper(1, 50);
        due("best(30), as 1 is barred", 3, x.best(30));
        x.whisper(0, 0);
        due("best(1), 0 opens anyway", 2, x.best(1));
        refused(x, "best(0)", ARGUMENT, () -> x.best(0));
        refused(x, "best(31)", ARGUMENT, () -> x.best(31));
        VaultDoors idle = vaultOf(2, 20, 1);
        due("best(30), if none opens any", 0, idle.best(30));
    }

    private static void promise15() {
        VaultDoors x = vaultOf(3, 1, 0);
        dueMean("none decided", 0.0, x.mean());
        x.whisper(0, 50);
        dueMean("barred by a token", 0.0, x.mean());
        x.whisper(1, 1);
        dueMean("one waits", 0.0, x.mean());
        x.pass(1);
        dueMean("one of two", 0.5, x.mean());
        x.whisper(2, 2);
        x.pass(1);
        dueMean("two of three", 2.0 / 3.0, x.mean());
        x.pass(20);
        dueMean("also if all are shut", 2.0 / 3.0, x.mean());
        VaultDoors open = vaultOf(1, 1, 0);
        open.whisper(0, 0);
        open.pass(1);
        dueMean("all opened", 1.0, open.mean());
        VaultDoors ten = vaultOf(10, 1, 0);
        ten.whisper(9, 9);
        ten.whisper(0, 50);
        ten.whisper(4, 50);
        ten.whisper(5, 50);
        ten.pass(1);
        dueMean("one of four, of ten doors", 0.25, ten.mean());
    }

    private static long checksum(VaultDoors x) {
        long d = 907;
        for (int what = 0; what < 9; what++) {
            d = d * 31 + x.count(what);
        }
        for (int door = 0; door < x.count(1); door++) {
            for (int what = 0; what < 9; what++) {
                d = d * 31 + x.door(door, what);
            }
            for (int i = 0; i < x.door(door, 3); i++) {
                for (int what = 0; what < 3; what++) {
                    d = d * 31 + x.asks(door, i, what);
                }
            }
        }
        for (int i = 0; i < x.count(6); i++) {
            for (int what = 0; what < 4; what++) {
                d = d * 31 + x.voice(i, what);
            }
        }
        return d;
    }

    private static VaultDoors mixedDoors(int doors) {
        VaultDoors x = new VaultDoors();
        for (int i = 0; i < doors; i++) {
            x.build(i, 6 + i, i);
        }
        return x;
    }

    private static VaultDoors mixedAsking() {
        VaultDoors x = mixedDoors(4);
        x.ask(0, 1, 2);
        x.ask(0, 2, 1);
        x.ask(2, 0, 3);
        x.ask(3, 0, 1);
        return x;
    }

    private static void promise16() {
        VaultDoors empty = new VaultDoors();
        long nine = 907;
        for (int i = 0; i < 9; i++) {
            nine *= 31;
        }
        due("digest() of a new vault", nine, empty.digest());
        for (int doors = 1; doors <= 4; doors++) {
            VaultDoors x = mixedDoors(doors);
            due("digest() with " + doors + " doors", checksum(x), x.digest());
        }
        VaultDoors asking = mixedAsking();
        due("digest() with doors that ask", checksum(asking), asking.digest());
        for (int tick = 0; tick < 30; tick++) {
            VaultDoors x = mixedAsking();
            x.whisper(0, 0);
            x.whisper(3, 3);
            for (int i = 0; i < tick; i++) {
                x.pass(1);
            }
            due("digest() in the tick " + tick, checksum(x), x.digest());
        }
    }

    private static void rules() {
        int[][] opensBy = {{0, 0, 0, 1}, {0, 1, 1, 1}, {0, 0, 1, 1}, {1, 0, 0, 0}};
        for (int rule = 0; rule < 4; rule++) {
            for (int yes = 0; yes < 4; yes++) {
                VaultDoors x = vaultOf(4, 20, 0);
                x.set(0, rule, 20);
                for (int other = 1; other < 4; other++) {
                    x.ask(0, other, 1);
                    x.whisper(other, other <= yes ? other : 90);
                }
                x.whisper(0, 0);
                x.pass(2);
                due("rule " + rule + " with " + yes + " of 3: door(0, 0)",
                    opensBy[rule][yes] == 1 ? OPEN : BARRED, x.door(0, 0));
            }
            VaultDoors alone = vaultOf(1, 1, rule);
            alone.whisper(0, 0);
            alone.pass(1);
            due("rule " + rule + " without doors to ask: door(0, 0)",
                rule == 0 || rule == 3 ? OPEN : BARRED, alone.door(0, 0));
        }
        VaultDoors half = vaultOf(3, 20, 0);
        half.set(0, 2, 20);
        half.ask(0, 1, 1);
        half.ask(0, 2, 1);
        half.whisper(1, 1);
        half.whisper(2, 90);
        half.whisper(0, 0);
        half.pass(2);
        due("one of two is not more than half: door(0, 0)", BARRED, half.door(0, 0));
    }

    private static void times() {
        VaultDoors x = vaultOf(2, 1, 0);
        x.set(1, 1, 1);
        x.whisper(0, 0);
        x.whisper(1, 1);
        x.pass(1);
        dueDoor(x, "just opened", 0, OPEN, 12);
        dueDoor(x, "just barred", 1, BARRED, 4);
        x.pass(3);
        dueDoor(x, "barred for its last tick", 1, BARRED, 1);
        x.pass(1);
        dueDoor(x, "no longer barred", 1, SHUT, 0);
        x.pass(7);
        dueDoor(x, "open for its last tick", 0, OPEN, 1);
        x.pass(1);
        dueDoor(x, "fallen shut", 0, SHUT, 0);
    }

    private static void remembering() {
        VaultDoors x = vaultOf(4, 20, 0);
        x.ask(3, 0, 5);
        x.ask(0, 3, 2);
        x.ask(1, 3, 3);
        x.ask(2, 3, 3);
        x.whisper(2, 2);
        x.whisper(1, 1);
        x.whisper(0, 0);
        x.pass(3);
        due("woken by 0, asked by 2 and 1 then: door(3, 6)", 3, x.door(3, 6));
        due("woken two ticks before, a tick less at once: door(3, 1)", 18, x.door(3, 1));
        x.pass(17);
        due("0, 1 and 2 are out of patience", 3, x.count(5));
        dueVoices(x, "3 decides a tick later", voice(0, 3, 1, 5));
        x.pass(1);
        dueDoor(x, "it was told no answer", 3, BARRED, 4, 0, 1, 0, 0, 0, 0, 1);
        dueVoices(x, "answers in the order of the questions, over their distances",
            voice(0, 3, 1, 4), voice(3, 0, 1, 2), voice(3, 2, 1, 3), voice(3, 1, 1, 3));
    }

    /** A late answer to an earlier question counts for the next waking, and a second one is forgotten. */
    private static void lateAnswers() {
        VaultDoors x = vaultOf(3, 20, 0);
        x.set(0, 0, 1);
        x.ask(0, 1, 5);
        x.ask(0, 2, 5);
        x.whisper(0, 0);
        x.pass(5);
        due("1 and 2 were woken, and opened: count(8)", 6, x.count(8));
        dueDoor(x, "barred, and shut again", 0, SHUT, 0);
        x.set(0, 0, 20);
        x.whisper(0, 0);
        x.pass(4);
        dueDoor(x, "nothing was heard yet", 0, WAITS, 16, 0, 2, 0, 0, 0, 0, 1);
        x.pass(1);
        dueDoor(x, "late answers count", 0, OPEN, 12);
        x.pass(5);
        dueDoor(x, "further ones are forgotten", 0, OPEN, 7, 0, 2, 0, 0, 0, 1, 1);
    }

    private static void firstAnswerCounts() {
        VaultDoors x = vaultOf(3, 20, 0);
        x.ask(1, 0, 1);
        x.ask(1, 2, 5);
        x.set(1, 0, 1);
        x.whisper(0, 50);
        x.whisper(1, 1);
        x.pass(5);
        due("barred, and shut again: door(1, 0)", SHUT, x.door(1, 0));
        x.set(1, 0, 20);
        x.whisper(0, 0);
        x.whisper(1, 1);
        x.pass(2);
        due("the answer of the door 0: asks(1, 0, 2)", 1, x.asks(1, 0, 2));
        x.pass(3);
        due("the early answer of the door 2: door(1, 0)", OPEN, x.door(1, 0));

        VaultDoors y = vaultOf(3, 20, 1);
        y.set(0, 0, 1);
        y.ask(0, 1, 3);
        y.ask(0, 2, 5);
        y.ask(2, 0, 5);
        y.whisper(0, 0);
        y.pass(5);
        dueVoices(y, "a no is under way", voice(1, 0, 1, 1), voice(2, 0, 0, 5));
        y.set(0, 0, 20);
        y.set(1, 0, 1);
        y.whisper(0, 0);
        y.pass(1);
        due("the no comes first: asks(0, 0, 2)", 0, y.asks(0, 0, 2));
        y.pass(3);
        due("door 1 has opened since: door(1, 0)", OPEN, y.door(1, 0));
        due("its yes is under way: voice(2, 2)", 2, y.voice(2, 2));
        y.pass(2);
        due("its yes was heard: door(0, 4)", 1, y.door(0, 4));
        due("the no stands: asks(0, 0, 2)", 0, y.asks(0, 0, 2));
    }

    /** Each of ten doors asks four over 5 ticks, and is barred at once: 40 questions, 40 answers. */
    private static void lostVoices() {
        VaultDoors x = vaultOf(10, 1, 0);
        for (int door = 0; door < 10; door++) {
            for (int step = 1; step <= 4; step++) {
                x.ask(door, (door + step) % 10, 5);
            }
        }
        for (int door = 0; door < 10; door++) {
            x.whisper(door, door);
        }
        due("count(6)", 40, x.count(6));
        x.pass(4);
        dueCounts(x, "all are barred", 4, 10, 0, 0, 0, 10, 40, 0, 0);
        x.pass(1);
        dueCounts(x, "all were woken, and barred again", 5, 10, 0, 0, 0, 10, 60, 20, 0);
        due("the first that is kept asks: voice(0, 2)", 0, x.voice(0, 2));
        due("the last that is kept answers: voice(59, 2)", 1, x.voice(59, 2));
        due("the last that is kept is of the door 4: voice(59, 0)", 4, x.voice(59, 0));
        due("nothing is heard, nothing is lost: pass(4)", 0, x.pass(4));
        due("count(7)", 20, x.count(7));
        refused(x, "voice(60, 0)", INDEX, () -> x.voice(60, 0));
    }

    public static void main(String[] args) {
        promise1();
        promise2();
        promise3();
        promise4();
        promise5();
        promise6();
        promise7();
        promise8();
        promise9();
        promise10();
        promise11();
        promise12();
        promise13();
        promise14();
        promise15();
        promise16();
        rules();
        times();
        remembering();
        lateAnswers();
        firstAnswerCounts();
        lostVoices();
        System.out.println(wrong == 0 ? "all answers are as due" : wrong + " answers are not as due");
        if (wrong != 0) {
            System.exit(1);
        }
    }
}
