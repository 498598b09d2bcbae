import java.util.ArrayList;
import java.util.HashMap;
import java.util.HashSet;
import java.util.List;
import java.util.Map;
import java.util.Set;

/**
 * Long runs of made-up calls, each answer compared with that of a second program, which was written
 * from the document alone, with lists and maps that are copied for each question of what would be.
 */
public final class ModelTest {
    private static final int RUNS = 300;
    private static final int CALLS = 512;

    // ---- the second program

    private record Link(int other, int distance) { }

    private record Sound(int from, int to, String what, int way, int left) { }

    private static final class Gate {
        int secret;
        int patience;
        int rule;
        String state = "shut";
        int left;
        int opened;
        int barred;
        List<Link> links = new ArrayList<>();
        Map<Integer, Boolean> answers = new HashMap<>();
        List<Link> remembered = new ArrayList<>();

        Gate copy() {
            Gate g = new Gate();
            g.secret = secret;
            g.patience = patience;
            g.rule = rule;
            g.state = state;
            g.left = left;
            g.opened = opened;
            g.barred = barred;
            g.links.addAll(links);
            g.answers.putAll(answers);
            g.remembered.addAll(remembered);
            return g;
        }

        long yes() {
            return answers.values().stream().filter(a -> a).count();
        }

        boolean wouldOpen() {
            return switch (rule) {
                case 0 -> yes() == links.size();
                case 1 -> yes() > 0;
                case 2 -> yes() > links.size() / 2.0;
                default -> yes() == 0;
            };
        }

        void become(String next, int time) {
            state = next;
            left = time;
            opened += next.equals("open") ? 1 : 0;
            barred += next.equals("barred") ? 1 : 0;
            answers.clear();
            remembered.clear();
        }
    }

    private static final class Model {
        List<Gate> gates = new ArrayList<>();
        List<Sound> sounds = new ArrayList<>();
        int tick;
        int lost;
        int openedNow;

        Model copy() {
            Model m = new Model();
            gates.forEach(g -> m.gates.add(g.copy()));
            m.sounds.addAll(sounds);
            m.tick = tick;
            m.lost = lost;
            return m;
        }

        void need(boolean so, RuntimeException otherwise) {
            if (!so) {
                throw otherwise;
            }
        }

        void index(boolean so) {
            need(so, new IndexOutOfBoundsException());
        }

        void argument(boolean so) {
            need(so, new IllegalArgumentException());
        }

        void state(boolean so) {
            need(so, new IllegalStateException());
        }

        boolean has(int gate) {
            return 0 <= gate && gate < gates.size();
        }

        void say(int from, int to, String what, int way) {
            if (sounds.size() == 60) {
                lost++;
            } else {
                sounds.add(new Sound(from, to, what, way, way));
            }
        }

        void wake(int number) {
            Gate g = gates.get(number);
            g.become("waits", g.patience);
            for (Link link : g.links) {
                say(number, link.other(), "ask", link.distance());
            }
        }

        void hear(Sound s) {
            Gate g = gates.get(s.to());
            if (!s.what().equals("ask")) {
                if (g.state.equals("waits")) {
                    g.answers.putIfAbsent(s.from(), s.what().equals("yes"));
                }
                return;
            }
            if (g.state.equals("shut")) {
                wake(s.to());
            }
            switch (g.state) {
                case "open" -> say(s.to(), s.from(), "yes", s.way());
                case "barred" -> say(s.to(), s.from(), "no", s.way());
                default -> g.remembered.add(new Link(s.from(), s.way()));
            }
        }

        void decide(int number) {
            Gate g = gates.get(number);
            boolean open = g.wouldOpen();
            List<Link> asked = new ArrayList<>(g.remembered);
            g.become(open ? "open" : "barred", open ? 12 : 4);
            openedNow += open ? 1 : 0;
            for (Link question : asked) {
                say(number, question.other(), open ? "yes" : "no", question.distance());
            }
        }

        void goOn() {
            for (Gate g : gates) {
                if (!g.state.equals("waits") && !g.state.equals("shut") && --g.left == 0) {
                    g.state = "shut";
                }
            }
            List<Sound> before = sounds;
            sounds = new ArrayList<>();
            List<Sound> heard = new ArrayList<>();
            for (Sound s : before) {
                Sound nearer = new Sound(s.from(), s.to(), s.what(), s.way(), s.left() - 1);
                (nearer.left() == 0 ? heard : sounds).add(nearer);
            }
            heard.forEach(this::hear);
            for (int i = 0; i < gates.size(); i++) {
                Gate g = gates.get(i);
                if (g.state.equals("waits")
                        && (--g.left == 0 || g.answers.size() == g.links.size())) {
                    decide(i);
                }
            }
            tick++;
        }

        int openSet() {
            int set = 0;
            for (int i = 0; i < gates.size(); i++) {
                set += gates.get(i).state.equals("open") ? 1 << i : 0;
            }
            return set;
        }

        int build(int secret, int patience, int rule) {
            argument(secret >= 0 && secret <= 99 && patience >= 1 && patience <= 20
                && rule >= 0 && rule <= 3);
            state(gates.size() < 10);
            Gate g = new Gate();
            g.secret = secret;
            g.patience = patience;
            g.rule = rule;
            gates.add(g);
            return gates.size() - 1;
        }

        int ask(int gate, int other, int distance) {
            index(has(gate) && has(other));
            argument(gate != other && distance >= 1 && distance <= 5);
            Gate g = gates.get(gate);
            state(g.state.equals("shut") && g.links.size() < 4
                && g.links.stream().noneMatch(l -> l.other() == other));
            g.links.add(new Link(other, distance));
            return g.links.size();
        }

        int set(int gate, int rule, int patience) {
            index(has(gate));
            argument(rule >= 0 && rule <= 3 && patience >= 1 && patience <= 20);
            Gate g = gates.get(gate);
            int before = 100 * g.rule + g.patience;
            g.rule = rule;
            g.patience = patience;
            return before;
        }

        int whisper(int gate, int token) {
            index(has(gate));
            argument(token >= 0 && token <= 99);
            Gate g = gates.get(gate);
            if (!g.state.equals("shut")) {
                return 0;
            }
            if (g.secret != token) {
                g.become("barred", 4);
                return 0;
            }
            wake(gate);
            return 1;
        }

        int door(int gate, int what) {
            index(has(gate) && what >= 0 && what <= 8);
            Gate g = gates.get(gate);
            int[] facts = {List.of("shut", "waits", "open", "barred").indexOf(g.state), g.left, g.rule,
                g.links.size(), g.answers.size(), (int) g.yes(), g.remembered.size(), g.opened,
                g.barred};
            return facts[what];
        }

        int asks(int gate, int place, int what) {
            index(has(gate) && place >= 0 && place < gates.get(gate).links.size()
                && what >= 0 && what <= 2);
            Link link = gates.get(gate).links.get(place);
            Boolean answer = gates.get(gate).answers.get(link.other());
            return what == 0 ? link.other() : what == 1 ? link.distance()
                : answer == null ? -1 : answer ? 1 : 0;
        }

        int voice(int place, int what) {
            index(place >= 0 && place < sounds.size() && what >= 0 && what <= 3);
            Sound s = sounds.get(place);
            int[] facts = {s.from(), s.to(), List.of("ask", "no", "yes").indexOf(s.what()), s.left()};
            return facts[what];
        }

        int count(int what) {
            index(what >= 0 && what <= 8);
            int[] facts = {tick, gates.size(), 0, 0, 0, 0, sounds.size(), lost, openSet()};
            for (int i = 0; i < gates.size(); i++) {
                facts[2 + door(i, 0)]++;
            }
            return facts[what];
        }

        void walk(int gate, Set<Integer> seen) {
            for (Link link : gates.get(gate).links) {
                if (seen.add(link.other())) {
                    walk(link.other(), seen);
                }
            }
        }

        int reach(int gate) {
            index(has(gate));
            Set<Integer> seen = new HashSet<>();
            walk(gate, seen);
            return seen.stream().mapToInt(i -> 1 << i).sum();
        }

        int pass(int ticks) {
            argument(ticks >= 1 && ticks <= 200);
            openedNow = 0;
            for (int i = 0; i < ticks; i++) {
                goOn();
            }
            return openedNow;
        }

        int opens(int gate) {
            index(has(gate));
            Model m = copy();
            for (int ticks = 0; ticks <= 100; ticks++) {
                if (m.gates.get(gate).state.equals("open")) {
                    return ticks;
                }
                m.goOn();
            }
            return -1;
        }

        int would(int gate, int ticks) {
            index(has(gate));
            argument(ticks >= 1 && ticks <= 100);
            Model m = copy();
            m.whisper(gate, gates.get(gate).secret);
            int set = 0;
            for (int i = 0; i < ticks; i++) {
                m.goOn();
                set |= m.openSet();
            }
            return set;
        }

        int best(int ticks) {
            argument(ticks >= 1 && ticks <= 30);
            int best = -1;
            for (int i = gates.size() - 1; i >= 0; i--) {
                if (best < 0
                        || Integer.bitCount(would(i, ticks)) >= Integer.bitCount(would(best, ticks))) {
                    best = i;
                }
            }
            return best;
        }

        double mean() {
            double opened = gates.stream().mapToInt(g -> g.opened).sum();
            double barred = gates.stream().mapToInt(g -> g.barred).sum();
            return opened == 0 ? 0 : opened / (opened + barred);
        }

        long digest() {
            List<Integer> numbers = new ArrayList<>();
            for (int what = 0; what < 9; what++) {
                numbers.add(count(what));
            }
            for (int i = 0; i < gates.size(); i++) {
                for (int what = 0; what < 9; what++) {
                    numbers.add(door(i, what));
                }
                for (int k = 0; k < gates.get(i).links.size(); k++) {
                    for (int what = 0; what < 3; what++) {
                        numbers.add(asks(i, k, what));
                    }
                }
            }
            for (int i = 0; i < sounds.size(); i++) {
                for (int what = 0; what < 4; what++) {
                    numbers.add(voice(i, what));
                }
            }
            long d = 907;
            for (int x : numbers) {
                d = d * 31 + x;
            }
            return d;
        }
    }

    // ---- the runs

    private interface Call {
        Object answer();
    }

    private static long seed;

    private static int below(int bound) {
        seed = seed * 6364136223846793005L + 1442695040888963407L;
        return (int) ((seed >>> 33) % bound);
    }

    /** A number of the range, and now and then one beside it or far from it. */
    private static int near(int lowest, int highest) {
        switch (below(60)) {
            case 0:
                return lowest - 1;
            case 1:
                return highest + 1;
            case 2:
                return below(2) == 0 ? Integer.MIN_VALUE : Integer.MAX_VALUE;
            case 3:
                return below(2) == 0 ? lowest : highest;
            default:
                return lowest + below(highest - lowest + 1);
        }
    }

    private static String outcome(Call call) {
        try {
            return String.valueOf(call.answer());
        } catch (RuntimeException e) {
            return e.getClass().getSimpleName();
        }
    }

    private static void compare(List<String> run, String name, Call got, Call want, int... n) {
        StringBuilder text = new StringBuilder(name);
        for (int number : n) {
            text.append(' ').append(number);
        }
        run.add(text.toString());
        String due = outcome(want);
        String answer = outcome(got);
        if (!answer.equals(due)) {
            System.out.println(String.join("; ", run) + " answered " + answer + ", due is " + due);
            System.exit(1);
        }
    }

    private static void change(List<String> run, VaultDoors x, Model m, int hurry) {
        int a = near(0, Math.max(0, m.gates.size() - 1));
        int b = near(0, Math.max(0, m.gates.size() - 1));
        int kind = below(20);
        if (kind < 2) {
            int s = near(0, 99);
            int p = below(2) == 0 ? near(1, 3) : near(1, 20);
            int r = near(0, 3);
            compare(run, "build", () -> x.build(s, p, r), () -> m.build(s, p, r), s, p, r);
        } else if (kind < 7) {
            int d = hurry == 2 ? 5 : near(1, 5);
            compare(run, "ask", () -> x.ask(a, b, d), () -> m.ask(a, b, d), a, b, d);
        } else if (kind < 9) {
            int r = near(0, 3);
            int p = near(1, hurry == 0 ? 20 : 2);
            compare(run, "set", () -> x.set(a, r, p), () -> m.set(a, r, p), a, r, p);
        } else if (kind < 14) {
            int t = m.has(a) && below(8) > 0 ? m.gates.get(a).secret : near(0, 99);
            compare(run, "whisper", () -> x.whisper(a, t) ? 1 : 0, () -> m.whisper(a, t), a, t);
        } else {
            int t = below(60) == 0 ? near(1, 200) : near(1, 6);
            compare(run, "pass", () -> x.pass(t), () -> m.pass(t), t);
        }
    }

    /** Ten doors, each asking four over long ways with little patience: more voices than can be kept. */
    private static void crowd(List<String> run, VaultDoors x, Model m) {
        for (int i = 0; i < 10; i++) {
            int s = i;
            int p = 1 + below(2);
            int r = below(4) == 0 ? below(4) : 0;
            compare(run, "build", () -> x.build(s, p, r), () -> m.build(s, p, r), s, p, r);
        }
        for (int i = 0; i < 40; i++) {
            int a = i / 4;
            int b = (a + 1 + i % 4 * 2 + below(2)) % 10;
            int d = below(8) == 0 ? 4 : 5;
            compare(run, "ask", () -> x.ask(a, b, d), () -> m.ask(a, b, d), a, b, d);
        }
        for (int i = 0; i < 10; i++) {
            int a = i;
            compare(run, "whisper", () -> x.whisper(a, a) ? 1 : 0, () -> m.whisper(a, a), a, a);
            if (below(4) == 0) {
                compare(run, "pass", () -> x.pass(1), () -> m.pass(1), 1);
            }
        }
    }

    private static void question(List<String> run, VaultDoors x, Model m) {
        int a = near(0, Math.max(0, m.gates.size() - 1));
        int what = near(0, 8);
        int place = near(0, m.has(a) ? Math.max(0, m.gates.get(a).links.size() - 1) : 0);
        int fact = near(0, 3);
        int sound = near(0, Math.max(0, m.sounds.size() - 1));
        int few = near(1, 30);
        int many = near(1, 100);
        switch (below(10)) {
            case 0 -> compare(run, "door", () -> x.door(a, what), () -> m.door(a, what), a, what);
            case 1 -> compare(run, "asks", () -> x.asks(a, place, fact), () -> m.asks(a, place, fact),
                a, place, fact);
            case 2 -> compare(run, "voice", () -> x.voice(sound, fact), () -> m.voice(sound, fact),
                sound, fact);
            case 3 -> compare(run, "count", () -> x.count(what), () -> m.count(what), what);
            case 4 -> compare(run, "reach", () -> x.reach(a), () -> m.reach(a), a);
            case 5 -> compare(run, "opens", () -> x.opens(a), () -> m.opens(a), a);
            case 6 -> compare(run, "would", () -> x.would(a, many), () -> m.would(a, many), a, many);
            case 7 -> compare(run, "best", () -> x.best(few), () -> m.best(few), few);
            default -> compare(run, "mean", () -> x.mean(), () -> m.mean());
        }
    }

    public static void main(String[] args) {
        int mostLost = 0;
        int mostRemembered = 0;
        for (int i = 0; i < RUNS; i++) {
            seed = 1000003L * i + 17;
            int hurry = below(3);
            VaultDoors x = new VaultDoors();
            Model m = new Model();
            List<String> run = new ArrayList<>();
            if (hurry == 2) {
                crowd(run, x, m);
            }
            while (run.size() + 2 <= CALLS) {
                if (below(4) == 0) {
                    question(run, x, m);
                } else {
                    change(run, x, m, hurry);
                }
                compare(run, "digest", () -> x.digest(), () -> m.digest());
                for (Gate g : m.gates) {
                    mostRemembered = Math.max(mostRemembered, g.remembered.size());
                }
            }
            mostLost = Math.max(mostLost, m.lost);
        }
        System.out.println("all answers are those of the model; voices lost in a run: up to " + mostLost
            + ", questions remembered: up to " + mostRemembered);
        if (mostLost == 0) {
            System.out.println("no run lost a voice: the runs are too tame");
            System.exit(1);
        }
    }
}
