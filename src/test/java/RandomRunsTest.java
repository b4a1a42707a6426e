import java.util.ArrayList;
import java.util.List;
import java.util.Random;

/**
 * All promises together: runs of 512 calls drawn from fixed seeds, each call made of the class and of the plain model.
 * Answers must be the same and exceptions of the very class, so a call that throws and changes something shows later.
 */
public final class RandomRunsTest {
    private static final int RUNS = 2000, CALLS = 512, SHOWN = 10;
    private static final String[] CHANGES = {"command", "command", "command", "command", "step", "step", "step", "ask",
        "ask", "ask", "mode", "home", "speed", "ticks", "up", "up", "snapshot", "crash", "trim"};
    private static final String[] QUESTIONS = {"read", "read", "read", "value", "value", "at", "kept", "log", "logged",
        "session", "session", "told", "count"};

    private final Random random;
    private final ReadSide side;
    private final PlainModel model;
    private final int questionsOfTen, wrongOfHundred, mostTicks;
    private final List<Long> tokens = new ArrayList<>();

    private RandomRunsTest(long seed) {
        random = new Random(seed);
        int partitions = random.nextInt(5);
        int replicas = random.nextInt(6);
        side = new ReadSide(partitions, replicas);
        model = new PlainModel(partitions, replicas);
        questionsOfTen = random.nextInt(7);
        wrongOfHundred = random.nextInt(3) * 2;
        mostTicks = random.nextBoolean() ? 3 : 100;
        tokens.add(0L);
    }

    public static void main(String[] args) {
        int wrong = 0;
        for (int seed = 0; seed < RUNS && wrong < SHOWN; seed++) {
            wrong += new RandomRunsTest(seed).run(seed) ? 0 : 1;
        }
        Check.end();
    }

    private boolean run(int seed) {
        for (int i = 0; i < CALLS; i++) {
            boolean question = random.nextInt(10) < questionsOfTen;
            String name = question ? pick(QUESTIONS) : pick(CHANGES);
            FaceCall call = new FaceCall(name, arguments(name));
            String got = call.on(side);
            String due = call.on(model);
            Check.note(got.equals(due),
                "seed " + seed + ", call " + i + ": " + call + " answered " + got + ", due is " + due);
            if (!got.equals(due)) {
                return false;
            }
            if (name.equals("command") && !got.startsWith("throws")) {
                tokens.add(Long.parseLong(got));
            }
        }
        return true;
    }

    private String pick(String[] names) {
        return names[random.nextInt(names.length)];
    }

    /** Mostly least .. most, now and then a number just outside or far away. */
    private int number(int least, int most) {
        if (random.nextInt(100) < wrongOfHundred) {
            int[] outside = {least - 1, most + 1, Integer.MIN_VALUE, Integer.MAX_VALUE};
            return outside[random.nextInt(outside.length)];
        }
        return most < least ? least : least + random.nextInt(most - least + 1);
    }

    private int replica() {
        return number(0, model.replicas() - 1);
    }

    private int partition() {
        return number(0, model.partitions() - 1);
    }

    private int session() {
        return number(0, random.nextBoolean() ? 1 : 7);
    }

    private long token() {
        int chance = random.nextInt(20);
        if (chance == 0) {
            return Tokens.of(random.nextInt(20), random.nextInt(20), random.nextInt(2) * random.nextInt(20));
        }
        long token = tokens.get(random.nextInt(tokens.size()));
        return chance == 1 ? token ^ (1L << random.nextInt(64)) : chance < 8 ? 0 : token;
    }

    private long[] question() {
        int kind = number(0, 8);
        int a = kind == 8 ? number(-1, model.partitions() - 1)
            : kind >= 4 && kind <= 6 ? number(0, 9) : number(0, random.nextBoolean() ? 3 : 29);
        return new long[] {kind, a};
    }

    private int item() {
        return number(0, random.nextInt(3) > 0 ? 3 : 29);
    }

    private long[] arguments(String name) {
        long[] question = question();
        switch (name) {
            case "mode": return new long[] {session(), number(0, 15)};
            case "home": return new long[] {session(), replica()};
            case "command":
                int amount = number(1, random.nextBoolean() ? 10 : 1000);
                return new long[] {session(), number(0, 4), item(), number(0, 9), amount};
            case "step": return new long[] {replica(), partition()};
            case "speed": return new long[] {replica(), number(0, 10)};
            case "ticks": return new long[] {number(0, mostTicks)};
            case "up": return new long[] {replica(), random.nextInt(3) > 0 ? 1 : 0};
            case "snapshot": case "crash": return new long[] {replica()};
            case "trim": return new long[0];
            case "ask":
                int stale = random.nextBoolean() ? -1 : number(-1, random.nextBoolean() ? 5 : 400);
                int patience = number(0, random.nextBoolean() ? 10 : 1000);
                return new long[] {session(), token(), stale, patience, question[0], question[1]};
            case "read": return new long[] {number(0, (int) model.count(0) - 1), number(0, 5)};
            case "value": return new long[] {replica(), question[0], question[1]};
            case "at": case "kept": return new long[] {replica(), partition()};
            case "log": return new long[] {partition(), number(0, 1)};
            case "logged":
                int partition = partition();
                int end = partition >= 0 && partition < model.partitions() ? (int) model.log(partition, 0) : 0;
                return new long[] {partition, number(1, end), number(0, 6)};
            case "session": return new long[] {session(), number(0, 1), partition()};
            case "told": return new long[] {token(), partition()};
            default: return new long[] {number(0, 4)};
        }
    }
}
