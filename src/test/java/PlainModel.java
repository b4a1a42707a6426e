import java.util.ArrayList;
import java.util.Comparator;
import java.util.HashMap;
import java.util.List;
import java.util.Map;

/**
 * The document said once more, in the plainest way and with the Java library: a replica is the list of the commands
 * that it took, and its state is made anew from that list for each question.
 */
final class PlainModel {
    private record Command(int kind, int item, int customer, int amount, int[] needs, int partition) {
    }

    private static final class Replica {
        List<Command> taken = new ArrayList<>();
        List<Command> kept = new ArrayList<>();
        int speed = 0;
        int latest = -1;
        boolean up = true;
    }

    private static final class Read {
        int session, stale, patience, kind, a, askedAt;
        int[] token;
        int state = 0, replica = -1;
        long answer = 0, vector = 0, time = -1;
    }

    private final int partitions;
    private final List<List<Command>> logs = new ArrayList<>();
    private final int[] trimmed = new int[3];
    private final List<Replica> replicas = new ArrayList<>();
    private final int[] mode = new int[8], home = new int[8];
    private final int[][] wrote = new int[8][3], saw = new int[8][3];
    private final List<Read> reads = new ArrayList<>();
    private int time = 0;

    PlainModel(int partitions, int replicas) {
        this.partitions = partitions < 1 || partitions > 3 ? 2 : partitions;
        int count = replicas < 1 || replicas > 4 ? 2 : replicas;
        for (int i = 0; i < this.partitions; i++) {
            logs.add(new ArrayList<>());
        }
        for (int i = 0; i < count; i++) {
            this.replicas.add(new Replica());
        }
    }

    int partitions() {
        return partitions;
    }

    int replicas() {
        return replicas.size();
    }

    private static void there(boolean is) {
        if (!is) {
            throw new IndexOutOfBoundsException();
        }
    }

    private static void told(boolean is) {
        if (!is) {
            throw new IllegalArgumentException();
        }
    }

    private static void now(boolean is) {
        if (!is) {
            throw new IllegalStateException();
        }
    }

    private static boolean in(long number, long least, long most) {
        return least <= number && number <= most;
    }

    private boolean isReplica(int replica) {
        return in(replica, 0, replicas.size() - 1);
    }

    private boolean isPartition(int partition) {
        return in(partition, 0, partitions - 1);
    }

    private boolean isQuestion(int kind, int a) {
        return switch (kind) {
            case 0, 1, 2, 3, 7 -> in(a, 0, 29);
            case 4, 5, 6 -> in(a, 0, 9);
            case 8 -> in(a, -1, partitions - 1);
            default -> false;
        };
    }

    private static int[] vectorOf(List<Command> taken) {
        int[] vector = new int[3];
        for (Command command : taken) {
            vector[command.partition()]++;
        }
        return vector;
    }

    private static boolean covers(int[] one, int[] other) {
        return one[0] >= other[0] && one[1] >= other[1] && one[2] >= other[2];
    }

    private int end(int partition) {
        return partition < partitions ? logs.get(partition).size() : 0;
    }

    /** Null, if the number is no token. */
    private int[] vectorOf(long token) {
        long x = token >> 20;
        if (token < 0 || x >= 134217728L || Tokens.ofNumber(x) != token) {
            return null;
        }
        int[] vector = {(int) (x % 512), (int) (x / 512 % 512), (int) (x / 262144)};
        return covers(new int[] {end(0), end(1), end(2)}, vector) ? vector : null;
    }

    long mode(int session, int is) {
        there(in(session, 0, 7));
        told(in(is, 0, 15));
        int was = mode[session];
        mode[session] = is;
        for (int replica = 0; was != is && replica < replicas.size(); replica++) {
            look(replica);
        }
        return was;
    }

    long home(int session, int replica) {
        there(in(session, 0, 7) && isReplica(replica));
        int was = home[session];
        home[session] = replica;
        return was;
    }

    long command(int session, int kind, int item, int customer, int amount) {
        there(in(session, 0, 7) && in(item, 0, 29) && in(customer, 0, 9));
        told(in(kind, 0, 4) && in(amount, 1, 1000));
        int partition = item % partitions;
        now(end(partition) < 400);
        int[] needs = new int[3];
        for (int i = 0; i < 3; i++) {
            int follows = mode[session] / 4 % 2 * saw[session][i];
            int writes = mode[session] / 8 * wrote[session][i];
            needs[i] = Math.max(follows, writes);
        }
        logs.get(partition).add(new Command(kind, item, customer, amount, needs, partition));
        wrote[session][partition] = end(partition);
        int[] vector = needs.clone();
        vector[partition] = end(partition);
        return Tokens.of(vector[0], vector[1], vector[2]);
    }

    long step(int replica, int partition) {
        there(isReplica(replica) && isPartition(partition));
        return replicas.get(replica).up ? take(replica, partition) : -2;
    }

    private int take(int replica, int partition) {
        Replica of = replicas.get(replica);
        int[] at = vectorOf(of.taken);
        if (at[partition] == end(partition)) {
            return 0;
        }
        Command next = logs.get(partition).get(at[partition]);
        if (!covers(at, next.needs())) {
            return -1;
        }
        of.taken.add(next);
        of.latest = partition;
        look(replica);
        return 1;
    }

    long speed(int replica, int speed) {
        there(isReplica(replica));
        told(in(speed, 0, 10));
        int was = replicas.get(replica).speed;
        replicas.get(replica).speed = speed;
        return was;
    }

    long ticks(int n) {
        told(in(n, 0, 100));
        int taken = 0;
        for (int i = 0; i < n; i++) {
            time++;
            for (int replica = 0; replica < replicas.size(); replica++) {
                Replica of = replicas.get(replica);
                int left = of.up ? of.speed : 0;
                while (left > 0 && takeOneGoingAround(replica)) {
                    left--;
                    taken++;
                }
            }
            for (Read read : reads) {
                if (read.state == 0 && time - read.askedAt >= read.patience) {
                    read.state = 2;
                    read.time = time;
                }
            }
        }
        return taken;
    }

    private boolean takeOneGoingAround(int replica) {
        int latest = replicas.get(replica).latest;
        for (int i = 1; i <= partitions; i++) {
            if (take(replica, (latest + i) % partitions) == 1) {
                return true;
            }
        }
        return false;
    }

    long up(int replica, boolean is) {
        there(isReplica(replica));
        boolean was = replicas.get(replica).up;
        replicas.get(replica).up = is;
        if (is && !was) {
            look(replica);
        }
        return was ? 1 : 0;
    }

    long snapshot(int replica) {
        there(isReplica(replica));
        Replica of = replicas.get(replica);
        of.kept = new ArrayList<>(of.taken);
        return of.kept.size();
    }

    long crash(int replica) {
        there(isReplica(replica));
        Replica of = replicas.get(replica);
        int lost = of.taken.size() - of.kept.size();
        of.taken = new ArrayList<>(of.kept);
        return lost;
    }

    long trim() {
        int gone = 0;
        for (int partition = 0; partition < partitions; partition++) {
            int least = 400;
            for (Replica replica : replicas) {
                least = Math.min(least, vectorOf(replica.kept)[partition]);
            }
            gone += least - trimmed[partition];
            trimmed[partition] = least;
        }
        return gone;
    }

    long ask(int session, long token, int stale, int patience, int kind, int a) {
        there(in(session, 0, 7) && isQuestion(kind, a));
        told(vectorOf(token) != null && in(stale, -1, 400) && in(patience, 0, 1000));
        now(reads.size() < 500);
        Read read = new Read();
        read.session = session;
        read.token = vectorOf(token);
        read.stale = stale;
        read.patience = patience;
        read.kind = kind;
        read.a = a;
        read.askedAt = time;
        int found = -1;
        for (int i = replicas.size() - 1; i >= 0; i--) {
            int replica = (home[session] + i) % replicas.size();
            found = may(replica, read) ? replica : found;
        }
        now(found >= 0 || patience == 0 || count(1) < 40);
        reads.add(read);
        if (found >= 0) {
            answer(read, found);
        } else if (patience == 0) {
            read.state = 2;
            read.time = time;
        }
        return reads.size() - 1;
    }

    private boolean may(int replica, Read read) {
        Replica of = replicas.get(replica);
        int[] at = vectorOf(of.taken);
        int session = read.session;
        boolean may = of.up && covers(at, read.token);
        may &= mode[session] % 2 == 0 || covers(at, wrote[session]);
        may &= mode[session] / 2 % 2 == 0 || covers(at, saw[session]);
        for (int partition = 0; partition < partitions; partition++) {
            may &= read.stale < 0 || end(partition) - at[partition] <= read.stale;
        }
        return may;
    }

    private void look(int replica) {
        for (Read read : reads) {
            if (read.state == 0 && may(replica, read)) {
                answer(read, replica);
            }
        }
    }

    private void answer(Read read, int replica) {
        int[] at = vectorOf(replicas.get(replica).taken);
        read.state = 1;
        read.replica = replica;
        read.answer = value(replica, read.kind, read.a);
        read.vector = Tokens.of(at[0], at[1], at[2]);
        read.time = time;
        for (int i = 0; i < 3; i++) {
            saw[read.session][i] = Math.max(saw[read.session][i], at[i]);
        }
    }

    long read(int read, int what) {
        there(in(read, 0, reads.size() - 1) && in(what, 0, 5));
        Read of = reads.get(read);
        return new long[] {of.state, of.replica, of.answer, of.vector, of.time, of.session}[what];
    }

    long value(int replica, int kind, int a) {
        there(isReplica(replica) && isQuestion(kind, a));
        Map<String, Long> state = stateOf(replicas.get(replica).taken);
        switch (kind) {
            case 0: return of(state, "stock" + a);
            case 1: return of(state, "reserved" + a);
            case 2: return of(state, "sold" + a);
            case 3: return state.getOrDefault("price" + a, 1L);
            case 4: return of(state, "paid" + a);
            case 6: return of(state, "refusals" + a);
            default: break;
        }
        long sum = 0;
        List<Integer> ranked = new ArrayList<>();
        for (int item = 0; item < 30; item++) {
            ranked.add(item);
            if (kind == 5) {
                sum += of(state, "holds" + a + "/" + item);
            } else if (a < 0 || item % partitions == a) {
                sum += of(state, "stock" + item) * state.getOrDefault("price" + item, 1L);
            }
        }
        ranked.sort(Comparator.comparing(item -> -of(state, "sold" + item)));
        return kind == 7 ? ranked.get(a) : sum;
    }

    private static long of(Map<String, Long> state, String name) {
        return state.getOrDefault(name, 0L);
    }

    private static Map<String, Long> stateOf(List<Command> taken) {
        Map<String, Long> state = new HashMap<>();
        for (Command command : taken) {
            String stock = "stock" + command.item();
            String reserved = "reserved" + command.item();
            String holds = "holds" + command.customer() + "/" + command.item();
            long n = command.amount();
            long held = of(state, holds);
            if (command.kind() == 0 && of(state, stock) + n <= 100000) {
                state.merge(stock, n, Long::sum);
            } else if (command.kind() == 1 && of(state, stock) - of(state, reserved) >= n) {
                state.merge(holds, n, Long::sum);
                state.merge(reserved, n, Long::sum);
            } else if (command.kind() == 1) {
                state.merge("refusals" + command.customer(), 1L, Long::sum);
            } else if (command.kind() == 2 && held >= n) {
                state.merge(holds, -n, Long::sum);
                state.merge(reserved, -n, Long::sum);
                state.merge(stock, -n, Long::sum);
                state.merge("sold" + command.item(), n, Long::sum);
                long price = state.getOrDefault("price" + command.item(), 1L);
                state.merge("paid" + command.customer(), n * price, Long::sum);
            } else if (command.kind() == 3) {
                state.merge(holds, -Math.min(n, held), Long::sum);
                state.merge(reserved, -Math.min(n, held), Long::sum);
            } else if (command.kind() == 4) {
                state.put("price" + command.item(), n);
            }
        }
        return state;
    }

    long at(int replica, int partition) {
        there(isReplica(replica) && isPartition(partition));
        return vectorOf(replicas.get(replica).taken)[partition];
    }

    long kept(int replica, int partition) {
        there(isReplica(replica) && isPartition(partition));
        return vectorOf(replicas.get(replica).kept)[partition];
    }

    long log(int partition, int what) {
        there(isPartition(partition) && in(what, 0, 1));
        return what == 0 ? end(partition) : trimmed[partition];
    }

    long logged(int partition, int position, int what) {
        there(isPartition(partition) && in(what, 0, 6));
        there(in(position, trimmed[partition] + 1, end(partition)));
        Command of = logs.get(partition).get(position - 1);
        int[] needs = of.needs();
        return new int[] {of.kind(), of.item(), of.customer(), of.amount(), needs[0], needs[1], needs[2]}[what];
    }

    long session(int session, int what, int partition) {
        there(in(session, 0, 7) && in(what, 0, 1) && isPartition(partition));
        return what == 0 ? wrote[session][partition] : saw[session][partition];
    }

    long told(long token, int partition) {
        there(isPartition(partition));
        told(vectorOf(token) != null);
        return vectorOf(token)[partition];
    }

    long count(int what) {
        there(in(what, 0, 4));
        if (what == 0 || what == 4) {
            return what == 0 ? reads.size() : time;
        }
        return reads.stream().filter(read -> read.state == what - 1).count();
    }
}
