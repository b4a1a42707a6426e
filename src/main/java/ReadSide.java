/** The read side of a shop; what each call promises stands in DOC.md. */
public final class ReadSide {
    public static final int WAITS = 0, DONE = 1, FAILED = 2;

    private static final int ITEMS = 30, CUSTOMERS = 10, SESSIONS = 8;
    private static final int PARTITIONS_MOST = 3, REPLICAS_MOST = 4, NUMBER_OTHERWISE = 2;
    private static final int LOG_MOST = 400, READS_MOST = 500, WAITING_MOST = 40;
    private static final int AMOUNT_MOST = 1000, STOCK_MOST = 100000;
    private static final int SPEED_MOST = 10, TICKS_MOST = 100, PATIENCE_MOST = 1000;

    private static final int RECEIVE = 0, RESERVE = 1, SHIP = 2, RELEASE = 3, PRICE = 4;
    private static final int COMMAND_KINDS = 5;

    private static final int READ_YOUR_WRITES = 1, MONOTONIC_READS = 2;
    private static final int WRITES_FOLLOW_READS = 4, MONOTONIC_WRITES = 8, ALL_MODES = 15;

    private static final int TAKEN = 1, NO_COMMAND = 0, BLOCKED = -1, IS_DOWN = -2;

    private static final int STOCK_OF = 0, RESERVED_OF = 1, SOLD_OF = 2, PRICE_OF = 3;
    private static final int PAID_BY = 4, HELD_BY = 5, REFUSALS_OF = 6, RANKED_ITEM = 7, WORTH_OF = 8;
    private static final int QUESTION_KINDS = 9;
    private static final int ALL_PARTITIONS = -1, NO_BOUND = -1, NO_REPLICA = -1, NO_TIME = -1;

    private static final int POSITION_BITS = 9, POSITION_MASK = 511;
    private static final int CHECK_BITS = 20, CHECK_SHIFT = 44;
    private static final long CHECK_MASK = 0xFFFFFL, CHECK_FACTOR = 0x9E3779B97F4A7C15L;
    private static final long VECTOR_NUMBERS = 1L << 27;

    private final Log[] logs;
    private final Replica[] replicas;
    private final Session[] sessions;
    private final Read[] reads;
    private final Read[] waiting;
    private int asked, waitingNow, answered, failed;
    private int time;

    public ReadSide(int partitions, int replicas) {
        int logCount = partitions >= 1 && partitions <= PARTITIONS_MOST ? partitions : NUMBER_OTHERWISE;
        int replicaCount = replicas >= 1 && replicas <= REPLICAS_MOST ? replicas : NUMBER_OTHERWISE;
        logs = new Log[logCount];
        for (int i = 0; i < logCount; i++) {
            logs[i] = new Log();
        }
        this.replicas = new Replica[replicaCount];
        for (int i = 0; i < replicaCount; i++) {
            this.replicas[i] = new Replica();
        }
        sessions = new Session[SESSIONS];
        for (int i = 0; i < SESSIONS; i++) {
            sessions[i] = new Session();
        }
        reads = new Read[READS_MOST];
        waiting = new Read[WAITING_MOST];
    }

    public int mode(int session, int mode) throws IndexOutOfBoundsException, IllegalArgumentException {
        needIndex(session, SESSIONS);
        needNumber(mode, 0, ALL_MODES);
        Session of = sessions[session];
        int was = of.mode;
        of.mode = mode;
        if (was != mode) {
            for (int i = 0; i < replicas.length; i++) {
                lookAtWaiting(i);
            }
        }
        return was;
    }

    public int home(int session, int replica) throws IndexOutOfBoundsException {
        needIndex(session, SESSIONS);
        needIndex(replica, replicas.length);
        int was = sessions[session].home;
        sessions[session].home = replica;
        return was;
    }

    public long command(int session, int kind, int item, int customer, int amount)
            throws IndexOutOfBoundsException, IllegalArgumentException, IllegalStateException {
        needIndex(session, SESSIONS);
        needIndex(item, ITEMS);
        needIndex(customer, CUSTOMERS);
        needNumber(kind, 0, COMMAND_KINDS - 1);
        needNumber(amount, 1, AMOUNT_MOST);
        int partition = partitionOf(item, logs.length);
        Log log = logs[partition];
        if (log.end >= LOG_MOST) {
            throw new IllegalStateException("the log is full");
        }
        Session by = sessions[session];
        int[] needs = by.needsNow();
        log.append(new Command(kind, item, customer, amount, needs));
        by.wrote[partition] = log.end;
        return tokenOf(withPosition(needs, partition, log.end));
    }

    public int step(int replica, int partition) throws IndexOutOfBoundsException {
        needIndex(replica, replicas.length);
        needIndex(partition, logs.length);
        return replicas[replica].isUp ? takeStep(replica, partition) : IS_DOWN;
    }

    public int speed(int replica, int speed) throws IndexOutOfBoundsException, IllegalArgumentException {
        needIndex(replica, replicas.length);
        needNumber(speed, 0, SPEED_MOST);
        int was = replicas[replica].speed;
        replicas[replica].speed = speed;
        return was;
    }

    public int ticks(int n) throws IllegalArgumentException {
        needNumber(n, 0, TICKS_MOST);
        int taken = 0;
        for (int tick = 0; tick < n; tick++) {
            time++;
            for (int i = 0; i < replicas.length; i++) {
                if (replicas[i].isUp) {
                    taken += takeStepsOfTick(i);
                }
            }
            failOverdue();
        }
        return taken;
    }

    public boolean up(int replica, boolean is) throws IndexOutOfBoundsException {
        needIndex(replica, replicas.length);
        boolean was = replicas[replica].isUp;
        replicas[replica].isUp = is;
        if (is && !was) {
            lookAtWaiting(replica);
        }
        return was;
    }

    public int snapshot(int replica) throws IndexOutOfBoundsException {
        needIndex(replica, replicas.length);
        Replica of = replicas[replica];
        of.keep();
        return sum(of.kept);
    }

    public int crash(int replica) throws IndexOutOfBoundsException {
        needIndex(replica, replicas.length);
        Replica of = replicas[replica];
        int lost = sum(of.at) - sum(of.kept);
        of.comeAgain();
        return lost;
    }

    public int trim() {
        int gone = 0;
        for (int partition = 0; partition < logs.length; partition++) {
            gone += logs[partition].dropTo(leastKept(partition));
        }
        return gone;
    }

    public int ask(int session, long token, int stale, int patience, int kind, int a)
            throws IndexOutOfBoundsException, IllegalArgumentException, IllegalStateException {
        needIndex(session, SESSIONS);
        needQuestion(kind, a);
        needToken(token);
        needNumber(stale, NO_BOUND, LOG_MOST);
        needNumber(patience, 0, PATIENCE_MOST);
        if (asked >= READS_MOST) {
            throw new IllegalStateException("there were as many reads as there may be");
        }
        Read read = new Read(session, token, stale, time + patience, kind, a);
        int replica = firstThatMay(read);
        boolean waits = replica == NO_REPLICA && patience != 0;
        if (waits && waitingNow >= WAITING_MOST) {
            throw new IllegalStateException("as many reads wait as may");
        }
        reads[asked] = read;
        asked++;
        if (waits) {
            waiting[waitingNow] = read;
            waitingNow++;
        } else if (replica == NO_REPLICA) {
            fail(read);
        } else {
            answer(read, replica);
        }
        return asked - 1;
    }

    public long read(int read, int what) throws IndexOutOfBoundsException {
        needIndex(read, asked);
        Read of = reads[read];
        switch (what) {
            case 0: return of.state;
            case 1: return of.replica;
            case 2: return of.answer;
            case 3: return of.answeredAt;
            case 4: return of.endTime;
            case 5: return of.session;
            default: throw new IndexOutOfBoundsException("no such what");
        }
    }

    public long value(int replica, int kind, int a) throws IndexOutOfBoundsException {
        needIndex(replica, replicas.length);
        needQuestion(kind, a);
        return replicas[replica].state.answerTo(kind, a, logs.length);
    }

    public int at(int replica, int partition) throws IndexOutOfBoundsException {
        needIndex(replica, replicas.length);
        needIndex(partition, logs.length);
        return replicas[replica].at[partition];
    }

    public int kept(int replica, int partition) throws IndexOutOfBoundsException {
        needIndex(replica, replicas.length);
        needIndex(partition, logs.length);
        return replicas[replica].kept[partition];
    }

    public int log(int partition, int what) throws IndexOutOfBoundsException {
        needIndex(partition, logs.length);
        needIndex(what, 2);
        return what == 0 ? logs[partition].end : logs[partition].trimmed;
    }

    public int logged(int partition, int position, int what) throws IndexOutOfBoundsException {
        needIndex(partition, logs.length);
        Command command = logs[partition].commandAt(position);
        if (command == null) {
            throw new IndexOutOfBoundsException("no such position, or no longer");
        }
        switch (what) {
            case 0: return command.kind;
            case 1: return command.item;
            case 2: return command.customer;
            case 3: return command.amount;
            case 4: return command.needs[0];
            case 5: return command.needs[1];
            case 6: return command.needs[2];
            default: throw new IndexOutOfBoundsException("no such what");
        }
    }

    public int session(int session, int what, int partition) throws IndexOutOfBoundsException {
        needIndex(session, SESSIONS);
        needIndex(what, 2);
        needIndex(partition, logs.length);
        Session of = sessions[session];
        return what == 0 ? of.wrote[partition] : of.saw[partition];
    }

    public int told(long token, int partition) throws IndexOutOfBoundsException, IllegalArgumentException {
        needIndex(partition, logs.length);
        needToken(token);
        return positionIn(token, partition);
    }

    public int count(int what) throws IndexOutOfBoundsException {
        switch (what) {
            case 0: return asked;
            case 1: return waitingNow;
            case 2: return answered;
            case 3: return failed;
            case 4: return time;
            default: throw new IndexOutOfBoundsException("no such what");
        }
    }

    private static void needIndex(int index, int bound) {
        if (index < 0 || index >= bound) {
            throw new IndexOutOfBoundsException("there is no such one");
        }
    }

    private static void needNumber(int number, int least, int most) {
        if (number < least || number > most) {
            throw new IllegalArgumentException("a number is not as told");
        }
    }

    private void needQuestion(int kind, int a) {
        needIndex(kind, QUESTION_KINDS);
        if (kind == WORTH_OF) {
            if (a != ALL_PARTITIONS) {
                needIndex(a, logs.length);
            }
        } else if (kind >= PAID_BY && kind <= REFUSALS_OF) {
            needIndex(a, CUSTOMERS);
        } else {
            needIndex(a, ITEMS);
        }
    }

    private void needToken(long token) {
        long number = token >>> CHECK_BITS;
        if (token < 0 || number >= VECTOR_NUMBERS || (token & CHECK_MASK) != checkOf(number)) {
            throw new IllegalArgumentException("the number is no token");
        }
        for (int partition = 0; partition < PARTITIONS_MOST; partition++) {
            int end = partition < logs.length ? logs[partition].end : 0;
            if (positionIn(token, partition) > end) {
                throw new IllegalArgumentException("the token is beyond the logs");
            }
        }
    }

    private static int partitionOf(int item, int partitions) {
        return partitions > 0 ? item % partitions : 0;
    }

    /** Going around: behind the last one comes 0. */
    private static int theNext(int index, int bound) {
        return index + 1 < bound ? index + 1 : 0;
    }

    private static long checkOf(long number) {
        return (number * CHECK_FACTOR) >>> CHECK_SHIFT;
    }

    private static long tokenOf(int[] vector) {
        long number = 0;
        for (int partition = PARTITIONS_MOST - 1; partition >= 0; partition--) {
            number = (number << POSITION_BITS) + vector[partition];
        }
        return (number << CHECK_BITS) + checkOf(number);
    }

    private static int positionIn(long token, int partition) {
        return (int) (token >>> (CHECK_BITS + POSITION_BITS * partition)) & POSITION_MASK;
    }

    private static int[] withPosition(int[] vector, int partition, int position) {
        int[] raised = vector.clone();
        raised[partition] = Math.max(raised[partition], position);
        return raised;
    }

    private static boolean covers(int[] vector, int[] other) {
        for (int partition = 0; partition < PARTITIONS_MOST; partition++) {
            if (vector[partition] < other[partition]) {
                return false;
            }
        }
        return true;
    }

    private static int sum(int[] vector) {
        int sum = 0;
        for (int position : vector) {
            sum += position;
        }
        return sum;
    }

    private int leastKept(int partition) {
        int least = LOG_MOST;
        for (Replica replica : replicas) {
            least = Math.min(least, replica.kept[partition]);
        }
        return least;
    }

    private int takeStep(int replica, int partition) {
        Replica of = replicas[replica];
        Command command = logs[partition].commandAt(of.at[partition] + 1);
        if (command == null) {
            return NO_COMMAND;
        }
        if (!covers(of.at, command.needs)) {
            return BLOCKED;
        }
        of.state.take(command);
        of.at[partition]++;
        of.nextPartition = theNext(partition, logs.length);
        lookAtWaiting(replica);
        return TAKEN;
    }

    private int takeStepsOfTick(int replica) {
        Replica of = replicas[replica];
        int partition = of.nextPartition;
        int taken = 0;
        int passedBy = 0;
        // No step costs more tries than there are partitions, so this bound never cuts a tick short.
        int triesMost = of.speed * logs.length;
        for (int tries = 0; tries < triesMost && taken < of.speed && passedBy < logs.length; tries++) {
            if (takeStep(replica, partition) == TAKEN) {
                taken++;
                passedBy = 0;
            } else {
                passedBy++;
            }
            partition = theNext(partition, logs.length);
        }
        return taken;
    }

    private int firstThatMay(Read read) {
        int replica = sessions[read.session].home;
        for (int tries = 0; tries < replicas.length; tries++) {
            if (mayAnswer(replicas[replica], read)) {
                return replica;
            }
            replica = theNext(replica, replicas.length);
        }
        return NO_REPLICA;
    }

    private boolean mayAnswer(Replica replica, Read read) {
        if (!replica.isUp) {
            return false;
        }
        for (int partition = 0; partition < logs.length; partition++) {
            if (replica.at[partition] < leastFor(read, partition)) {
                return false;
            }
        }
        return true;
    }

    private int leastFor(Read read, int partition) {
        Session by = sessions[read.session];
        int least = positionIn(read.token, partition);
        if ((by.mode & READ_YOUR_WRITES) != 0) {
            least = Math.max(least, by.wrote[partition]);
        }
        if ((by.mode & MONOTONIC_READS) != 0) {
            least = Math.max(least, by.saw[partition]);
        }
        if (read.stale != NO_BOUND) {
            least = Math.max(least, logs[partition].end - read.stale);
        }
        return least;
    }

    private void lookAtWaiting(int replica) {
        for (int i = 0; i < waitingNow; i++) {
            if (mayAnswer(replicas[replica], waiting[i])) {
                answer(waiting[i], replica);
            }
        }
        forgetEnded();
    }

    private void failOverdue() {
        for (int i = 0; i < waitingNow; i++) {
            if (waiting[i].deadline <= time) {
                fail(waiting[i]);
            }
        }
        forgetEnded();
    }

    private void forgetEnded() {
        int left = 0;
        for (int i = 0; i < waitingNow; i++) {
            if (waiting[i].state == WAITS) {
                waiting[left] = waiting[i];
                left++;
            }
        }
        waitingNow = left;
    }

    private void answer(Read read, int replica) {
        Replica by = replicas[replica];
        read.state = DONE;
        read.replica = replica;
        read.answer = by.state.answerTo(read.kind, read.a, logs.length);
        read.answeredAt = tokenOf(by.at);
        read.endTime = time;
        answered++;
        sessions[read.session].see(by.at);
    }

    private void fail(Read read) {
        read.state = FAILED;
        read.endTime = time;
        failed++;
    }

    private static final class Command {
        final int kind, item, customer, amount;
        final int[] needs;

        Command(int kind, int item, int customer, int amount, int[] needs) {
            this.kind = kind;
            this.item = item;
            this.customer = customer;
            this.amount = amount;
            this.needs = needs;
        }
    }

    private static final class Log {
        final Command[] commands = new Command[LOG_MOST];
        int end, trimmed;

        /** Null where there is none, or none any more: the callers differ in what that means. */
        Command commandAt(int position) {
            return position > trimmed && position <= end ? commands[position - 1] : null;
        }

        void append(Command command) {
            if (end < commands.length) {
                commands[end] = command;
                end++;
            }
        }

        int dropTo(int position) {
            int gone = 0;
            for (int next = trimmed + 1; next <= position && next <= end; next++) {
                commands[next - 1] = null;
                gone++;
            }
            trimmed += gone;
            return gone;
        }
    }

    private static final class Session {
        final int[] wrote = new int[PARTITIONS_MOST];
        final int[] saw = new int[PARTITIONS_MOST];
        int mode, home;

        int[] needsNow() {
            int[] needs = new int[PARTITIONS_MOST];
            for (int partition = 0; partition < PARTITIONS_MOST; partition++) {
                if ((mode & WRITES_FOLLOW_READS) != 0) {
                    needs[partition] = saw[partition];
                }
                if ((mode & MONOTONIC_WRITES) != 0) {
                    needs[partition] = Math.max(needs[partition], wrote[partition]);
                }
            }
            return needs;
        }

        void see(int[] vector) {
            for (int partition = 0; partition < PARTITIONS_MOST; partition++) {
                saw[partition] = Math.max(saw[partition], vector[partition]);
            }
        }
    }

    private static final class Replica {
        final State state = new State();
        final State keptState = new State();
        // Vectors are as long as the most partitions, so that tokens and needs are read without a test of length.
        final int[] at = new int[PARTITIONS_MOST];
        final int[] kept = new int[PARTITIONS_MOST];
        int speed, nextPartition;
        boolean isUp = true;

        void keep() {
            keptState.becomeLike(state);
            System.arraycopy(at, 0, kept, 0, PARTITIONS_MOST);
        }

        /** Where the next tick begins stays as it is: the document wants the latest step even if it was lost. */
        void comeAgain() {
            state.becomeLike(keptState);
            System.arraycopy(kept, 0, at, 0, PARTITIONS_MOST);
        }
    }

    private static final class Read {
        final int session, stale, deadline, kind, a;
        final long token;
        int state = WAITS, replica = NO_REPLICA, endTime = NO_TIME;
        long answer, answeredAt;

        Read(int session, long token, int stale, int deadline, int kind, int a) {
            this.session = session;
            this.token = token;
            this.stale = stale;
            this.deadline = deadline;
            this.kind = kind;
            this.a = a;
        }
    }

    private static final class State {
        final int[] stock = new int[ITEMS];
        final int[] reserved = new int[ITEMS];
        final int[] sold = new int[ITEMS];
        final int[] price = new int[ITEMS];
        final long[] paid = new long[CUSTOMERS];
        final int[] refusals = new int[CUSTOMERS];
        final int[] holds = new int[CUSTOMERS * ITEMS];

        State() {
            for (int item = 0; item < ITEMS; item++) {
                price[item] = 1;
            }
        }

        void becomeLike(State other) {
            System.arraycopy(other.stock, 0, stock, 0, ITEMS);
            System.arraycopy(other.reserved, 0, reserved, 0, ITEMS);
            System.arraycopy(other.sold, 0, sold, 0, ITEMS);
            System.arraycopy(other.price, 0, price, 0, ITEMS);
            System.arraycopy(other.paid, 0, paid, 0, CUSTOMERS);
            System.arraycopy(other.refusals, 0, refusals, 0, CUSTOMERS);
            System.arraycopy(other.holds, 0, holds, 0, CUSTOMERS * ITEMS);
        }

        void take(Command command) {
            int item = command.item;
            int customer = command.customer;
            int amount = command.amount;
            switch (command.kind) {
                case RECEIVE: receive(item, amount); break;
                case RESERVE: reserve(item, customer, amount); break;
                case SHIP: ship(item, customer, amount); break;
                case RELEASE: release(item, customer, amount); break;
                case PRICE: price[item] = amount; break;
                default: break;
            }
        }

        void receive(int item, int amount) {
            if (stock[item] + amount <= STOCK_MOST) {
                stock[item] += amount;
            }
        }

        void reserve(int item, int customer, int amount) {
            if (stock[item] - reserved[item] >= amount) {
                holds[customer * ITEMS + item] += amount;
                reserved[item] += amount;
            } else {
                refusals[customer]++;
            }
        }

        void ship(int item, int customer, int amount) {
            int place = customer * ITEMS + item;
            if (holds[place] >= amount) {
                holds[place] -= amount;
                reserved[item] -= amount;
                stock[item] -= amount;
                sold[item] += amount;
                paid[customer] += (long) amount * price[item];
            }
        }

        void release(int item, int customer, int amount) {
            int place = customer * ITEMS + item;
            int released = Math.min(amount, holds[place]);
            holds[place] -= released;
            reserved[item] -= released;
        }

        long answerTo(int kind, int a, int partitions) {
            switch (kind) {
                case STOCK_OF: return stock[a];
                case RESERVED_OF: return reserved[a];
                case SOLD_OF: return sold[a];
                case PRICE_OF: return price[a];
                case PAID_BY: return paid[a];
                case HELD_BY: return heldBy(a);
                case REFUSALS_OF: return refusals[a];
                case RANKED_ITEM: return itemRanked(a);
                default: return worth(a, partitions);
            }
        }

        long heldBy(int customer) {
            long held = 0;
            for (int item = 0; item < ITEMS; item++) {
                held += holds[customer * ITEMS + item];
            }
            return held;
        }

        int itemRanked(int rank) {
            for (int item = 0; item < ITEMS; item++) {
                int before = 0;
                for (int other = 0; other < ITEMS; other++) {
                    boolean first = sold[other] > sold[item] || (sold[other] == sold[item] && other < item);
                    before += first ? 1 : 0;
                }
                if (before == rank) {
                    return item;
                }
            }
            return rank;
        }

        long worth(int partition, int partitions) {
            long worth = 0;
            for (int item = 0; item < ITEMS; item++) {
                if (partition == ALL_PARTITIONS || partitionOf(item, partitions) == partition) {
                    worth += (long) stock[item] * price[item];
                }
            }
            return worth;
        }
    }
}
