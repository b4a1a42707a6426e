/** The sentences about reads and questions that name an edge: each stands above its own test. */
public final class ReadEdgesTest {
    public static void main(String[] args) {
        tokenIsCoveredByAsMuch();
        wroteIsCoveredByAsMuch();
        sawIsCoveredByAsMuch();
        downReplicasMayNot();
        staleIsNoMoreThanTheBound();
        staleOfAFullLog();
        staleIsOfTheEndOfThen();
        askGoesAroundFromHome();
        patienceOfNoughtFails();
        patienceOfOneTick();
        patienceOfAThousandTicks();
        patienceEndsAmidTicks();
        patienceIsOfEachRead();
        lastTickStillAnswers();
        eachStepOfATickAnswers();
        comingUpAnswers();
        modeChangeAnswers();
        readsAreLookedAtInTheirOrder();
        whatEndedStaysSo();
        sawBecomesTheGreater();
        failedReadsSawNothing();
        fortyMayWait();
        placesOfEndedReadsAreFree();
        fiveHundredMayBeAsked();
        rankedItems();
        worthOfPartitions();
        partsOfARead();
        countsBeginAtNought();
        allCallsOfAnObject();
        Check.end();
    }

    private static void receive(ReadSide x, int... items) {
        for (int item : items) {
            x.command(0, 0, item, 0, 1);
        }
    }

    private static void allDown(ReadSide x, int replicas) {
        for (int replica = 0; replica < replicas; replica++) {
            x.up(replica, false);
        }
    }

    /** "AT covers the token": at each partition as much is enough, and one less is not. */
    private static void tokenIsCoveredByAsMuch() {
        for (int partition = 0; partition < 3; partition++) {
            ReadSide x = new ReadSide(3, 1);
            receive(x, 0, 1, 2, partition);
            x.speed(0, 3);
            x.ticks(1);
            Look.at("one of each", x, 0, 1, 1, 1);
            x.ask(1, Tokens.of(1, 1, 1), -1, 0, 0, 0);
            Check.same("as much", x.read(0, 0), ReadSide.DONE);
            long more = Tokens.ofNumber(1 + 512 + 262144 + (1L << (9 * partition)));
            x.ask(1, more, -1, 0, 0, 0);
            Check.same("one less at " + partition, x.read(1, 0), ReadSide.FAILED);
            x.ask(1, more, -1, 5, 0, 0);
            Check.same("it is waited for", x.read(2, 0), ReadSide.WAITS);
            x.step(0, partition);
            Look.read("as much again", x, 2, ReadSide.DONE, 0, x.value(0, 0, 0), more, 1, 1);
        }
    }

    /** "by the session's mode as it is then, WROTE (1) .. as they are then". */
    private static void wroteIsCoveredByAsMuch() {
        ReadSide x = new ReadSide(2, 1);
        x.mode(0, 1);
        receive(x, 1, 1);
        x.step(0, 1);
        x.ask(0, 0, -1, 0, 0, 0);
        Check.same("one less", x.read(0, 0), ReadSide.FAILED);
        x.ask(1, 0, -1, 0, 0, 0);
        Check.same("one less, of another session", x.read(1, 0), ReadSide.DONE);
        x.ask(0, 0, -1, 5, 0, 0);
        receive(x, 1);
        x.step(0, 1);
        Check.same("one less of what it wrote since", x.read(2, 0), ReadSide.WAITS);
        x.step(0, 1);
        Check.same("as much", x.read(2, 0), ReadSide.DONE);
        x.mode(0, 14);
        receive(x, 1);
        x.ask(0, 0, -1, 0, 0, 0);
        Check.same("one less, without 1", x.read(3, 0), ReadSide.DONE);
    }

    /** "and SAW (2) as they are then". */
    private static void sawIsCoveredByAsMuch() {
        ReadSide x = new ReadSide(2, 2);
        receive(x, 1, 1);
        x.step(0, 1);
        x.step(0, 1);
        x.step(1, 1);
        x.mode(3, 2);
        x.ask(3, 0, -1, 0, 0, 0);
        Look.saw("of replica 0", x, 3, 0, 2);
        x.up(0, false);
        x.ask(3, 0, -1, 0, 0, 0);
        Check.same("one less", x.read(1, 0), ReadSide.FAILED);
        x.ask(4, 0, -1, 0, 0, 0);
        Check.same("one less, of another session", x.read(2, 0), ReadSide.DONE);
        x.ask(3, 0, -1, 5, 0, 0);
        x.step(1, 1);
        Look.read("as much", x, 3, ReadSide.DONE, 1);
        x.crash(1);
        x.mode(3, 13);
        x.ask(3, 0, -1, 0, 0, 0);
        Check.same("much less, without 2", x.read(4, 0), ReadSide.DONE);
        Look.saw("it stays", x, 3, 0, 2);
    }

    /** "A replica MAY answer, if it is up". */
    private static void downReplicasMayNot() {
        ReadSide x = new ReadSide(1, 2);
        allDown(x, 2);
        x.ask(0, 0, -1, 0, 0, 0);
        Check.same("both are down", x.read(0, 0), ReadSide.FAILED);
        x.up(1, true);
        x.ask(0, 0, -1, 0, 0, 0);
        Look.read("one is up", x, 1, ReadSide.DONE, 1);
    }

    /** "with a bound, no position of AT is more than that behind the end of its log"; "(-1: none)". */
    private static void staleIsNoMoreThanTheBound() {
        for (int partition = 0; partition < 3; partition++) {
            ReadSide x = new ReadSide(3, 1);
            receive(x, partition, partition);
            int[] due = {ReadSide.DONE, ReadSide.FAILED, ReadSide.FAILED, ReadSide.DONE, ReadSide.DONE};
            for (int stale = -1; stale <= 3; stale++) {
                int read = x.ask(0, 0, stale, 0, 0, 0);
                Check.same("2 behind at " + partition + ", bound " + stale, x.read(read, 0), due[stale + 1]);
            }
            x.step(0, partition);
            x.step(0, partition);
            int read = x.ask(0, 0, 0, 0, 0, 0);
            Check.same("none behind, bound 0", x.read(read, 0), ReadSide.DONE);
        }
    }

    /** "stale -1 .. 400": a log of 400, of which nothing is taken. */
    private static void staleOfAFullLog() {
        ReadSide x = new ReadSide(1, 1);
        for (int i = 0; i < 400; i++) {
            receive(x, 0);
        }
        x.ask(0, 0, 399, 0, 0, 0);
        Check.same("400 behind, bound 399", x.read(0, 0), ReadSide.FAILED);
        x.ask(0, 0, 400, 0, 0, 0);
        Check.same("400 behind, bound 400", x.read(1, 0), ReadSide.DONE);
        Check.notAsTold("bound 401", () -> x.ask(0, 0, 401, 0, 0, 0));
        Check.notAsTold("bound -2", () -> x.ask(0, 0, -2, 0, 0, 0));
        Check.same("reads", x.count(0), 2);
    }

    /** What is behind is so by the end of the log when the read is looked at, not when it was asked. */
    private static void staleIsOfTheEndOfThen() {
        ReadSide x = new ReadSide(2, 1);
        receive(x, 0, 0);
        x.ask(0, 0, 1, 9, 0, 0);
        receive(x, 0, 1, 1);
        x.step(0, 0);
        x.step(0, 0);
        Check.same("one behind at 0, two at 1", x.read(0, 0), ReadSide.WAITS);
        x.step(0, 1);
        Look.read("one behind at each", x, 0, ReadSide.DONE, 0, 2, Tokens.of(2, 1, 0), 0, 0);
    }

    /** "by the first replica that may, from the session's home on, going around". */
    private static void askGoesAroundFromHome() {
        for (int home = 0; home < 4; home++) {
            ReadSide x = new ReadSide(1, 4);
            x.home(5, home);
            for (int i = 0; i < 4; i++) {
                int read = x.ask(5, 0, -1, 0, 0, 0);
                Check.same("home " + home + ", then " + i, x.read(read, 1), (home + i) % 4);
                x.up((home + i) % 4, false);
            }
            int read = x.ask(5, 0, -1, 0, 0, 0);
            Look.read("home " + home + ", none left", x, read, ReadSide.FAILED, -1, 0, 0, 0, 5);
        }
    }

    /** "otherwise it WAITS, if its patience is not 0; if it is, it FAILS". */
    private static void patienceOfNoughtFails() {
        ReadSide x = new ReadSide(1, 1);
        x.up(0, false);
        x.ticks(3);
        x.ask(2, 0, -1, 0, 0, 0);
        Look.read("0", x, 0, ReadSide.FAILED, -1, 0, 0, 3, 2);
        x.ask(2, 0, -1, 1, 0, 0);
        Look.read("1", x, 1, ReadSide.WAITS, -1, 0, 0, -1, 2);
        Look.counts("one of each", x, 2, 1, 0, 1, 3);
        x.up(0, true);
        Look.read("coming up does not help it", x, 0, ReadSide.FAILED, -1, 0, 0, 3, 2);
        Check.notAsTold("-1", () -> x.ask(2, 0, -1, -1, 0, 0));
    }

    /** "at the end of the tick in which its patience (ticks since it was asked) is reached". */
    private static void patienceOfOneTick() {
        ReadSide x = new ReadSide(1, 1);
        x.ticks(100);
        x.up(0, false);
        x.ask(0, 0, -1, 1, 0, 0);
        x.ask(0, 0, -1, 2, 0, 0);
        x.ticks(0);
        Look.counts("no tick", x, 2, 2, 0, 0, 100);
        x.ticks(1);
        Look.read("1 of 1", x, 0, ReadSide.FAILED, -1, 0, 0, 101, 0);
        Look.read("1 of 2", x, 1, ReadSide.WAITS, -1, 0, 0, -1, 0);
        x.ticks(1);
        Look.read("2 of 2", x, 1, ReadSide.FAILED, -1, 0, 0, 102, 0);
        Look.counts("both", x, 2, 0, 0, 2, 102);
    }

    /** "patience 0 .. 1000". */
    private static void patienceOfAThousandTicks() {
        ReadSide x = new ReadSide(1, 1);
        x.up(0, false);
        x.ticks(7);
        Check.notAsTold("1001", () -> x.ask(0, 0, -1, 1001, 0, 0));
        Check.same("1000", x.ask(0, 0, -1, 1000, 0, 0), 0);
        for (int i = 0; i < 9; i++) {
            x.ticks(100);
        }
        x.ticks(99);
        Look.read("999 ticks", x, 0, ReadSide.WAITS, -1, 0, 0, -1, 0);
        x.ticks(1);
        Look.read("1000 ticks", x, 0, ReadSide.FAILED, -1, 0, 0, 1007, 0);
    }

    /** The time is that of the tick, not of the end of the call. */
    private static void patienceEndsAmidTicks() {
        ReadSide x = new ReadSide(1, 1);
        long token = x.command(0, 0, 0, 0, 1);
        x.ask(0, token, -1, 5, 0, 0);
        x.ask(0, token, -1, 4, 0, 0);
        x.ticks(100);
        Look.read("tick 5", x, 0, ReadSide.FAILED, -1, 0, 0, 5, 0);
        Look.read("tick 4", x, 1, ReadSide.FAILED, -1, 0, 0, 4, 0);
        Check.same("time", x.count(4), 100);
    }

    /** Of reads that wait, some fail, and the others go on waiting in their order. */
    private static void patienceIsOfEachRead() {
        ReadSide x = new ReadSide(1, 1);
        x.up(0, false);
        int[] patience = {3, 1, 2, 1, 3};
        for (int read = 0; read < 5; read++) {
            x.ask(read, 0, -1, patience[read], 0, 0);
        }
        x.ticks(1);
        Look.counts("behind tick 1", x, 5, 3, 0, 2, 1);
        x.ticks(1);
        Look.counts("behind tick 2", x, 5, 2, 0, 3, 2);
        x.up(0, true);
        Look.counts("up", x, 5, 0, 2, 3, 2);
        for (int read = 0; read < 5; read++) {
            Check.same("read " + read, x.read(read, 0), patience[read] == 3 ? ReadSide.DONE : ReadSide.FAILED);
        }
    }

    /** "Then reads whose PATIENCE is over FAIL": behind the steps of the tick. */
    private static void lastTickStillAnswers() {
        ReadSide x = new ReadSide(1, 1);
        receive(x, 0, 0, 0);
        x.speed(0, 1);
        x.ask(0, Tokens.of(2, 0, 0), -1, 2, 0, 0);
        x.ask(0, Tokens.of(3, 0, 0), -1, 2, 0, 0);
        x.ticks(3);
        Look.read("in its last tick", x, 0, ReadSide.DONE, 0, 2, Tokens.of(2, 0, 0), 2, 0);
        Look.read("one tick too late", x, 1, ReadSide.FAILED, -1, 0, 0, 2, 0);
    }

    /** "Behind each step that a replica takes": an answer is of the state behind the first step that is enough. */
    private static void eachStepOfATickAnswers() {
        ReadSide x = new ReadSide(1, 1);
        receive(x, 0, 0, 0);
        x.speed(0, 3);
        for (int position = 1; position <= 3; position++) {
            x.ask(0, Tokens.of(position, 0, 0), -1, 5, 0, 0);
        }
        x.ticks(1);
        for (int position = 1; position <= 3; position++) {
            Look.read("step " + position, x, position - 1, ReadSide.DONE, 0, position, Tokens.of(position, 0, 0), 1, 0);
        }
    }

    /** "when it comes up": the one that comes, not another one. */
    private static void comingUpAnswers() {
        ReadSide x = new ReadSide(1, 3);
        receive(x, 0);
        x.step(1, 0);
        allDown(x, 3);
        x.ask(0, Tokens.of(1, 0, 0), -1, 9, 0, 0);
        x.up(0, false);
        x.up(0, true);
        Check.same("0 has not got it", x.read(0, 0), ReadSide.WAITS);
        x.up(2, true);
        Check.same("2 neither", x.read(0, 0), ReadSide.WAITS);
        x.up(1, true);
        Look.read("1 has", x, 0, ReadSide.DONE, 1, 1, Tokens.of(1, 0, 0), 0, 0);
    }

    /** "behind a call that changes a mode (then for all replicas, from 0 on)". */
    private static void modeChangeAnswers() {
        ReadSide x = new ReadSide(1, 3);
        x.mode(0, 1);
        receive(x, 0);
        x.home(0, 2);
        x.ask(0, 0, -1, 9, 0, 0);
        x.up(0, false);
        Check.notAsTold("a mode that there is not", () -> x.mode(0, 16));
        x.mode(0, 15);
        Check.same("1 is still in it", x.read(0, 0), ReadSide.WAITS);
        x.mode(0, 14);
        Look.read("1 is the first that is up, whatever the home", x, 0, ReadSide.DONE, 1, 0, 0, 0, 0);
    }

    /** "in their order"; "(each one looked at with what the ones before it did to SAW)". */
    private static void readsAreLookedAtInTheirOrder() {
        ReadSide x = new ReadSide(2, 2);
        x.command(1, 0, 0, 0, 1);
        x.command(1, 0, 1, 0, 1);
        x.step(0, 0);
        x.step(1, 1);
        x.mode(0, 3);
        x.command(0, 0, 0, 0, 1);
        x.ask(0, Tokens.of(0, 1, 0), -1, 9, 0, 0);
        x.ask(0, Tokens.of(1, 0, 0), -1, 9, 0, 0);
        x.ask(0, 0, -1, 9, 0, 0);
        x.mode(0, 2);
        Check.same("0 may not answer the first", x.read(0, 0), ReadSide.WAITS);
        Look.read("0 answers the second", x, 1, ReadSide.DONE, 0);
        Look.read("0 answers the third", x, 2, ReadSide.DONE, 0);
        Check.same("then 1 may not answer the first any more", x.read(0, 0), ReadSide.WAITS);
        Look.counts("one waits", x, 3, 1, 2, 0, 0);
        x.mode(0, 0);
        Look.read("without 2 it may", x, 0, ReadSide.DONE, 1, 0, Tokens.of(0, 1, 0), 0, 0);
    }

    /** An answer and a failure stay as they are, whatever comes. */
    private static void whatEndedStaysSo() {
        ReadSide x = new ReadSide(1, 1);
        receive(x, 0, 0);
        x.step(0, 0);
        x.ask(0, 0, -1, 0, 0, 0);
        x.ask(0, 0, 0, 1, 0, 0);
        x.ticks(1);
        x.step(0, 0);
        x.crash(0);
        x.up(0, false);
        x.up(0, true);
        x.mode(0, 3);
        x.ticks(10);
        Look.read("answered", x, 0, ReadSide.DONE, 0, 1, Tokens.of(1, 0, 0), 0, 0);
        Look.read("failed", x, 1, ReadSide.FAILED, -1, 0, 0, 1, 0);
        Look.counts("one of each", x, 2, 0, 1, 1, 11);
    }

    /** "SAW becomes, at each partition, the greater one of itself and AT". */
    private static void sawBecomesTheGreater() {
        ReadSide x = new ReadSide(3, 1);
        receive(x, 0, 1, 1, 2);
        x.step(0, 0);
        x.step(0, 1);
        x.snapshot(0);
        x.step(0, 1);
        x.ask(0, 0, -1, 0, 0, 0);
        Look.saw("first", x, 0, 1, 2, 0);
        x.crash(0);
        x.step(0, 2);
        x.ask(0, 0, -1, 0, 0, 0);
        Look.saw("less at 1, more at 2", x, 0, 1, 2, 1);
        Check.same("the answer is of AT alone", x.read(1, 3), Tokens.of(1, 1, 1));
        x.ask(0, 0, -1, 0, 0, 0);
        Look.saw("the same again", x, 0, 1, 2, 1);
    }

    /** Only an answer is seen. */
    private static void failedReadsSawNothing() {
        ReadSide x = new ReadSide(1, 1);
        receive(x, 0, 0);
        x.step(0, 0);
        x.ask(0, 0, 0, 0, 0, 0);
        x.ask(0, 0, 0, 1, 0, 0);
        Look.saw("one failed, one waits", x, 0, 0);
        x.ticks(1);
        Look.saw("both failed", x, 0, 0);
        x.value(0, 0, 0);
        Look.saw("a value is no read", x, 0, 0);
    }

    /** "40 wait and it would". */
    private static void fortyMayWait() {
        ReadSide x = new ReadSide(1, 1);
        receive(x, 0);
        for (int read = 0; read < 39; read++) {
            x.ask(0, 0, 0, 3, 0, 0);
        }
        Check.same("the 40th", x.ask(1, 0, 0, 3, 0, 0), 39);
        Look.counts("40", x, 40, 40, 0, 0, 0);
        Check.notNow("the 41st", () -> x.ask(1, 0, 0, 3, 0, 0));
        Check.notNow("the 41st with the least patience", () -> x.ask(1, 0, 0, 1, 0, 0));
        Look.counts("still 40", x, 40, 40, 0, 0, 0);
        Check.same("one that fails", x.ask(1, 0, 0, 0, 0, 0), 40);
        Check.same("one that is answered", x.ask(1, 0, 1, 3, 0, 0), 41);
        Look.counts("both", x, 42, 40, 1, 1, 0);
    }

    /** The reads that wait now count, not those that did. */
    private static void placesOfEndedReadsAreFree() {
        ReadSide x = new ReadSide(1, 1);
        receive(x, 0);
        x.ask(0, 0, 0, 1, 0, 0);
        for (int read = 1; read < 40; read++) {
            x.ask(0, 0, 0, 3, 0, 0);
        }
        x.ticks(1);
        Check.same("one failed, one more", x.ask(2, 0, 0, 9, 0, 0), 40);
        Check.notNow("not two more", () -> x.ask(2, 0, 0, 9, 0, 0));
        x.ticks(2);
        Look.counts("39 failed", x, 41, 1, 0, 40, 3);
        for (int read = 41; read < 80; read++) {
            Check.same("39 more", x.ask(2, 0, 0, 9, 0, 0), read);
        }
        Check.notNow("not 40 more", () -> x.ask(2, 0, 0, 9, 0, 0));
        x.step(0, 0);
        Look.counts("all of them are answered", x, 80, 0, 40, 40, 3);
        receive(x, 0);
        Check.same("and again", x.ask(2, 0, 0, 9, 0, 0), 80);
    }

    /** "there were 500". */
    private static void fiveHundredMayBeAsked() {
        ReadSide x = new ReadSide(1, 1);
        x.up(0, false);
        for (int read = 0; read < 499; read++) {
            x.ask(0, 0, -1, 0, 0, 0);
        }
        Check.same("the 500th", x.ask(7, 0, -1, 1, 0, 0), 499);
        Check.notNow("the 501st", () -> x.ask(7, 0, -1, 0, 0, 0));
        Look.read("the last", x, 499, ReadSide.WAITS);
        Check.noSuch("read 500", () -> x.read(500, 0));
        x.up(0, true);
        Look.read("the last", x, 499, ReadSide.DONE);
        Check.notNow("the 501st, if it were answered", () -> x.ask(7, 0, -1, 0, 0, 0));
        Look.counts("500", x, 500, 0, 1);
    }

    /** "the a-th item (from 0) by what was sold, the most first, of the same the lower one". */
    private static void rankedItems() {
        ReadSide x = new ReadSide(1, 1);
        for (int rank = 0; rank < 30; rank++) {
            Check.same("nothing sold, rank " + rank, x.value(0, 7, rank), rank);
        }
        Check.noSuch("rank 30", () -> x.value(0, 7, 30));
        Check.noSuch("rank -1", () -> x.value(0, 7, -1));
        int[][] sold = {{29, 2}, {0, 1}, {15, 2}};
        for (int[] pair : sold) {
            x.command(0, 0, pair[0], 0, 10);
            x.command(0, 1, pair[0], 0, pair[1]);
            x.command(0, 2, pair[0], 0, pair[1]);
        }
        x.speed(0, 9);
        x.ticks(1);
        int[] due = {15, 29, 0, 1, 2};
        for (int rank = 0; rank < due.length; rank++) {
            Check.same("rank " + rank, x.value(0, 7, rank), due[rank]);
        }
        Check.same("the last but one", x.value(0, 7, 28), 27);
        Check.same("the last", x.value(0, 7, 29), 28);
    }

    /** "of all items of partition a stock times price together (a is -1: of all items)". */
    private static void worthOfPartitions() {
        for (int partitions = 1; partitions <= 3; partitions++) {
            ReadSide x = new ReadSide(partitions, 1);
            int beyond = partitions;
            Check.same("of nothing", x.value(0, 8, -1), 0);
            x.command(0, 0, 0, 0, 10);
            x.command(0, 0, 29, 0, 1000);
            x.command(0, 4, 29, 0, 1000);
            x.speed(0, 10);
            x.ticks(1);
            Check.same("of all", x.value(0, 8, -1), 1000010);
            Check.same("of the first one", x.value(0, 8, 0), partitions == 1 ? 1000010 : 10);
            Check.same("of the last one", x.value(0, 8, partitions - 1), partitions == 1 ? 1000010 : 1000000);
            Check.noSuch("partition " + beyond, () -> x.value(0, 8, beyond));
            Check.noSuch("partition -2", () -> x.value(0, 8, -2));
        }
    }

    /** read: "-1 if none did", "(0)", "(0)", "-1 when it waits". */
    private static void partsOfARead() {
        ReadSide x = new ReadSide(2, 1);
        Check.noSuch("of no read", () -> x.read(0, 0));
        x.ask(6, 0, -1, 0, 3, 29);
        Look.read("answered at the beginning", x, 0, ReadSide.DONE, 0, 1, 0, 0, 6);
        x.up(0, false);
        x.ask(7, 0, -1, 0, 3, 29);
        Look.read("failed", x, 1, ReadSide.FAILED, -1, 0, 0, 0, 7);
        x.ask(5, 0, -1, 1, 3, 29);
        Look.read("waits", x, 2, ReadSide.WAITS, -1, 0, 0, -1, 5);
        Check.noSuch("read 3", () -> x.read(3, 0));
        Check.noSuch("what 6", () -> x.read(2, 6));
        Check.noSuch("what -1", () -> x.read(2, -1));
    }

    /** count: "what = 0 reads, 1 that wait, 2 that were answered, 3 that failed, 4 the time". */
    private static void countsBeginAtNought() {
        ReadSide x = new ReadSide(1, 1);
        Look.counts("at first", x, 0, 0, 0, 0, 0);
        Check.noSuch("count(5)", () -> x.count(5));
        Check.noSuch("count(-1)", () -> x.count(-1));
        receive(x, 0);
        x.ask(0, 0, -1, 0, 0, 0);
        x.ask(0, 0, 0, 9, 0, 0);
        x.ask(0, 0, 0, 9, 0, 0);
        x.ask(0, 0, 0, 0, 0, 0);
        x.ask(0, 0, 0, 0, 0, 0);
        x.ask(0, 0, 0, 0, 0, 0);
        x.ticks(4);
        Look.counts("each another number", x, 6, 2, 1, 3, 4);
    }

    /** "An object is used for at most 512 calls": the last of them is answered as the first. */
    private static void allCallsOfAnObject() {
        ReadSide x = new ReadSide(3, 4);
        for (int call = 1; call <= 400; call++) {
            x.command(0, 0, 2, 0, 1);
        }
        for (int replica = 0; replica < 4; replica++) {
            x.speed(replica, 10);
        }
        for (int call = 405; call <= 510; call++) {
            x.ticks(100);
        }
        Check.same("call 511", x.ask(0, Tokens.of(0, 0, 400), 0, 0, 0, 2), 0);
        Check.same("call 512", x.read(0, 4), 10600);
    }
}
