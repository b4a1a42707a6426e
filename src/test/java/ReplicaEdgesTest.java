/** The sentences about replicas, ticks, snapshots and trims that name an edge: each stands above its own test. */
public final class ReplicaEdgesTest {
    public static void main(String[] args) {
        numbersOutsideAreTwo();
        stepOfAnEmptyLog();
        coveringNeedsNoMoreThanEqual();
        downComesBeforeTheOthers();
        speedsAreNoughtToTen();
        ticksAreNoughtToAHundred();
        tickWithNothingToTake();
        tickGoesAroundFromTheLast();
        tickBeginsAtNought();
        tickTakesOneAtEach();
        tickPassesByBlockedOnes();
        tickEndsWhenItWentAround();
        tickGoesOnBehindTheLatestStep();
        refusedStepsAreNoLatestStep();
        replicasTakeByThemselves();
        downReplicasTakeNone();
        upIsToldTwice();
        snapshotOfTheBeginning();
        snapshotIsOfThen();
        crashToTheBeginning();
        crashCountsSinceTheSnapshot();
        crashLeavesWhatIsNotState();
        crashedReplicaIsBlockedAgain();
        trimOfNothing();
        trimTakesTheLeastOfAll();
        trimIsOfEachLog();
        trimmedLogsGoOn();
        Check.end();
    }

    private static void receive(ReadSide x, int... items) {
        for (int item : items) {
            x.command(0, 0, item, 0, 1);
        }
    }

    /** "Partitions 1 .. 3 (2 for another number), replicas 1 .. 4 (2 likewise), all up." */
    private static void numbersOutsideAreTwo() {
        int[][] partitions = {{-1, 2}, {0, 2}, {1, 1}, {2, 2}, {3, 3}, {4, 2}, {Integer.MIN_VALUE, 2},
            {Integer.MAX_VALUE, 2}};
        for (int[] pair : partitions) {
            ReadSide x = new ReadSide(pair[0], 1);
            Check.same("the last of " + pair[0], x.log(pair[1] - 1, 0), 0);
            Check.noSuch("one more than " + pair[0], () -> x.log(pair[1], 0));
        }
        int[][] replicas = {{-1, 2}, {0, 2}, {1, 1}, {2, 2}, {3, 3}, {4, 4}, {5, 2}, {Integer.MIN_VALUE, 2},
            {Integer.MAX_VALUE, 2}};
        for (int[] pair : replicas) {
            ReadSide x = new ReadSide(1, pair[0]);
            for (int replica = 0; replica < pair[1]; replica++) {
                Check.same("up at first", x.up(replica, true), true);
            }
            Check.noSuch("one more than " + pair[0], () -> x.up(pair[1], true));
        }
    }

    /** "1 when it was taken; 0: there is none". */
    private static void stepOfAnEmptyLog() {
        ReadSide x = new ReadSide(2, 1);
        Check.same("of an empty log", x.step(0, 1), 0);
        receive(x, 1);
        Check.same("of the other one", x.step(0, 0), 0);
        Check.same("of one", x.step(0, 1), 1);
        Check.same("of the end", x.step(0, 1), 0);
        Look.at("one step", x, 0, 0, 1);
    }

    /** "it COVERS another one, if none of its positions is less"; "BLOCKED, if AT does not cover what it needs". */
    private static void coveringNeedsNoMoreThanEqual() {
        for (int less = 0; less < 2; less++) {
            ReadSide x = new ReadSide(3, 1);
            receive(x, 0, 0, 1, 1);
            x.mode(0, 8);
            receive(x, 2);
            Look.logged("needs", x, 2, 1, 0, 2, 0, 1, 2, 2, 0);
            Check.same("at 0, 0", x.step(0, 2), -1);
            x.step(0, less);
            x.step(0, 1 - less);
            x.step(0, 1 - less);
            Check.same("one less at " + less, x.step(0, 2), -1);
            x.step(0, less);
            Check.same("just as much", x.step(0, 2), 1);
        }
    }

    /** "-2 (before these): the replica is down". */
    private static void downComesBeforeTheOthers() {
        ReadSide x = new ReadSide(2, 2);
        x.mode(0, 8);
        x.up(1, false);
        Check.same("none, and down", x.step(1, 0), -2);
        receive(x, 0, 1);
        Check.same("one, and down", x.step(1, 0), -2);
        Check.same("blocked, and down", x.step(1, 1), -2);
        Check.same("blocked, and up", x.step(0, 1), -1);
        Look.at("down", x, 1, 0, 0);
        Check.noSuch("no partition, and down", () -> x.step(1, 2));
    }

    /** "a SPEED 0 .. 10 (0 at first)". */
    private static void speedsAreNoughtToTen() {
        ReadSide x = new ReadSide(1, 3);
        for (int i = 0; i < 25; i++) {
            receive(x, 0);
        }
        Check.same("speed at first", x.speed(1, 10), 0);
        Check.same("one tick", x.ticks(1), 10);
        Look.at("speed 0", x, 0, 0);
        Look.at("speed 10", x, 1, 10);
        Check.notAsTold("11", () -> x.speed(1, 11));
        Check.notAsTold("-1", () -> x.speed(1, -1));
        Check.same("one tick more", x.ticks(1), 10);
        Check.same("what is left", x.ticks(1), 5);
        Check.same("back to 0", x.speed(1, 0), 10);
        receive(x, 0);
        Check.same("none at speed 0", x.ticks(1), 0);
    }

    /** "So many ticks (0 .. 100)". */
    private static void ticksAreNoughtToAHundred() {
        ReadSide x = new ReadSide(1, 1);
        for (int i = 0; i < 101; i++) {
            receive(x, 0);
        }
        x.speed(0, 1);
        Check.same("ticks(0)", x.ticks(0), 0);
        Check.same("time", x.count(4), 0);
        Check.notAsTold("ticks(-1)", () -> x.ticks(-1));
        Check.notAsTold("ticks(101)", () -> x.ticks(101));
        Check.same("time", x.count(4), 0);
        Check.same("ticks(100)", x.ticks(100), 100);
        Check.same("time", x.count(4), 100);
        Check.same("ticks(1)", x.ticks(1), 1);
        Check.same("time", x.count(4), 101);
    }

    /** "time grows by 1", also if there is nothing to take, or nobody to take it. */
    private static void tickWithNothingToTake() {
        ReadSide x = new ReadSide(3, 1);
        x.speed(0, 10);
        Check.same("empty logs", x.ticks(3), 0);
        receive(x, 0);
        x.up(0, false);
        Check.same("none is up", x.ticks(1), 0);
        Check.same("time", x.count(4), 4);
        Look.at("none", x, 0, 0, 0, 0);
    }

    /** "going around the partitions: from the one behind that at which it took its latest step". */
    private static void tickGoesAroundFromTheLast() {
        for (int partitions = 1; partitions <= 3; partitions++) {
            ReadSide x = new ReadSide(partitions, 1);
            for (int item = 0; item < partitions; item++) {
                receive(x, item, item);
            }
            x.speed(0, 1);
            x.step(0, partitions - 1);
            x.ticks(1);
            int due = partitions == 1 ? 2 : 1;
            Check.same("behind the last of " + partitions + " comes 0", x.at(0, 0), due);
        }
    }

    /** "0 at first". */
    private static void tickBeginsAtNought() {
        ReadSide x = new ReadSide(3, 2);
        receive(x, 0, 1, 2);
        x.speed(1, 1);
        x.ticks(1);
        Look.at("the first tick", x, 1, 1, 0, 0);
    }

    /** "one at each": not all of one partition before the next. */
    private static void tickTakesOneAtEach() {
        ReadSide x = new ReadSide(3, 1);
        receive(x, 0, 0, 0, 1, 1, 1, 2);
        x.speed(0, 5);
        Check.same("speed 5", x.ticks(1), 5);
        Look.at("speed 5", x, 0, 2, 2, 1);
        Check.same("the rest", x.ticks(1), 2);
        Look.at("the rest", x, 0, 3, 3, 1);
    }

    /** "passing by those with none or a blocked one": what was blocked may be free when it comes by again. */
    private static void tickPassesByBlockedOnes() {
        ReadSide x = new ReadSide(3, 1);
        x.mode(0, 8);
        receive(x, 2, 0, 0);
        x.speed(0, 1);
        Check.same("0 is blocked, 1 has none", x.ticks(1), 1);
        Look.at("one step", x, 0, 0, 0, 1);
        ReadSide y = new ReadSide(3, 1);
        y.mode(0, 8);
        receive(y, 2, 0, 0);
        y.speed(0, 3);
        Check.same("0 is free the next time", y.ticks(1), 3);
        Look.at("three steps", y, 0, 2, 0, 1);
    }

    /** "until it took so many, or went around once without any". */
    private static void tickEndsWhenItWentAround() {
        ReadSide x = new ReadSide(3, 1);
        receive(x, 1);
        x.speed(0, 10);
        Check.same("just one", x.ticks(1), 1);
        Check.same("none more", x.ticks(1), 0);
        receive(x, 1, 1, 1, 1, 1, 1, 1, 1, 1, 1, 1);
        Check.same("ten of one partition, the others passed by each time", x.ticks(1), 10);
        Look.at("ten more", x, 0, 0, 11, 0);
        Check.same("the last", x.ticks(1), 1);
    }

    /** "its latest step (in a tick or by step(), whatever was lost in a crash since)". */
    private static void tickGoesOnBehindTheLatestStep() {
        ReadSide x = new ReadSide(3, 1);
        receive(x, 0, 0, 1, 1, 2, 2);
        x.speed(0, 1);
        x.step(0, 1);
        x.ticks(1);
        Look.at("behind a step at 1", x, 0, 0, 1, 1);
        x.ticks(1);
        Look.at("behind a tick's at 2", x, 0, 1, 1, 1);
        x.crash(0);
        x.ticks(1);
        Look.at("behind the lost one at 0", x, 0, 0, 1, 0);
        x.snapshot(0);
        x.up(0, false);
        x.crash(0);
        x.up(0, true);
        x.ticks(1);
        Look.at("down and up again, behind that at 1", x, 0, 0, 1, 1);
    }

    /** A step that is answered with 0, -1 or -2 was not taken. */
    private static void refusedStepsAreNoLatestStep() {
        ReadSide x = new ReadSide(3, 1);
        x.mode(0, 8);
        receive(x, 0, 1, 0);
        x.speed(0, 1);
        Check.same("blocked", x.step(0, 1), -1);
        Check.same("none", x.step(0, 2), 0);
        x.up(0, false);
        Check.same("down", x.step(0, 0), -2);
        x.up(0, true);
        x.ticks(1);
        Look.at("from 0 on", x, 0, 1, 0, 0);
    }

    /** "replicas take them at their own pace, each by itself"; "each replica that is up, from 0 on". */
    private static void replicasTakeByThemselves() {
        ReadSide x = new ReadSide(2, 4);
        receive(x, 0, 0, 0, 1, 1, 1);
        for (int replica = 0; replica < 4; replica++) {
            x.speed(replica, replica);
        }
        x.step(2, 0);
        Check.same("steps of all", x.ticks(1), 6);
        Look.at("speed 0", x, 0, 0, 0);
        Look.at("speed 1", x, 1, 1, 0);
        Look.at("speed 2, behind a step at 0", x, 2, 2, 1);
        Look.at("speed 3", x, 3, 2, 1);
        long token = Tokens.of(1, 0, 0);
        ReadSide y = new ReadSide(1, 2);
        receive(y, 0);
        y.speed(0, 1);
        y.speed(1, 1);
        y.home(0, 1);
        y.ask(0, token, -1, 5, 0, 0);
        y.ticks(1);
        Look.read("0 took it first, whatever the home", y, 0, ReadSide.DONE, 0, 1, token, 1, 0);
    }

    /** "are UP, or DOWN". */
    private static void downReplicasTakeNone() {
        ReadSide x = new ReadSide(1, 2);
        receive(x, 0, 0, 0);
        x.speed(0, 1);
        x.up(0, false);
        Check.same("down", x.ticks(2), 0);
        x.up(0, true);
        Check.same("up", x.ticks(2), 2);
        Check.same("its speed stayed", x.speed(0, 0), 1);
    }

    /** "A replica is up, or down: whether it was up." */
    private static void upIsToldTwice() {
        ReadSide x = new ReadSide(1, 4);
        Check.same("up at first, up", x.up(3, true), true);
        Check.same("up, down", x.up(3, false), true);
        Check.same("down, down", x.up(3, false), false);
        Check.same("down, up", x.up(3, true), false);
        Check.same("up, up", x.up(3, true), true);
        Check.noSuch("up(4, false)", () -> x.up(4, false));
        Check.noSuch("up(-1, false)", () -> x.up(-1, false));
    }

    /** "(at first those of the beginning)"; "how many commands it has taken then". */
    private static void snapshotOfTheBeginning() {
        ReadSide x = new ReadSide(3, 2);
        Look.kept("at first", x, 1, 0, 0, 0);
        Check.same("of none", x.snapshot(1), 0);
        receive(x, 0, 1, 1, 2);
        Check.same("none taken", x.snapshot(1), 0);
        x.speed(1, 10);
        x.ticks(1);
        Check.same("all taken", x.snapshot(1), 4);
        Check.same("again", x.snapshot(1), 4);
        Look.kept("all", x, 1, 1, 2, 1);
        Look.kept("another replica", x, 0, 0, 0, 0);
    }

    /** "keeps its state and AT as they are then": also of one that is down, and not as they are later. */
    private static void snapshotIsOfThen() {
        ReadSide x = new ReadSide(1, 1);
        receive(x, 0, 0);
        x.step(0, 0);
        x.up(0, false);
        Check.same("of one that is down", x.snapshot(0), 1);
        x.up(0, true);
        x.step(0, 0);
        Look.kept("later", x, 0, 1);
        Look.item("later", x, 0, 2);
        x.crash(0);
        Look.item("of then", x, 0, 1);
        Look.at("of then", x, 0, 1);
    }

    /** "they are again as it kept them", without any snapshot too. */
    private static void crashToTheBeginning() {
        ReadSide x = new ReadSide(2, 1);
        Check.same("at the beginning", x.crash(0), 0);
        x.command(0, 0, 0, 0, 50);
        x.command(0, 1, 0, 3, 20);
        x.command(0, 2, 0, 3, 10);
        x.command(0, 1, 0, 3, 99);
        x.command(0, 4, 1, 0, 8);
        x.speed(0, 10);
        x.ticks(1);
        Look.item("before", x, 0, 40, 10, 10, 1);
        Check.same("all five", x.crash(0), 5);
        Look.at("at the beginning", x, 0, 0, 0);
        Look.item("at the beginning", x, 0, 0, 0, 0, 1);
        Look.item("the price at the beginning", x, 1, 0, 0, 0, 1);
        Look.customer("at the beginning", x, 3, 0, 0, 0);
        Check.same("they are taken again", x.ticks(1), 5);
        Look.item("again", x, 0, 40, 10, 10, 1);
        Look.customer("again", x, 3, 10, 10, 1);
    }

    /** "how many commands it had taken since its snapshot". */
    private static void crashCountsSinceTheSnapshot() {
        ReadSide x = new ReadSide(2, 1);
        receive(x, 0, 0, 1, 1);
        x.step(0, 0);
        x.snapshot(0);
        Check.same("none since", x.crash(0), 0);
        x.step(0, 0);
        x.step(0, 1);
        Check.same("one of each log since", x.crash(0), 2);
        x.step(0, 1);
        Check.same("one since the crash", x.crash(0), 1);
        Look.at("as kept", x, 0, 1, 0);
    }

    /** "(it stays up, or down)". */
    private static void crashLeavesWhatIsNotState() {
        ReadSide x = new ReadSide(1, 2);
        receive(x, 0, 0);
        x.speed(0, 1);
        x.ticks(1);
        x.crash(0);
        Check.same("up", x.up(0, false), true);
        x.crash(0);
        Check.same("down", x.up(0, true), false);
        Check.same("speed", x.speed(0, 1), 1);
        Check.same("time", x.count(4), 1);
        Check.same("log", x.log(0, 0), 2);
        x.step(1, 0);
        x.crash(0);
        Look.at("another replica", x, 1, 1);
    }

    /** What a crash takes from AT, AT does not cover any more. */
    private static void crashedReplicaIsBlockedAgain() {
        ReadSide x = new ReadSide(2, 1);
        x.mode(0, 8);
        receive(x, 0, 1);
        x.step(0, 0);
        x.crash(0);
        Check.same("blocked again", x.step(0, 1), -1);
        x.step(0, 0);
        Check.same("free again", x.step(0, 1), 1);
    }

    /** "how many commands went": none of empty logs, none that was not kept, none twice. */
    private static void trimOfNothing() {
        ReadSide x = new ReadSide(1, 1);
        Check.same("of an empty log", x.trim(), 0);
        receive(x, 0, 0);
        Check.same("none taken", x.trim(), 0);
        x.step(0, 0);
        Check.same("taken, not kept", x.trim(), 0);
        x.snapshot(0);
        Check.same("kept", x.trim(), 1);
        Check.same("a second time", x.trim(), 0);
        Check.same("trimmed", x.log(0, 1), 1);
        Check.same("end", x.log(0, 0), 2);
    }

    /** "those commands go that all replicas' snapshots have taken": of those that are down, too. */
    private static void trimTakesTheLeastOfAll() {
        for (int last = 0; last < 3; last++) {
            ReadSide x = new ReadSide(1, 3);
            receive(x, 0, 0, 0);
            for (int replica = 0; replica < 3; replica++) {
                x.step(replica, 0);
                x.step(replica, 0);
                if (replica != last) {
                    x.step(replica, 0);
                    x.snapshot(replica);
                }
            }
            x.up(last, false);
            Check.same("none of " + last, x.trim(), 0);
            x.snapshot(last);
            Check.same("two of " + last, x.trim(), 2);
            Check.noSuch("position 2", () -> x.logged(0, 2, 0));
            Check.same("position 3", x.logged(0, 3, 0), 0);
        }
    }

    /** "of each log". */
    private static void trimIsOfEachLog() {
        ReadSide x = new ReadSide(3, 2);
        receive(x, 0, 1, 1, 2, 2, 2);
        x.speed(0, 10);
        x.ticks(1);
        x.snapshot(0);
        x.step(1, 1);
        x.step(1, 2);
        x.step(1, 2);
        x.snapshot(1);
        Check.same("0, 1 and 2", x.trim(), 3);
        Check.same("of 0", x.log(0, 1), 0);
        Check.same("of 1", x.log(1, 1), 1);
        Check.same("of 2", x.log(2, 1), 2);
    }

    /** A replica comes again at what it kept, and that is never before what was trimmed. */
    private static void trimmedLogsGoOn() {
        ReadSide x = new ReadSide(1, 2);
        receive(x, 0, 0, 0);
        x.step(0, 0);
        x.step(1, 0);
        x.step(1, 0);
        x.snapshot(0);
        x.snapshot(1);
        Check.same("trim", x.trim(), 1);
        x.crash(0);
        Look.at("kept", x, 0, 1);
        Check.same("the first that is left", x.step(0, 0), 1);
        Look.item("both", x, 0, 2);
        receive(x, 0);
        Check.same("positions go on", x.log(0, 0), 4);
        x.speed(0, 10);
        Check.same("the rest", x.ticks(1), 2);
        Check.same("a token of what was trimmed", x.told(Tokens.of(1, 0, 0), 0), 1);
        x.ask(0, Tokens.of(1, 0, 0), -1, 0, 0, 0);
        Look.read("it can be asked with", x, 0, ReadSide.DONE, 0, 4);
    }
}
