/** Promises 5 to 11 (step, speed, ticks, up, snapshot, crash, trim), 15 (at) and 16 (kept). */
public final class ReplicasTest {
    public static void main(String[] args) {
        stepTakesTheNextCommand();
        stepIsBlockedByNeeds();
        stepOfOneThatIsDown();
        wrongStepsAreRefused();
        speedTellsWhatItWas();
        ticksTakeAsManyAsTheSpeed();
        ticksGoAroundThePartitions();
        ticksGoOnBehindAStep();
        ticksPassByBlockedOnes();
        ticksGoOnBehindWhatWasLost();
        ticksLeaveDownReplicasOut();
        wrongTicksAreRefused();
        upTellsWhetherItWas();
        snapshotAndCrash();
        crashLeavesUpAndSpeed();
        trimTakesWhatAllKept();
        wrongReplicasAreRefused();
        Check.end();
    }

    private static void commands(ReadSide x, int... items) {
        for (int item : items) {
            x.command(0, 0, item, 0, 1);
        }
    }

    private static void stepTakesTheNextCommand() {
        ReadSide x = new ReadSide(2, 2);
        commands(x, 0, 0, 1);
        Check.same("step(1, 0)", x.step(1, 0), 1);
        Check.same("step(1, 0) again", x.step(1, 0), 1);
        Check.same("step(1, 0), none left", x.step(1, 0), 0);
        Look.at("two steps", x, 1, 2, 0);
        Look.at("the other replica", x, 0, 0, 0);
        Check.same("its state", x.value(1, 0, 0), 2);
        Check.same("the other one's state", x.value(0, 0, 0), 0);
        Check.same("no time goes by", x.count(4), 0);
    }

    private static void stepIsBlockedByNeeds() {
        ReadSide x = new ReadSide(3, 1);
        x.mode(0, 8);
        commands(x, 0, 1, 2);
        Check.same("partition 2 needs the others", x.step(0, 2), -1);
        Check.same("partition 1 needs 0", x.step(0, 1), -1);
        Look.at("blocked", x, 0, 0, 0, 0);
        Check.same("partition 0", x.step(0, 0), 1);
        Check.same("partition 2 still needs 1", x.step(0, 2), -1);
        Check.same("partition 1", x.step(0, 1), 1);
        Check.same("partition 2", x.step(0, 2), 1);
        Look.at("all taken", x, 0, 1, 1, 1);
    }

    private static void stepOfOneThatIsDown() {
        ReadSide x = new ReadSide(1, 1);
        x.up(0, false);
        Check.same("down, none there", x.step(0, 0), -2);
        commands(x, 0);
        Check.same("down, one there", x.step(0, 0), -2);
        Look.at("down", x, 0, 0);
        x.up(0, true);
        Check.same("up again", x.step(0, 0), 1);
    }

    private static void wrongStepsAreRefused() {
        ReadSide x = new ReadSide(2, 3);
        Check.noSuch("step(3, 0)", () -> x.step(3, 0));
        Check.noSuch("step(-1, 0)", () -> x.step(-1, 0));
        Check.noSuch("step(0, 2)", () -> x.step(0, 2));
        Check.noSuch("step(0, -1)", () -> x.step(0, -1));
        x.up(0, false);
        Check.noSuch("step(0, 2) of one that is down", () -> x.step(0, 2));
    }

    private static void speedTellsWhatItWas() {
        ReadSide x = new ReadSide(1, 2);
        Check.same("speed(1, 10)", x.speed(1, 10), 0);
        Check.same("speed(1, 3)", x.speed(1, 3), 10);
        Check.same("speed(0, 0)", x.speed(0, 0), 0);
        Check.notAsTold("speed(1, 11)", () -> x.speed(1, 11));
        Check.notAsTold("speed(1, -1)", () -> x.speed(1, -1));
        Check.noSuch("speed(2, 1)", () -> x.speed(2, 1));
        Check.noSuch("speed(-1, 1)", () -> x.speed(-1, 1));
        Check.noSuch("speed(2, 11): the first one named", () -> x.speed(2, 11));
        Check.same("speed(1, 0) behind refused ones", x.speed(1, 0), 3);
    }

    private static void ticksTakeAsManyAsTheSpeed() {
        ReadSide x = new ReadSide(2, 3);
        commands(x, 0, 0, 0, 0, 0, 1, 1, 1, 1, 1, 1, 1);
        x.speed(0, 3);
        x.speed(2, 10);
        Check.same("ticks(0)", x.ticks(0), 0);
        Check.same("time behind ticks(0)", x.count(4), 0);
        Check.same("ticks(1)", x.ticks(1), 13);
        Look.at("speed 3", x, 0, 2, 1);
        Look.at("speed 0", x, 1, 0, 0);
        Look.at("speed 10", x, 2, 5, 5);
        Check.same("ticks(100)", x.ticks(100), 11);
        Look.at("all", x, 0, 5, 7);
        Check.same("time", x.count(4), 101);
    }

    private static void ticksGoAroundThePartitions() {
        ReadSide x = new ReadSide(3, 1);
        commands(x, 0, 0, 0, 1, 1, 1, 2, 2, 2);
        x.speed(0, 1);
        x.ticks(1);
        Look.at("tick 1", x, 0, 1, 0, 0);
        x.ticks(1);
        Look.at("tick 2", x, 0, 1, 1, 0);
        x.speed(0, 2);
        x.ticks(1);
        Look.at("tick 3", x, 0, 2, 1, 1);
        x.ticks(1);
        Look.at("tick 4", x, 0, 2, 2, 2);
    }

    private static void ticksGoOnBehindAStep() {
        ReadSide x = new ReadSide(3, 1);
        commands(x, 0, 0, 1, 1, 2, 2);
        x.speed(0, 1);
        x.step(0, 1);
        x.ticks(1);
        Look.at("behind the step at 1", x, 0, 0, 1, 1);
        x.step(0, 2);
        Check.same("a step that was not taken", x.step(0, 2), 0);
        x.ticks(1);
        Look.at("behind the step at 2", x, 0, 1, 1, 2);
        Check.same("no such step moves it", x.step(0, 2), 0);
        x.ticks(1);
        Look.at("behind the tick's step at 0", x, 0, 1, 2, 2);
    }

    private static void ticksPassByBlockedOnes() {
        ReadSide x = new ReadSide(3, 1);
        x.mode(0, 8);
        commands(x, 2, 1, 0);
        x.speed(0, 10);
        Check.same("each one frees the next within the tick", x.ticks(1), 3);
        Look.at("all", x, 0, 1, 1, 1);
        ReadSide y = new ReadSide(3, 1);
        y.mode(0, 8);
        commands(y, 2, 1, 0);
        y.speed(0, 1);
        y.ticks(1);
        Look.at("0 and 1 are passed by", y, 0, 0, 0, 1);
        y.ticks(1);
        Look.at("0 is passed by", y, 0, 0, 1, 1);
        Check.same("2 is passed by", y.ticks(1), 1);
        Check.same("none is left", y.ticks(5), 0);
    }

    private static void ticksGoOnBehindWhatWasLost() {
        ReadSide x = new ReadSide(3, 1);
        commands(x, 0, 0, 1, 1, 2, 2);
        x.step(0, 0);
        Check.same("crash(0)", x.crash(0), 1);
        x.speed(0, 1);
        x.ticks(1);
        Look.at("behind the lost step at 0", x, 0, 0, 1, 0);
        x.crash(0);
        x.ticks(1);
        Look.at("behind the lost step at 1", x, 0, 0, 0, 1);
    }

    private static void ticksLeaveDownReplicasOut() {
        ReadSide x = new ReadSide(1, 2);
        commands(x, 0, 0);
        x.speed(0, 1);
        x.speed(1, 1);
        x.up(0, false);
        Check.same("one is down", x.ticks(1), 1);
        Look.at("down", x, 0, 0);
        Look.at("up", x, 1, 1);
    }

    private static void wrongTicksAreRefused() {
        ReadSide x = new ReadSide(1, 1);
        commands(x, 0);
        x.speed(0, 1);
        Check.notAsTold("ticks(101)", () -> x.ticks(101));
        Check.notAsTold("ticks(-1)", () -> x.ticks(-1));
        Check.notAsTold("ticks(min)", () -> x.ticks(Integer.MIN_VALUE));
        Check.same("time behind refused ones", x.count(4), 0);
        Look.at("refused ticks", x, 0, 0);
    }

    private static void upTellsWhetherItWas() {
        ReadSide x = new ReadSide(1, 2);
        Check.same("up(0, false)", x.up(0, false), true);
        Check.same("up(0, false) again", x.up(0, false), false);
        Check.same("up(1, true), another one", x.up(1, true), true);
        Check.same("up(0, true)", x.up(0, true), false);
        Check.same("up(0, true) again", x.up(0, true), true);
        Check.noSuch("up(2, true)", () -> x.up(2, true));
        Check.noSuch("up(-1, false)", () -> x.up(-1, false));
    }

    private static void snapshotAndCrash() {
        ReadSide x = new ReadSide(2, 2);
        commands(x, 0, 0, 0, 1, 1);
        Check.same("crash at the beginning", x.crash(0), 0);
        x.step(0, 0);
        x.step(0, 0);
        x.step(0, 1);
        Check.same("snapshot(0)", x.snapshot(0), 3);
        Check.same("kept(0, 0)", x.kept(0, 0), 2);
        Check.same("kept(0, 1)", x.kept(0, 1), 1);
        Check.same("kept(1, 0)", x.kept(1, 0), 0);
        x.step(0, 0);
        x.step(0, 1);
        Check.same("kept stays", x.kept(0, 0), 2);
        Check.same("crash(0)", x.crash(0), 2);
        Look.at("crashed", x, 0, 2, 1);
        Check.same("stock of 0 as kept", x.value(0, 0, 0), 2);
        Check.same("stock of 1 as kept", x.value(0, 0, 1), 1);
        Check.same("crash(0) again", x.crash(0), 0);
        Check.same("the step is taken again", x.step(0, 0), 1);
        Check.same("stock of 0 with it", x.value(0, 0, 0), 3);
        Check.same("crash(0) of one step", x.crash(0), 1);
        x.step(1, 0);
        Check.same("crash(1) without a snapshot", x.crash(1), 1);
        Look.at("as at first", x, 1, 0, 0);
        Check.same("stock as at first", x.value(1, 0, 0), 0);
    }

    private static void crashLeavesUpAndSpeed() {
        ReadSide x = new ReadSide(1, 2);
        x.speed(0, 4);
        x.crash(0);
        Check.same("speed behind a crash", x.speed(0, 4), 4);
        Check.same("up behind a crash", x.up(0, false), true);
        commands(x, 0);
        Check.same("snapshot of one that is down", x.snapshot(0), 0);
        Check.same("crash of one that is down", x.crash(0), 0);
        Check.same("down behind a crash", x.up(0, false), false);
    }

    private static void trimTakesWhatAllKept() {
        ReadSide x = new ReadSide(2, 2);
        commands(x, 0, 0, 0, 1, 1);
        x.speed(0, 10);
        x.ticks(1);
        x.snapshot(0);
        Check.same("trim(): replica 1 kept none", x.trim(), 0);
        x.step(1, 0);
        x.step(1, 0);
        x.step(1, 1);
        Check.same("trim(): taken, not kept", x.trim(), 0);
        x.snapshot(1);
        x.up(1, false);
        Check.same("trim()", x.trim(), 3);
        Check.same("trim() again", x.trim(), 0);
        Check.same("log(0, 1)", x.log(0, 1), 2);
        Check.same("log(1, 1)", x.log(1, 1), 1);
        x.up(1, true);
        Check.same("a replica goes on behind what went", x.step(1, 0), 1);
        x.crash(1);
        Look.at("as kept", x, 1, 2, 1);
        x.speed(1, 10);
        Check.same("and takes the rest", x.ticks(1), 2);
        x.snapshot(1);
        Check.same("trim() of the rest", x.trim(), 2);
        Check.same("log(0, 1) in all", x.log(0, 1), 3);
    }

    private static void wrongReplicasAreRefused() {
        ReadSide x = new ReadSide(2, 3);
        Check.noSuch("snapshot(3)", () -> x.snapshot(3));
        Check.noSuch("snapshot(-1)", () -> x.snapshot(-1));
        Check.noSuch("crash(3)", () -> x.crash(3));
        Check.noSuch("crash(-1)", () -> x.crash(-1));
        Check.noSuch("at(3, 0)", () -> x.at(3, 0));
        Check.noSuch("at(-1, 0)", () -> x.at(-1, 0));
        Check.noSuch("at(0, 2)", () -> x.at(0, 2));
        Check.noSuch("at(0, -1)", () -> x.at(0, -1));
        Check.noSuch("kept(3, 0)", () -> x.kept(3, 0));
        Check.noSuch("kept(-1, 0)", () -> x.kept(-1, 0));
        Check.noSuch("kept(0, 2)", () -> x.kept(0, 2));
        Check.noSuch("kept(0, -1)", () -> x.kept(0, -1));
    }
}
