/** Promises 2 (mode), 3 (home) and 19 (session). */
public final class SessionsTest {
    public static void main(String[] args) {
        modeTellsWhatItWas();
        wrongModesAreRefused();
        modeChangeLetsReadsBeAnswered();
        modeChangeAsksReplicasFromZeroOn();
        modeChangeKeepsDownReplicasOut();
        homeTellsWhatItWas();
        readsBeginAtHome();
        wroteIsOfCommands();
        sawIsOfAnswers();
        sawNeverGoesBack();
        wrongSessionsAreRefused();
        Check.end();
    }

    private static void modeTellsWhatItWas() {
        ReadSide x = new ReadSide(2, 2);
        for (int mode = 1; mode <= 15; mode++) {
            Check.same("mode(3, " + mode + ")", x.mode(3, mode), mode - 1);
        }
        Check.same("mode(3, 0)", x.mode(3, 0), 15);
        Check.same("mode(4, 0), another session", x.mode(4, 0), 0);
        Check.same("mode(0, 1)", x.mode(0, 1), 0);
        Check.same("mode(7, 2)", x.mode(7, 2), 0);
        Check.same("mode(0, 1) again", x.mode(0, 1), 1);
    }

    private static void wrongModesAreRefused() {
        ReadSide x = new ReadSide(2, 2);
        x.mode(0, 5);
        Check.notAsTold("mode(0, 16)", () -> x.mode(0, 16));
        Check.notAsTold("mode(0, -1)", () -> x.mode(0, -1));
        Check.noSuch("mode(8, 0)", () -> x.mode(8, 0));
        Check.noSuch("mode(-1, 0)", () -> x.mode(-1, 0));
        Check.noSuch("mode(8, 16): the first one named", () -> x.mode(8, 16));
        Check.noSuch("mode(min, min)", () -> x.mode(Integer.MIN_VALUE, Integer.MIN_VALUE));
        Check.same("mode(0, 0) behind refused ones", x.mode(0, 0), 5);
    }

    private static void modeChangeLetsReadsBeAnswered() {
        ReadSide x = new ReadSide(1, 1);
        x.mode(0, 1);
        x.command(0, 0, 0, 0, 5);
        Check.same("ask that waits for its own write", x.ask(0, 0, -1, 9, 0, 0), 0);
        Check.same("it waits", x.read(0, 0), ReadSide.WAITS);
        x.mode(1, 3);
        Check.same("another session's mode changes nothing", x.read(0, 0), ReadSide.WAITS);
        x.mode(0, 1);
        Check.same("the same mode changes nothing", x.read(0, 0), ReadSide.WAITS);
        x.mode(0, 2);
        Check.same("without 1 it is answered", x.read(0, 0), ReadSide.DONE);
        Check.same("by replica 0", x.read(0, 1), 0);
    }

    private static void modeChangeAsksReplicasFromZeroOn() {
        ReadSide x = new ReadSide(1, 3);
        x.home(0, 2);
        x.mode(0, 1);
        x.command(0, 0, 0, 0, 5);
        x.ask(0, 0, -1, 9, 0, 0);
        x.mode(0, 0);
        Check.same("replica 0 answers, not the home", x.read(0, 1), 0);
    }

    private static void modeChangeKeepsDownReplicasOut() {
        ReadSide x = new ReadSide(1, 2);
        x.mode(0, 1);
        x.command(0, 0, 0, 0, 5);
        x.ask(0, 0, -1, 9, 0, 0);
        x.up(0, false);
        x.mode(0, 0);
        Check.same("replica 1 answers, 0 is down", x.read(0, 1), 1);
    }

    private static void homeTellsWhatItWas() {
        ReadSide x = new ReadSide(1, 4);
        Check.same("home(7, 3)", x.home(7, 3), 0);
        Check.same("home(7, 1)", x.home(7, 1), 3);
        Check.noSuch("home(7, 4)", () -> x.home(7, 4));
        Check.noSuch("home(7, -1)", () -> x.home(7, -1));
        Check.noSuch("home(8, 0)", () -> x.home(8, 0));
        Check.noSuch("home(-1, 0)", () -> x.home(-1, 0));
        Check.same("home(7, 0) behind refused ones", x.home(7, 0), 1);
        Check.same("home(0, 0)", x.home(0, 0), 0);
    }

    private static void readsBeginAtHome() {
        ReadSide x = new ReadSide(1, 4);
        x.home(2, 3);
        x.ask(2, 0, -1, 0, 0, 0);
        Check.same("home answers", x.read(0, 1), 3);
        x.up(3, false);
        x.ask(2, 0, -1, 0, 0, 0);
        Check.same("then 0, going around", x.read(1, 1), 0);
        x.up(0, false);
        x.ask(2, 0, -1, 0, 0, 0);
        Check.same("then 1", x.read(2, 1), 1);
        x.ask(0, 0, -1, 0, 0, 0);
        Check.same("another session from 0 on", x.read(3, 1), 1);
    }

    private static void wroteIsOfCommands() {
        ReadSide x = new ReadSide(3, 1);
        x.command(5, 0, 4, 0, 1);
        x.command(4, 0, 4, 0, 1);
        x.command(5, 0, 2, 0, 1);
        Check.same("WROTE of 5 at 0", x.session(5, 0, 0), 0);
        Check.same("WROTE of 5 at 1", x.session(5, 0, 1), 1);
        Check.same("WROTE of 5 at 2", x.session(5, 0, 2), 1);
        Check.same("WROTE of 4 at 1", x.session(4, 0, 1), 2);
        Check.same("SAW of 5 at 1", x.session(5, 1, 1), 0);
    }

    private static void sawIsOfAnswers() {
        ReadSide x = new ReadSide(2, 1);
        x.command(0, 0, 0, 0, 1);
        x.command(0, 0, 1, 0, 1);
        x.step(0, 1);
        x.value(0, 0, 1);
        Check.same("value changes no SAW", x.session(0, 1, 1), 0);
        x.ask(0, 0, -1, 0, 0, 0);
        Check.same("SAW at 0", x.session(0, 1, 0), 0);
        Check.same("SAW at 1, in mode 0 too", x.session(0, 1, 1), 1);
        Check.same("SAW of another session", x.session(1, 1, 1), 0);
    }

    private static void sawNeverGoesBack() {
        ReadSide x = new ReadSide(2, 2);
        x.command(0, 0, 0, 0, 1);
        x.command(0, 0, 1, 0, 1);
        x.step(0, 0);
        x.step(1, 1);
        x.ask(0, 0, -1, 0, 0, 0);
        x.home(0, 1);
        x.ask(0, 0, -1, 0, 0, 0);
        Check.same("SAW at 0 is of the first answer", x.session(0, 1, 0), 1);
        Check.same("SAW at 1 is of the second", x.session(0, 1, 1), 1);
    }

    private static void wrongSessionsAreRefused() {
        ReadSide x = new ReadSide(2, 2);
        Check.noSuch("session(8, 0, 0)", () -> x.session(8, 0, 0));
        Check.noSuch("session(-1, 0, 0)", () -> x.session(-1, 0, 0));
        Check.noSuch("session(0, 2, 0)", () -> x.session(0, 2, 0));
        Check.noSuch("session(0, -1, 0)", () -> x.session(0, -1, 0));
        Check.noSuch("session(0, 0, 2)", () -> x.session(0, 0, 2));
        Check.noSuch("session(0, 1, -1)", () -> x.session(0, 1, -1));
    }
}
