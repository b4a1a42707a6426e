/** Promises 12 (ask), 13 (read) and 21 (count), and when reads that wait are answered or fail. */
public final class ReadsTest {
    public static void main(String[] args) {
        answeredAtOnce();
        failedAtOnce();
        tokensAreWaitedFor();
        staleBounds();
        modesAreWaitedFor();
        wroteAndSawAreThoseOfThen();
        patienceEnds();
        answeredInTheTickOfItsEnd();
        comingUpAnswers();
        readsAreAnsweredInTheirOrder();
        earlierAnswersCount();
        questionsOfAllKinds();
        wrongAsksAreRefused();
        fortyWait();
        fiveHundredReads();
        wrongReadsAreRefused();
        Check.end();
    }

    private static void answeredAtOnce() {
        ReadSide x = new ReadSide(3, 2);
        x.command(0, 0, 0, 0, 5);
        x.command(0, 0, 2, 0, 6);
        x.step(0, 0);
        x.step(0, 2);
        x.ticks(4);
        Check.same("ask", x.ask(6, 0, -1, 0, 0, 2), 0);
        Look.read("at once", x, 0, ReadSide.DONE, 0, 6, Tokens.of(1, 0, 1), 4, 6);
        Look.counts("at once", x, 1, 0, 1, 0, 4);
    }

    private static void failedAtOnce() {
        ReadSide x = new ReadSide(1, 2);
        x.ticks(7);
        x.up(0, false);
        x.up(1, false);
        Check.same("ask", x.ask(1, 0, -1, 0, 0, 0), 0);
        Look.read("none is up", x, 0, ReadSide.FAILED, -1, 0, 0, 7, 1);
        Look.counts("none is up", x, 1, 0, 0, 1, 7);
    }

    private static void tokensAreWaitedFor() {
        ReadSide x = new ReadSide(2, 2);
        x.command(0, 0, 0, 0, 5);
        x.command(0, 0, 1, 0, 6);
        long token = Tokens.of(1, 1, 0);
        Check.same("ask", x.ask(3, token, -1, 1, 0, 0), 0);
        Look.read("none has it", x, 0, ReadSide.WAITS, -1, 0, 0, -1, 3);
        Look.counts("none has it", x, 1, 1, 0, 0, 0);
        x.step(0, 0);
        x.step(1, 1);
        Check.same("each has a part", x.read(0, 0), ReadSide.WAITS);
        x.step(1, 0);
        Look.read("replica 1 has all", x, 0, ReadSide.DONE, 1, 5, token, 0, 3);
        Look.counts("replica 1 has all", x, 1, 0, 1, 0, 0);
        x.step(0, 1);
        Look.read("an answer stays", x, 0, ReadSide.DONE, 1, 5, token, 0, 3);
    }

    private static void staleBounds() {
        ReadSide x = new ReadSide(2, 1);
        for (int i = 0; i < 3; i++) {
            x.command(0, 0, 1, 0, 5);
        }
        x.ask(0, 0, 3, 0, 0, 0);
        Check.same("3 behind, bound 3", x.read(0, 0), ReadSide.DONE);
        x.ask(0, 0, 2, 0, 0, 0);
        Check.same("3 behind, bound 2", x.read(1, 0), ReadSide.FAILED);
        x.ask(0, 0, -1, 0, 0, 0);
        Check.same("no bound", x.read(2, 0), ReadSide.DONE);
        x.ask(0, 0, 400, 0, 0, 0);
        Check.same("bound 400", x.read(3, 0), ReadSide.DONE);
        x.ask(0, 0, 0, 9, 0, 1);
        x.step(0, 1);
        x.step(0, 1);
        x.command(0, 0, 0, 0, 5);
        x.step(0, 1);
        Check.same("behind the log's end of then", x.read(4, 0), ReadSide.WAITS);
        x.step(0, 0);
        Look.read("bound 0", x, 4, ReadSide.DONE, 0, 15, Tokens.of(1, 3, 0), 0, 0);
    }

    private static void modesAreWaitedFor() {
        for (int mode = 0; mode <= 15; mode++) {
            ReadSide x = new ReadSide(2, 2);
            x.mode(0, mode);
            x.command(0, 0, 0, 0, 1);
            x.ask(0, 0, -1, 0, 0, 0);
            int wrote = (mode & 1) != 0 ? ReadSide.FAILED : ReadSide.DONE;
            Check.same("its write in mode " + mode, x.read(0, 0), wrote);
            x.command(1, 0, 1, 0, 1);
            x.step(1, 0);
            x.step(1, 1);
            x.home(0, 1);
            x.ask(0, 0, -1, 0, 0, 0);
            Check.same("answered by 1 in mode " + mode, x.read(1, 1), 1);
            x.home(0, 0);
            x.step(0, 0);
            x.up(1, false);
            x.ask(0, 0, -1, 0, 0, 0);
            int saw = (mode & 2) != 0 ? ReadSide.FAILED : ReadSide.DONE;
            Check.same("what it saw in mode " + mode, x.read(2, 0), saw);
        }
    }

    private static void wroteAndSawAreThoseOfThen() {
        ReadSide x = new ReadSide(1, 2);
        x.mode(0, 1);
        x.command(0, 0, 0, 0, 1);
        x.ask(0, 0, -1, 9, 0, 0);
        x.command(0, 0, 0, 0, 1);
        x.step(0, 0);
        Check.same("the later write counts, too", x.read(0, 0), ReadSide.WAITS);
        x.step(0, 0);
        Look.read("both", x, 0, ReadSide.DONE, 0, 2, Tokens.of(2, 0, 0));
    }

    private static void patienceEnds() {
        ReadSide x = new ReadSide(1, 1);
        x.ticks(10);
        x.up(0, false);
        x.ask(0, 0, -1, 2, 0, 0);
        x.ask(0, 0, -1, 1, 0, 0);
        x.ask(0, 0, -1, 1000, 0, 0);
        x.ticks(1);
        Look.read("1 tick, patience 2", x, 0, ReadSide.WAITS, -1, 0, 0, -1, 0);
        Look.read("1 tick, patience 1", x, 1, ReadSide.FAILED, -1, 0, 0, 11, 0);
        Look.counts("1 tick", x, 3, 2, 0, 1, 11);
        x.ticks(3);
        Look.read("patience 2", x, 0, ReadSide.FAILED, -1, 0, 0, 12, 0);
        for (int i = 0; i < 9; i++) {
            x.ticks(100);
        }
        x.ticks(95);
        Look.read("999 ticks", x, 2, ReadSide.WAITS, -1, 0, 0, -1, 0);
        x.ticks(1);
        Look.read("1000 ticks", x, 2, ReadSide.FAILED, -1, 0, 0, 1010, 0);
        x.up(0, true);
        Look.counts("all failed for good", x, 3, 0, 0, 3, 1010);
    }

    private static void answeredInTheTickOfItsEnd() {
        ReadSide x = new ReadSide(1, 1);
        long token = x.command(0, 0, 0, 0, 4);
        x.ask(0, token, -1, 1, 0, 0);
        x.speed(0, 1);
        x.ticks(1);
        Look.read("steps go before the end", x, 0, ReadSide.DONE, 0, 4, token, 1, 0);
    }

    private static void comingUpAnswers() {
        ReadSide x = new ReadSide(1, 3);
        for (int replica = 0; replica < 3; replica++) {
            x.up(replica, false);
        }
        x.ask(0, 0, -1, 9, 0, 0);
        x.crash(1);
        x.snapshot(1);
        x.trim();
        x.home(0, 1);
        Check.same("none is up", x.read(0, 0), ReadSide.WAITS);
        x.ticks(3);
        x.up(2, true);
        Look.read("2 came up", x, 0, ReadSide.DONE, 2, 0, 0, 3, 0);
    }

    private static void readsAreAnsweredInTheirOrder() {
        ReadSide x = new ReadSide(1, 1);
        x.command(0, 0, 0, 0, 4);
        x.command(0, 0, 0, 0, 4);
        x.ask(0, Tokens.of(2, 0, 0), -1, 9, 0, 0);
        x.ask(1, Tokens.of(1, 0, 0), -1, 9, 0, 0);
        x.ask(2, Tokens.of(2, 0, 0), -1, 9, 0, 0);
        x.step(0, 0);
        Check.same("first one waits", x.read(0, 0), ReadSide.WAITS);
        Check.same("second one is answered", x.read(1, 0), ReadSide.DONE);
        Check.same("third one waits", x.read(2, 0), ReadSide.WAITS);
        Look.counts("one of three", x, 3, 2, 1, 0, 0);
        x.step(0, 0);
        Look.read("the first", x, 0, ReadSide.DONE, 0, 8);
        Look.read("the second keeps its answer", x, 1, ReadSide.DONE, 0, 4, Tokens.of(1, 0, 0));
        Look.read("the third", x, 2, ReadSide.DONE, 0, 8);
    }

    private static void earlierAnswersCount() {
        ReadSide x = new ReadSide(2, 2);
        x.mode(0, 3);
        x.command(1, 0, 0, 0, 1);
        x.command(0, 0, 1, 0, 1);
        x.command(0, 0, 1, 0, 1);
        x.step(0, 0);
        x.step(1, 1);
        x.ask(0, Tokens.of(1, 0, 0), -1, 9, 0, 0);
        x.ask(0, Tokens.of(0, 1, 0), -1, 9, 0, 1);
        Look.counts("neither replica has what it wrote", x, 2, 2, 0, 0, 0);
        x.mode(0, 2);
        Look.read("0 answers the first one", x, 0, ReadSide.DONE, 0, 1, Tokens.of(1, 0, 0), 0, 0);
        Check.same("1 lacks what the first one saw", x.read(1, 0), ReadSide.WAITS);
        x.step(1, 0);
        Look.read("1 has both", x, 1, ReadSide.DONE, 1, 1, Tokens.of(1, 1, 0), 0, 0);
        Check.same("SAW at 0", x.session(0, 1, 0), 1);
        Check.same("SAW at 1", x.session(0, 1, 1), 1);
    }

    private static void questionsOfAllKinds() {
        ReadSide x = new ReadSide(2, 1);
        x.command(0, 0, 5, 0, 50);
        x.command(0, 1, 5, 3, 20);
        x.command(0, 4, 5, 0, 7);
        x.command(0, 2, 5, 3, 8);
        x.command(0, 1, 5, 3, 100);
        x.speed(0, 5);
        x.ticks(1);
        int[] a = {5, 5, 5, 5, 3, 3, 3, 0, 1};
        for (int kind = 0; kind <= 8; kind++) {
            x.ask(0, 0, -1, 0, kind, a[kind]);
            Check.same("answer of kind " + kind, x.read(kind, 2), x.value(0, kind, a[kind]));
        }
        long[] due = {42, 12, 8, 7, 56, 12, 1, 5, 294};
        for (int kind = 0; kind <= 8; kind++) {
            Check.same("answer of kind " + kind, x.read(kind, 2), due[kind]);
        }
        x.ask(0, 0, -1, 0, 8, -1);
        Check.same("worth of all", x.read(9, 2), 294);
    }

    private static void wrongAsksAreRefused() {
        ReadSide x = new ReadSide(2, 2);
        Check.noSuch("session 8", () -> x.ask(8, 0, -1, 0, 0, 0));
        Check.noSuch("session -1", () -> x.ask(-1, 0, -1, 0, 0, 0));
        Check.noSuch("kind 9", () -> x.ask(0, 0, -1, 0, 9, 0));
        Check.noSuch("kind -1", () -> x.ask(0, 0, -1, 0, -1, 0));
        Check.noSuch("item 30", () -> x.ask(0, 0, -1, 0, 3, 30));
        Check.noSuch("customer 10", () -> x.ask(0, 0, -1, 0, 4, 10));
        Check.noSuch("rank 30", () -> x.ask(0, 0, -1, 0, 7, 30));
        Check.noSuch("rank -1", () -> x.ask(0, 0, -1, 0, 7, -1));
        Check.noSuch("partition 2", () -> x.ask(0, 0, -1, 0, 8, 2));
        Check.noSuch("partition -2", () -> x.ask(0, 0, -1, 0, 8, -2));
        Check.notAsTold("token 1", () -> x.ask(0, 1, -1, 0, 0, 0));
        Check.notAsTold("token -1", () -> x.ask(0, -1, -1, 0, 0, 0));
        Check.notAsTold("token beyond the log", () -> x.ask(0, Tokens.of(1, 0, 0), -1, 9, 0, 0));
        Check.notAsTold("stale -2", () -> x.ask(0, 0, -2, 0, 0, 0));
        Check.notAsTold("stale 401", () -> x.ask(0, 0, 401, 0, 0, 0));
        Check.notAsTold("patience -1", () -> x.ask(0, 0, -1, -1, 0, 0));
        Check.notAsTold("patience 1001", () -> x.ask(0, 0, -1, 1001, 0, 0));
        Check.noSuch("question and token: the first one named", () -> x.ask(0, 1, -2, -1, 9, 0));
        Look.counts("behind refused ones", x, 0, 0, 0, 0, 0);
        Check.same("the first number is still 0", x.ask(0, 0, 400, 1000, 0, 0), 0);
    }

    private static void fortyWait() {
        ReadSide x = new ReadSide(1, 2);
        long token = x.command(0, 0, 0, 0, 3);
        for (int read = 0; read < 40; read++) {
            Check.same("ask " + read, x.ask(read % 8, token, -1, 5, 0, 0), read);
        }
        Look.counts("40 wait", x, 40, 40, 0, 0, 0);
        Check.notNow("one that would wait", () -> x.ask(0, token, -1, 5, 0, 0));
        Check.noSuch("of no session: the first one named", () -> x.ask(8, token, -1, 5, 0, 0));
        Check.notAsTold("of no token: the first one named", () -> x.ask(0, 5, -1, 5, 0, 0));
        Look.counts("the refused one is none", x, 40, 40, 0, 0, 0);
        Check.same("one that is answered at once", x.ask(0, 0, -1, 5, 0, 0), 40);
        Check.same("one that fails at once", x.ask(0, token, -1, 0, 0, 0), 41);
        Look.counts("both are taken", x, 42, 40, 1, 1, 0);
        x.step(1, 0);
        Look.counts("all are answered", x, 42, 0, 41, 1, 0);
        Look.read("the last that waited", x, 39, ReadSide.DONE, 1, 3, token, 0, 7);
        x.up(1, false);
        Check.same("another one waits", x.ask(0, token, -1, 5, 0, 0), 42);
        Look.counts("one waits", x, 43, 1, 41, 1, 0);
    }

    private static void fiveHundredReads() {
        ReadSide x = new ReadSide(1, 1);
        for (int read = 0; read < 500; read++) {
            Check.same("ask " + read, x.ask(0, 0, -1, 0, 0, 0), read);
        }
        Check.notNow("ask 500", () -> x.ask(0, 0, -1, 0, 0, 0));
        Check.noSuch("of no session: the first one named", () -> x.ask(8, 0, -1, 0, 0, 0));
        Check.notAsTold("with no stale: the first one named", () -> x.ask(0, 0, -2, 0, 0, 0));
        Look.counts("500", x, 500, 0, 500, 0, 0);
        Check.same("read(499, 0)", x.read(499, 0), ReadSide.DONE);
        Check.noSuch("read(500, 0)", () -> x.read(500, 0));
    }

    private static void wrongReadsAreRefused() {
        ReadSide x = new ReadSide(1, 1);
        Check.noSuch("read(0, 0) of none", () -> x.read(0, 0));
        x.ask(0, 0, -1, 0, 0, 0);
        Check.noSuch("read(1, 0)", () -> x.read(1, 0));
        Check.noSuch("read(-1, 0)", () -> x.read(-1, 0));
        Check.noSuch("read(0, 6)", () -> x.read(0, 6));
        Check.noSuch("read(0, -1)", () -> x.read(0, -1));
        Check.noSuch("count(5)", () -> x.count(5));
        Check.noSuch("count(-1)", () -> x.count(-1));
    }
}
