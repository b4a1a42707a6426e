/** Promises 4 (command), 17 (log), 18 (logged) and 20 (told). */
public final class CommandsTest {
    public static void main(String[] args) {
        commandsGoToTheirLogs();
        needsFollowTheMode();
        needsAreTheGreatest();
        wrongCommandsAreRefused();
        logHoldsFourHundred();
        loggedTellsEachPart();
        trimmedCommandsAreGone();
        toldTellsPositions();
        numbersThatAreNoTokens();
        Check.end();
    }

    private static void commandsGoToTheirLogs() {
        ReadSide x = new ReadSide(3, 1);
        Check.same("command of item 0", x.command(0, 0, 0, 0, 1), Tokens.of(1, 0, 0));
        Check.same("command of item 28", x.command(0, 1, 28, 9, 1000), Tokens.of(0, 1, 0));
        Check.same("command of item 29", x.command(7, 4, 29, 9, 1), Tokens.of(0, 0, 1));
        Check.same("command of item 3", x.command(0, 0, 3, 0, 1), Tokens.of(2, 0, 0));
        Check.same("log(0, 0)", x.log(0, 0), 2);
        Check.same("log(1, 0)", x.log(1, 0), 1);
        Check.same("log(2, 0)", x.log(2, 0), 1);
        Check.same("log(0, 1)", x.log(0, 1), 0);
        Check.noSuch("log(3, 0)", () -> x.log(3, 0));
        Check.noSuch("log(-1, 0)", () -> x.log(-1, 0));
        Check.noSuch("log(0, 2)", () -> x.log(0, 2));
        Check.noSuch("log(0, -1)", () -> x.log(0, -1));
    }

    /** Session s has mode s, wrote position 2 at partition 0 and saw position 1 at partition 1. */
    private static void needsFollowTheMode() {
        for (int mode = 0; mode <= 15; mode++) {
            ReadSide x = new ReadSide(3, 1);
            x.command(1, 0, 1, 0, 1);
            x.command(1, 0, 0, 0, 1);
            x.step(0, 1);
            x.ask(0, 0, -1, 0, 0, 0);
            x.command(0, 0, 0, 0, 1);
            x.mode(0, mode);
            int wrote = (mode & 8) != 0 ? 2 : 0;
            int saw = (mode & 4) != 0 ? 1 : 0;
            Check.same("token in mode " + mode, x.command(0, 0, 2, 0, 1), Tokens.of(wrote, saw, 1));
            Check.same("needs at 0 in mode " + mode, x.logged(2, 1, 4), wrote);
            Check.same("needs at 1 in mode " + mode, x.logged(2, 1, 5), saw);
            Check.same("needs at 2 in mode " + mode, x.logged(2, 1, 6), 0);
        }
    }

    private static void needsAreTheGreatest() {
        ReadSide x = new ReadSide(2, 1);
        x.mode(0, 12);
        x.command(0, 0, 0, 0, 1);
        x.command(1, 0, 0, 0, 1);
        x.step(0, 0);
        x.step(0, 0);
        x.ask(0, 0, -1, 0, 0, 0);
        x.command(0, 0, 1, 0, 1);
        Check.same("SAW is greater", x.logged(1, 1, 4), 2);
        x.command(0, 0, 0, 0, 1);
        x.command(0, 0, 1, 0, 1);
        Check.same("WROTE is greater", x.logged(1, 2, 4), 3);
        Check.same("own partition: what it wrote before", x.logged(1, 2, 5), 1);
        Check.same("token has its own position", x.command(0, 0, 1, 0, 1), Tokens.of(3, 3, 0));
    }

    private static void wrongCommandsAreRefused() {
        ReadSide x = new ReadSide(2, 2);
        Check.noSuch("session 8", () -> x.command(8, 0, 0, 0, 1));
        Check.noSuch("session -1", () -> x.command(-1, 0, 0, 0, 1));
        Check.noSuch("item 30", () -> x.command(0, 0, 30, 0, 1));
        Check.noSuch("item -1", () -> x.command(0, 0, -1, 0, 1));
        Check.noSuch("customer 10", () -> x.command(0, 0, 0, 10, 1));
        Check.noSuch("customer -1", () -> x.command(0, 0, 0, -1, 1));
        Check.notAsTold("kind 5", () -> x.command(0, 5, 0, 0, 1));
        Check.notAsTold("kind -1", () -> x.command(0, -1, 0, 0, 1));
        Check.notAsTold("amount 0", () -> x.command(0, 0, 0, 0, 0));
        Check.notAsTold("amount 1001", () -> x.command(0, 0, 0, 0, 1001));
        Check.notAsTold("amount min", () -> x.command(0, 0, 0, 0, Integer.MIN_VALUE));
        Check.noSuch("kind and customer: the first one named", () -> x.command(0, 5, 0, 10, 0));
        Check.noSuch("kind and item: the first one named", () -> x.command(0, 5, 30, 0, 1));
        Check.same("log behind refused ones", x.log(0, 0) + x.log(1, 0), 0);
        Check.same("WROTE behind refused ones", x.session(0, 0, 0) + x.session(0, 0, 1), 0);
    }

    private static void logHoldsFourHundred() {
        ReadSide x = new ReadSide(2, 1);
        for (int position = 1; position <= 400; position++) {
            Check.same("command " + position, x.command(0, 0, 1, 0, 1), Tokens.of(0, position, 0));
        }
        Check.notNow("command 401", () -> x.command(1, 0, 3, 0, 1));
        Check.noSuch("of no session: the first one named", () -> x.command(8, 0, 1, 0, 1));
        Check.notAsTold("of no kind: the first one named", () -> x.command(0, 9, 1, 0, 1));
        Check.same("its end", x.log(1, 0), 400);
        Check.same("WROTE of the refused one", x.session(1, 0, 1), 0);
        Check.same("the other log takes more", x.command(0, 0, 0, 0, 1), Tokens.of(1, 0, 0));
        x.speed(0, 10);
        Check.same("401 steps", x.ticks(41), 401);
        x.snapshot(0);
        Check.same("all go", x.trim(), 401);
        Check.notNow("a trimmed log has had 400, too", () -> x.command(0, 0, 1, 0, 1));
        Check.same("its last token is told", x.told(Tokens.of(1, 400, 0), 1), 400);
    }

    private static void loggedTellsEachPart() {
        ReadSide x = new ReadSide(2, 2);
        x.command(0, 3, 29, 8, 777);
        int[] due = {3, 29, 8, 777, 0, 0, 0};
        for (int what = 0; what < due.length; what++) {
            Check.same("logged(1, 1, " + what + ")", x.logged(1, 1, what), due[what]);
        }
        Check.noSuch("logged(1, 1, 7)", () -> x.logged(1, 1, 7));
        Check.noSuch("logged(1, 1, -1)", () -> x.logged(1, 1, -1));
        Check.noSuch("logged(1, 2, 0)", () -> x.logged(1, 2, 0));
        Check.noSuch("logged(1, 0, 0)", () -> x.logged(1, 0, 0));
        Check.noSuch("logged(1, -1, 0)", () -> x.logged(1, -1, 0));
        Check.noSuch("logged(1, max, 0)", () -> x.logged(1, Integer.MAX_VALUE, 0));
        Check.noSuch("logged(1, min, 0)", () -> x.logged(1, Integer.MIN_VALUE, 0));
        Check.noSuch("logged(0, 1, 0)", () -> x.logged(0, 1, 0));
        Check.noSuch("logged(2, 1, 0)", () -> x.logged(2, 1, 0));
        Check.noSuch("logged(-1, 1, 0)", () -> x.logged(-1, 1, 0));
    }

    private static void trimmedCommandsAreGone() {
        ReadSide x = new ReadSide(1, 1);
        for (int amount = 1; amount <= 3; amount++) {
            x.command(0, 0, 0, 0, amount);
        }
        x.step(0, 0);
        x.step(0, 0);
        x.snapshot(0);
        x.trim();
        Check.noSuch("logged(0, 1, 0) trimmed", () -> x.logged(0, 1, 0));
        Check.noSuch("logged(0, 2, 0) trimmed", () -> x.logged(0, 2, 0));
        Check.same("logged(0, 3, 3)", x.logged(0, 3, 3), 3);
        Check.same("log(0, 0): the end stays", x.log(0, 0), 3);
        Check.same("log(0, 1)", x.log(0, 1), 2);
        Check.same("the next position goes on", x.command(0, 0, 0, 0, 1), Tokens.of(4, 0, 0));
        Check.same("a token of a trimmed one is one", x.told(Tokens.of(1, 0, 0), 0), 1);
    }

    private static void toldTellsPositions() {
        ReadSide x = new ReadSide(3, 1);
        for (int i = 0; i < 12; i++) {
            x.command(0, 0, i < 6 ? 0 : i < 10 ? 1 : 2, 0, 1);
        }
        long token = Tokens.of(6, 4, 2);
        Check.same("told at 0", x.told(token, 0), 6);
        Check.same("told at 1", x.told(token, 1), 4);
        Check.same("told at 2", x.told(token, 2), 2);
        Check.same("told(0, 2)", x.told(0, 2), 0);
        Check.notAsTold("beyond the end at 0", () -> x.told(Tokens.of(7, 0, 0), 0));
        Check.notAsTold("beyond the end at 1", () -> x.told(Tokens.of(0, 5, 0), 0));
        Check.notAsTold("beyond the end at 2", () -> x.told(Tokens.of(0, 0, 3), 0));
        Check.noSuch("told(token, 3)", () -> x.told(token, 3));
        Check.noSuch("told(token, -1)", () -> x.told(token, -1));
        Check.noSuch("no partition, no token: the first one named", () -> x.told(-1, 3));
    }

    private static void numbersThatAreNoTokens() {
        ReadSide x = new ReadSide(2, 1);
        x.command(0, 0, 0, 0, 1);
        x.command(0, 0, 1, 0, 1);
        long token = Tokens.of(1, 1, 0);
        Check.same("one that is a token", x.told(token, 1), 1);
        for (int bit = 0; bit < 64; bit++) {
            long other = token ^ (1L << bit);
            Check.notAsTold("bit " + bit + " is another", () -> x.told(other, 0));
        }
        Check.notAsTold("a position of a partition that there is not", () -> x.told(Tokens.of(1, 1, 1), 0));
        Check.notAsTold("x is 2^27 with its right check", () -> x.told(Tokens.ofNumber(1L << 27), 0));
        Check.notAsTold("x is 2^27 + 1 with its right check", () -> x.told(Tokens.ofNumber((1L << 27) + 1), 0));
        Check.notAsTold("x is 2^42 with its right check", () -> x.told(Tokens.ofNumber(1L << 42), 0));
        Check.notAsTold("the least number", () -> x.told(Long.MIN_VALUE, 0));
        Check.notAsTold("the greatest number", () -> x.told(Long.MAX_VALUE, 0));
        long signed = Tokens.ofNumber(1L << 43);
        Check.notAsTold("below 0 with the right check of its bits", () -> x.told(signed, 0));
        ReadSide one = new ReadSide(1, 1);
        one.command(0, 0, 0, 0, 1);
        Check.notAsTold("position at 1 of one partition", () -> one.told(Tokens.of(1, 1, 0), 0));
        Check.same("one partition's own", one.told(Tokens.of(1, 0, 0), 0), 1);
    }
}
