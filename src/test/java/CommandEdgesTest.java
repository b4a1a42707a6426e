/** The sentences about commands, states, sessions and tokens that name an edge: each stands above its own test. */
public final class CommandEdgesTest {
    private static final int RECEIVE = 0, RESERVE = 1, SHIP = 2, RELEASE = 3, PRICE = 4;

    public static void main(String[] args) {
        itemsAreOfPartitions();
        logHasFourHundredAtMost();
        trimmedLogHasHadFourHundred();
        positionsBeginAtOne();
        amountsAreOneToAThousand();
        stockIsNeverAboveItsMost();
        reserveTakesJustWhatIsLeft();
        shipTakesJustWhatIsHeld();
        releaseTakesAllIfMoreIsAsked();
        pricesAreOneAtFirst();
        needsAreNoughtAtFirst();
        needsAreTheGreatest();
        wroteIsTheLatestPosition();
        commandsAreNotRefusedForWhatTheyDo();
        needsOfNoPartitionAreNought();
        tokensAreTheNumbersTold();
        noughtIsAToken();
        tokensEndWithTheLogs();
        checksAreRightOrNot();
        vectorsAreBelowTheirBound();
        Check.end();
    }

    private static void take(ReadSide x, int kind, int item, int customer, int amount) {
        x.command(0, kind, item, customer, amount);
        Check.same("step", x.step(0, 0), 1);
    }

    /** "ITEMS 0 .. 29 are of PARTITIONS 0 .. P - 1: item % P." */
    private static void itemsAreOfPartitions() {
        for (int partitions = 1; partitions <= 3; partitions++) {
            ReadSide x = new ReadSide(partitions, 1);
            for (int item = 0; item < 30; item++) {
                x.command(0, RECEIVE, item, 0, 1);
                int position = item / partitions + 1;
                Check.same("log of item " + item, x.log(item % partitions, 0), position);
                Check.same("item " + item, x.logged(item % partitions, position, 1), item);
            }
            Check.noSuch("item 30 of " + partitions, () -> x.command(0, RECEIVE, 30, 0, 1));
            Check.noSuch("item -1 of " + partitions, () -> x.command(0, RECEIVE, -1, 0, 1));
        }
    }

    /** "(400 at most)"; "the log has had 400". */
    private static void logHasFourHundredAtMost() {
        ReadSide x = new ReadSide(3, 1);
        for (int i = 0; i < 399; i++) {
            x.command(1, RECEIVE, 2, 0, 1);
        }
        Check.same("the 399th is the end", x.log(2, 0), 399);
        Check.same("the 400th", x.command(1, PRICE, 29, 9, 1000), Tokens.of(0, 0, 400));
        Check.same("the end", x.log(2, 0), 400);
        Look.logged("the 400th", x, 2, 400, PRICE, 29, 9, 1000, 0, 0, 0);
        Check.notNow("the 401st", () -> x.command(2, RECEIVE, 5, 0, 1));
        Check.same("the end behind it", x.log(2, 0), 400);
        Look.wrote("one that was refused", x, 2, 0, 0, 0);
        Look.wrote("the 400th", x, 1, 0, 0, 400);
        Check.noSuch("position 401", () -> x.logged(2, 401, 0));
        Check.same("another log has its own 400", x.command(2, RECEIVE, 0, 0, 1), Tokens.of(1, 0, 0));
    }

    /** "the log has had 400": those that were trimmed count, too. */
    private static void trimmedLogHasHadFourHundred() {
        ReadSide x = new ReadSide(1, 1);
        for (int i = 0; i < 399; i++) {
            x.command(0, RECEIVE, 0, 0, 1);
        }
        x.speed(0, 10);
        x.ticks(40);
        x.snapshot(0);
        Check.same("trim", x.trim(), 399);
        Check.same("the 400th", x.command(0, RECEIVE, 0, 0, 1), Tokens.of(400, 0, 0));
        Check.notNow("the 401st", () -> x.command(0, RECEIVE, 0, 0, 1));
        Check.same("end", x.log(0, 0), 400);
        Check.same("trimmed", x.log(0, 1), 399);
    }

    /** "has COMMANDS at POSITIONS 1, 2, .."; logged: "also when it was trimmed". */
    private static void positionsBeginAtOne() {
        ReadSide x = new ReadSide(2, 1);
        Check.noSuch("position 1 of an empty log", () -> x.logged(1, 1, 0));
        for (int amount = 1; amount <= 4; amount++) {
            x.command(0, RECEIVE, 1, 0, amount);
        }
        Check.noSuch("position 0", () -> x.logged(1, 0, 0));
        Check.same("position 1", x.logged(1, 1, 3), 1);
        Check.same("position 4", x.logged(1, 4, 3), 4);
        Check.noSuch("position 5", () -> x.logged(1, 5, 0));
        Check.noSuch("position 1 of the other log", () -> x.logged(0, 1, 0));
        x.step(0, 1);
        x.step(0, 1);
        x.snapshot(0);
        x.trim();
        Check.noSuch("position 2, trimmed", () -> x.logged(1, 2, 0));
        Check.same("position 3, the first that is left", x.logged(1, 3, 3), 3);
    }

    /** "an amount n 1 .. 1000". */
    private static void amountsAreOneToAThousand() {
        ReadSide x = new ReadSide(1, 1);
        take(x, RECEIVE, 0, 0, 1);
        Look.item("1", x, 0, 1);
        take(x, RECEIVE, 0, 0, 1000);
        Look.item("1000 more", x, 0, 1001);
        Check.notAsTold("0", () -> x.command(0, RECEIVE, 0, 0, 0));
        Check.notAsTold("1001", () -> x.command(0, RECEIVE, 0, 0, 1001));
        Check.same("end", x.log(0, 0), 2);
    }

    /** "the item's STOCK grows by n (not if it would be above 100000)". */
    private static void stockIsNeverAboveItsMost() {
        ReadSide x = new ReadSide(1, 1);
        for (int i = 0; i < 99; i++) {
            x.command(0, RECEIVE, 7, 0, 1000);
        }
        x.speed(0, 10);
        x.ticks(10);
        take(x, RECEIVE, 7, 0, 1);
        take(x, RECEIVE, 7, 0, 1000);
        Look.item("99001 and 1000 are above", x, 7, 99001);
        take(x, RECEIVE, 7, 0, 999);
        Look.item("99001 and 999 are not", x, 7, 100000);
        take(x, RECEIVE, 7, 0, 1);
        Look.item("100000 and 1 are", x, 7, 100000);
        take(x, RECEIVE, 8, 0, 1);
        Look.item("another item has its own", x, 8, 1);
        take(x, RESERVE, 7, 3, 1);
        take(x, SHIP, 7, 3, 1);
        take(x, RECEIVE, 7, 0, 1);
        Look.item("one was sold, one more may come", x, 7, 100000, 0, 1);
    }

    /** "if its stock less what is RESERVED of it is n or more"; "otherwise the customer has one REFUSAL more". */
    private static void reserveTakesJustWhatIsLeft() {
        ReadSide x = new ReadSide(1, 1);
        take(x, RESERVE, 1, 0, 1);
        Look.item("of an empty stock", x, 1, 0, 0, 0, 1);
        Look.customer("of an empty stock", x, 0, 0, 0, 1);
        take(x, RECEIVE, 1, 0, 10);
        take(x, RESERVE, 1, 2, 4);
        take(x, RESERVE, 1, 3, 7);
        Look.customer("7 of 6", x, 3, 0, 0, 1);
        Look.item("7 of 6", x, 1, 10, 4, 0, 1);
        take(x, RESERVE, 1, 3, 6);
        Look.customer("6 of 6", x, 3, 0, 6, 1);
        Look.item("6 of 6", x, 1, 10, 10, 0, 1);
        take(x, RESERVE, 1, 3, 1);
        Look.customer("1 of 0", x, 3, 0, 6, 2);
        Look.customer("the other one", x, 2, 0, 4, 0);
    }

    /** "if the customer holds n of it or more"; "otherwise nothing". */
    private static void shipTakesJustWhatIsHeld() {
        ReadSide x = new ReadSide(1, 1);
        take(x, RECEIVE, 1, 0, 100);
        take(x, RESERVE, 1, 9, 5);
        take(x, RESERVE, 1, 8, 50);
        take(x, SHIP, 1, 9, 6);
        Look.item("6 of 5", x, 1, 100, 55, 0, 1);
        Look.customer("6 of 5: no refusal either", x, 9, 0, 5, 0);
        take(x, SHIP, 1, 9, 5);
        Look.item("5 of 5", x, 1, 95, 50, 5, 1);
        Look.customer("5 of 5", x, 9, 5, 0, 0);
        take(x, SHIP, 1, 9, 1);
        Look.item("1 of 0", x, 1, 95, 50, 5, 1);
        Look.customer("1 of 0", x, 9, 5, 0, 0);
    }

    /** "the customer holds n less, and n less are reserved (all, if n is more)". */
    private static void releaseTakesAllIfMoreIsAsked() {
        ReadSide x = new ReadSide(1, 1);
        take(x, RECEIVE, 1, 0, 100);
        take(x, RESERVE, 1, 4, 30);
        take(x, RESERVE, 1, 5, 50);
        take(x, RELEASE, 1, 4, 29);
        Look.customer("29 of 30", x, 4, 0, 1, 0);
        take(x, RELEASE, 1, 4, 2);
        Look.customer("2 of 1", x, 4, 0, 0, 0);
        Look.item("2 of 1: 50 of another one stay", x, 1, 100, 50, 0, 1);
        take(x, RELEASE, 1, 4, 1000);
        Look.item("1000 of 0", x, 1, 100, 50, 0, 1);
        take(x, RELEASE, 1, 5, 50);
        Look.item("50 of 50", x, 1, 100, 0, 0, 1);
        Look.customer("50 of 50", x, 5, 0, 0, 0);
    }

    /** "PRICE: it is n (1 at first; all else is 0 at first)." */
    private static void pricesAreOneAtFirst() {
        ReadSide x = new ReadSide(1, 1);
        for (int item = 0; item < 30; item++) {
            Look.item("at first", x, item, 0, 0, 0, 1);
        }
        for (int customer = 0; customer < 10; customer++) {
            Look.customer("at first", x, customer, 0, 0, 0);
        }
        take(x, PRICE, 29, 0, 1000);
        Look.item("1000", x, 29, 0, 0, 0, 1000);
        take(x, PRICE, 29, 0, 1);
        Look.item("1", x, 29, 0, 0, 0, 1);
        Check.notAsTold("0", () -> x.command(0, PRICE, 29, 0, 0));
        Check.notAsTold("1001", () -> x.command(0, PRICE, 29, 0, 1001));
    }

    /** "two vectors, WROTE and SAW (0s at first)"; "the greatest of 0, with 4 SAW, with 8 WROTE". */
    private static void needsAreNoughtAtFirst() {
        ReadSide x = new ReadSide(3, 1);
        x.command(1, RECEIVE, 0, 0, 1);
        x.step(0, 0);
        x.mode(0, 15);
        x.command(0, RECEIVE, 1, 0, 1);
        Look.logged("neither wrote nor saw", x, 1, 1, RECEIVE, 1, 0, 1, 0, 0, 0);
        Look.saw("no read was asked", x, 0, 0, 0, 0);
    }

    /** "at each partition the greatest of 0, with 4 SAW, with 8 WROTE": one is greater at one, one at the other. */
    private static void needsAreTheGreatest() {
        int[][] due = {{0, 0}, {1, 2}, {2, 1}, {2, 2}};
        for (int mode = 0; mode <= 15; mode++) {
            ReadSide x = new ReadSide(3, 1);
            x.command(0, RECEIVE, 1, 0, 1);
            x.command(1, RECEIVE, 1, 0, 1);
            x.command(1, RECEIVE, 0, 0, 1);
            x.speed(0, 10);
            x.ticks(1);
            x.ask(0, 0, -1, 0, 0, 0);
            x.command(0, RECEIVE, 0, 0, 1);
            Look.wrote("before", x, 0, 2, 1, 0);
            Look.saw("before", x, 0, 1, 2, 0);
            x.mode(0, mode);
            int[] needs = due[mode / 4];
            long token = x.command(0, RECEIVE, 2, 0, 1);
            Look.logged("mode " + mode, x, 2, 1, RECEIVE, 2, 0, 1, needs[0], needs[1], 0);
            Check.same("token in mode " + mode, token, Tokens.of(needs[0], needs[1], 1));
        }
    }

    /** "Then WROTE has its position at its partition": it is not needed by the command itself. */
    private static void wroteIsTheLatestPosition() {
        ReadSide x = new ReadSide(2, 1);
        x.mode(7, 8);
        for (int position = 1; position <= 3; position++) {
            Check.same("token " + position, x.command(7, RECEIVE, 0, 0, 1), Tokens.of(position, 0, 0));
            Look.logged("needs", x, 0, position, RECEIVE, 0, 0, 1, position - 1, 0, 0);
            Look.wrote("then", x, 7, position, 0);
        }
    }

    /** "(Commands are never refused for what they would do.)" */
    private static void commandsAreNotRefusedForWhatTheyDo() {
        ReadSide x = new ReadSide(1, 1);
        Check.same("reserve of none", x.command(0, RESERVE, 0, 0, 1000), Tokens.of(1, 0, 0));
        Check.same("ship of none", x.command(0, SHIP, 0, 0, 1000), Tokens.of(2, 0, 0));
        Check.same("release of none", x.command(0, RELEASE, 0, 0, 1000), Tokens.of(3, 0, 0));
        for (int i = 1; i <= 101; i++) {
            Check.same("receive " + i, x.command(0, RECEIVE, 0, 0, 1000), Tokens.of(3 + i, 0, 0));
        }
        x.speed(0, 10);
        Check.same("all of them are taken", x.ticks(11), 104);
        Look.item("all of them", x, 0, 100000, 0, 0, 1);
        Look.customer("all of them", x, 0, 0, 0, 1);
    }

    /** "4, 5, 6 what it needs of partition 0, 1, 2 (0 of one that there is not)". */
    private static void needsOfNoPartitionAreNought() {
        for (int partitions = 1; partitions <= 3; partitions++) {
            ReadSide x = new ReadSide(partitions, 1);
            x.mode(0, 12);
            for (int item = 0; item < partitions; item++) {
                x.command(0, RECEIVE, item, 0, 1);
            }
            x.command(0, RECEIVE, 0, 0, 1);
            int second = partitions > 1 ? 1 : 0;
            int third = partitions > 2 ? 1 : 0;
            Look.logged("of " + partitions, x, 0, 2, RECEIVE, 0, 0, 1, 1, second, third);
            Check.noSuch("what 7", () -> x.logged(0, 2, 7));
            Check.noSuch("what -1", () -> x.logged(0, 2, -1));
        }
    }

    /** "(64 bits, running over) moved right by 44, zeros coming in": numbers that were worked out elsewhere. */
    private static void tokensAreTheNumbersTold() {
        ReadSide x = new ReadSide(3, 1);
        Check.same("1, 0, 0", x.command(0, RECEIVE, 0, 0, 1), 1696631L);
        Check.same("0, 1, 0", x.command(0, RECEIVE, 1, 0, 1), 537325367L);
        Check.same("0, 0, 1", x.command(0, RECEIVE, 2, 0, 1), 274878852703L);
        Check.same("2, 0, 0", x.command(0, RECEIVE, 0, 0, 1), 2344687L);
        for (int i = 0; i < 398; i++) {
            x.command(0, RECEIVE, 2, 0, 1);
        }
        Check.same("0, 0, 400", x.command(0, RECEIVE, 2, 0, 1), 109951163594169L);
        Check.same("told at 2", x.told(109951163594169L, 2), 400);
        Check.same("told at 1", x.told(109951163594169L, 1), 0);
        x.command(0, RECEIVE, 1, 0, 1);
        Check.same("1, 2, 3", x.told(825708711173L, 0), 1);
        Check.same("1, 2, 3", x.told(825708711173L, 1), 2);
        Check.same("1, 2, 3", x.told(825708711173L, 2), 3);
    }

    /** "if it is 0 or more". */
    private static void noughtIsAToken() {
        ReadSide x = new ReadSide(3, 1);
        for (int partition = 0; partition < 3; partition++) {
            Check.same("told(0, " + partition + ")", x.told(0, partition), 0);
        }
        Check.notAsTold("-1", () -> x.told(-1, 0));
        Check.notAsTold("1", () -> x.told(1, 0));
        Check.notAsTold("0 with the sign", () -> x.told(Long.MIN_VALUE, 0));
        x.command(0, RECEIVE, 0, 0, 1);
        long signed = Tokens.of(1, 0, 0) | Long.MIN_VALUE;
        Check.notAsTold("a token with the sign", () -> x.told(signed, 0));
    }

    /** "positions of partitions that there are not are 0, and the others are not beyond the ends of the logs". */
    private static void tokensEndWithTheLogs() {
        for (int partitions = 1; partitions <= 3; partitions++) {
            for (int partition = 0; partition < 3; partition++) {
                ReadSide x = new ReadSide(partitions, 1);
                long first = Tokens.ofNumber(1L << (9 * partition));
                long second = Tokens.ofNumber(2L << (9 * partition));
                Check.notAsTold("1 of 0 at " + partition + " of " + partitions, () -> x.told(first, 0));
                if (partition < partitions) {
                    x.command(0, RECEIVE, partition, 0, 1);
                    Check.same("1 of 1 at " + partition + " of " + partitions, x.told(first, partition), 1);
                    Check.notAsTold("2 of 1 at " + partition + " of " + partitions, () -> x.told(second, 0));
                }
            }
        }
    }

    /** "its check is right (x being what is above the lowest 20 bits)". */
    private static void checksAreRightOrNot() {
        ReadSide x = new ReadSide(1, 1);
        long token = x.command(0, RECEIVE, 0, 0, 1);
        Check.same("its own", x.told(token, 0), 1);
        Check.notAsTold("one more", () -> x.told(token + 1, 0));
        Check.notAsTold("one less", () -> x.told(token - 1, 0));
        Check.notAsTold("no check", () -> x.told(1L << 20, 0));
        Check.notAsTold("the check alone", () -> x.told(token & 0xFFFFF, 0));
        Check.notAsTold("the check with its lowest bit of x's", () -> x.told(token ^ (1L << 20), 0));
    }

    /** "x is below 2^27": above, the lower bits are of a vector that there is. */
    private static void vectorsAreBelowTheirBound() {
        ReadSide x = new ReadSide(3, 1);
        x.command(0, RECEIVE, 0, 0, 1);
        Check.notAsTold("2^27 - 1: beyond the logs", () -> x.told(Tokens.ofNumber((1L << 27) - 1), 0));
        for (int bit = 27; bit < 44; bit++) {
            long above = Tokens.ofNumber(1L << bit);
            long aboveOne = Tokens.ofNumber((1L << bit) + 1);
            Check.notAsTold("2^" + bit, () -> x.told(above, 0));
            Check.notAsTold("2^" + bit + " + 1", () -> x.told(aboveOne, 0));
        }
    }
}
