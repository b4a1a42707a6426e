/** Promise 14 (value): what commands do to a state, and what the questions give for it. */
public final class ValuesTest {
    private static final int RECEIVE = 0, RESERVE = 1, SHIP = 2, RELEASE = 3, PRICE = 4;

    public static void main(String[] args) {
        receiveHasALimit();
        reserveAndRefusals();
        shipAndPay();
        releaseGivesBack();
        holdsAreOfCustomerAndItem();
        itemsByWhatWasSold();
        worthOfPartitions();
        snapshotsKeepAllOfAState();
        downReplicasHaveValues();
        wrongQuestionsAreRefused();
        Check.end();
    }

    /** For objects of one partition: the command is appended, and replica 0 takes it. */
    private static void take(ReadSide x, int kind, int item, int customer, int amount) {
        x.command(0, kind, item, customer, amount);
        Check.same("step", x.step(0, 0), 1);
    }

    private static void receiveHasALimit() {
        ReadSide x = new ReadSide(1, 1);
        for (int i = 0; i < 99; i++) {
            x.command(0, RECEIVE, 29, 0, 1000);
        }
        x.command(0, RECEIVE, 29, 0, 999);
        x.speed(0, 10);
        x.ticks(10);
        Look.item("99999", x, 29, 99999, 0, 0, 1);
        take(x, RECEIVE, 29, 0, 2);
        Look.item("100001 is above", x, 29, 99999);
        take(x, RECEIVE, 29, 0, 1);
        Look.item("100000 is not", x, 29, 100000);
        take(x, RECEIVE, 29, 0, 1);
        Look.item("100001 is above again", x, 29, 100000);
        take(x, PRICE, 29, 0, 1000);
        Check.same("worth at the highest price", x.value(0, 8, -1), 100000000L);
    }

    private static void reserveAndRefusals() {
        ReadSide x = new ReadSide(1, 1);
        take(x, RECEIVE, 3, 0, 10);
        take(x, RESERVE, 3, 9, 11);
        Look.item("refused", x, 3, 10, 0, 0, 1);
        Look.customer("refused", x, 9, 0, 0, 1);
        take(x, RESERVE, 3, 9, 10);
        Look.item("all reserved", x, 3, 10, 10, 0, 1);
        Look.customer("all reserved", x, 9, 0, 10, 1);
        take(x, RESERVE, 3, 8, 1);
        Look.customer("none is left", x, 8, 0, 0, 1);
        Look.customer("the other one", x, 9, 0, 10, 1);
        Look.item("none is left", x, 3, 10, 10, 0, 1);
    }

    private static void shipAndPay() {
        ReadSide x = new ReadSide(1, 1);
        take(x, RECEIVE, 0, 0, 100);
        take(x, RESERVE, 0, 1, 30);
        take(x, SHIP, 0, 1, 31);
        Look.item("more than held", x, 0, 100, 30, 0, 1);
        Look.customer("more than held", x, 1, 0, 30, 0);
        take(x, SHIP, 0, 2, 1);
        Look.item("of one who holds none", x, 0, 100, 30, 0, 1);
        take(x, SHIP, 0, 1, 10);
        Look.item("10 at 1", x, 0, 90, 20, 10, 1);
        Look.customer("10 at 1", x, 1, 10, 20, 0);
        take(x, PRICE, 0, 2, 1000);
        Look.item("the price", x, 0, 90, 20, 10, 1000);
        Look.customer("the price", x, 1, 10, 20, 0);
        take(x, SHIP, 0, 1, 20);
        Look.item("20 at 1000", x, 0, 70, 0, 30, 1000);
        Look.customer("20 at 1000", x, 1, 20010, 0, 0);
        Look.customer("one who did nothing", x, 2, 0, 0, 0);
    }

    private static void releaseGivesBack() {
        ReadSide x = new ReadSide(1, 1);
        take(x, RECEIVE, 6, 0, 100);
        take(x, RESERVE, 6, 1, 30);
        take(x, RESERVE, 6, 2, 40);
        take(x, RELEASE, 6, 1, 10);
        Look.item("10 of 30", x, 6, 100, 60, 0, 1);
        Look.customer("10 of 30", x, 1, 0, 20, 0);
        take(x, RELEASE, 6, 1, 21);
        Look.item("all, as 21 is more", x, 6, 100, 40, 0, 1);
        Look.customer("all, as 21 is more", x, 1, 0, 0, 0);
        take(x, RELEASE, 6, 1, 5);
        Look.item("none held", x, 6, 100, 40, 0, 1);
        take(x, RELEASE, 6, 2, 40);
        Look.item("just all", x, 6, 100, 0, 0, 1);
    }

    private static void holdsAreOfCustomerAndItem() {
        ReadSide x = new ReadSide(1, 1);
        take(x, RECEIVE, 0, 0, 100);
        take(x, RECEIVE, 29, 0, 100);
        take(x, RESERVE, 0, 5, 7);
        take(x, RESERVE, 29, 5, 8);
        take(x, RESERVE, 29, 4, 9);
        Look.customer("of two items", x, 5, 0, 15, 0);
        Look.customer("of one", x, 4, 0, 9, 0);
        take(x, SHIP, 0, 5, 8);
        Look.item("8 of item 0 are not held", x, 0, 100, 7, 0, 1);
        take(x, SHIP, 29, 5, 8);
        Look.item("8 of item 29 are", x, 29, 92, 9, 8, 1);
    }

    private static void itemsByWhatWasSold() {
        ReadSide x = new ReadSide(1, 1);
        int[][] sold = {{7, 5}, {3, 5}, {20, 9}, {29, 1}};
        for (int[] one : sold) {
            x.command(0, RECEIVE, one[0], 0, 10);
            x.command(0, RESERVE, one[0], 0, one[1]);
            x.command(0, SHIP, one[0], 0, one[1]);
        }
        x.speed(0, 10);
        x.ticks(2);
        int[] due = {20, 3, 7, 29, 0, 1, 2, 4, 5, 6, 8, 9};
        for (int rank = 0; rank < due.length; rank++) {
            Check.same("value(0, 7, " + rank + ")", x.value(0, 7, rank), due[rank]);
        }
        Check.same("value(0, 7, 29)", x.value(0, 7, 29), 28);
    }

    private static void worthOfPartitions() {
        ReadSide x = new ReadSide(3, 1);
        for (int item = 0; item < 30; item++) {
            x.command(0, RECEIVE, item, 0, item + 1);
        }
        x.command(0, PRICE, 1, 0, 1000);
        x.command(0, PRICE, 29, 0, 10);
        x.speed(0, 10);
        x.ticks(10);
        Check.same("worth of partition 0", x.value(0, 8, 0), 145);
        Check.same("worth of partition 1", x.value(0, 8, 1), 155 + 2 * 999);
        Check.same("worth of partition 2", x.value(0, 8, 2), 165 + 30 * 9);
        Check.same("worth of all", x.value(0, 8, -1), 465 + 2 * 999 + 30 * 9);
    }

    private static void snapshotsKeepAllOfAState() {
        ReadSide x = new ReadSide(1, 1);
        take(x, RECEIVE, 4, 0, 50);
        take(x, RESERVE, 4, 9, 20);
        take(x, SHIP, 4, 9, 5);
        take(x, PRICE, 4, 9, 3);
        take(x, RESERVE, 4, 9, 100);
        x.snapshot(0);
        take(x, PRICE, 4, 9, 9);
        take(x, RESERVE, 4, 9, 10);
        take(x, SHIP, 4, 9, 25);
        take(x, RESERVE, 4, 9, 100);
        take(x, RECEIVE, 4, 9, 1);
        Look.item("before the crash", x, 4, 21, 0, 30, 9);
        Look.customer("before the crash", x, 9, 230, 0, 2);
        x.crash(0);
        Look.item("as kept", x, 4, 45, 15, 5, 3);
        Look.customer("as kept", x, 9, 5, 15, 1);
        x.step(0, 0);
        x.crash(0);
        Look.item("as kept, once more", x, 4, 45, 15, 5, 3);
        x.speed(0, 10);
        x.ticks(1);
        Look.item("taken again", x, 4, 21, 0, 30, 9);
        Look.customer("taken again", x, 9, 230, 0, 2);
    }

    private static void downReplicasHaveValues() {
        ReadSide x = new ReadSide(1, 2);
        take(x, RECEIVE, 0, 0, 6);
        x.up(0, false);
        Check.same("value of one that is down", x.value(0, 0, 0), 6);
        Check.same("value of another one", x.value(1, 0, 0), 0);
    }

    private static void wrongQuestionsAreRefused() {
        ReadSide x = new ReadSide(2, 2);
        for (int kind = 0; kind <= 7; kind++) {
            int of = kind;
            int most = kind >= 4 && kind <= 6 ? 9 : 29;
            Check.noSuch("value(0, " + kind + ", -1)", () -> x.value(0, of, -1));
            Check.noSuch("value(0, " + kind + ", " + (most + 1) + ")", () -> x.value(0, of, most + 1));
            x.value(0, kind, most);
        }
        Check.noSuch("value(0, 8, 2)", () -> x.value(0, 8, 2));
        Check.noSuch("value(0, 8, -2)", () -> x.value(0, 8, -2));
        Check.same("value(0, 8, 1)", x.value(0, 8, 1), 0);
        Check.noSuch("value(0, 9, 0)", () -> x.value(0, 9, 0));
        Check.noSuch("value(0, -1, 0)", () -> x.value(0, -1, 0));
        Check.noSuch("value(2, 0, 0)", () -> x.value(2, 0, 0));
        Check.noSuch("value(-1, 0, 0)", () -> x.value(-1, 0, 0));
    }
}
