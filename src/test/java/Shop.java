import java.util.ArrayList;
import java.util.List;

/** The calls that bring a new object into some state: made again for each object, they give as many twins as wanted. */
final class Shop {
    /** The document promises nothing about an object behind so many calls. */
    static final int CALLS_MOST = 512;

    final String name;
    final int partitions, replicas;
    private final List<FaceCall> calls = new ArrayList<>();

    Shop(String name, int partitions, int replicas) {
        this.name = name;
        this.partitions = partitions;
        this.replicas = replicas;
    }

    Shop then(String call, long... with) {
        calls.add(new FaceCall(call, with));
        return this;
    }

    Shop times(int times, String call, long... with) {
        for (int i = 0; i < times; i++) {
            then(call, with);
        }
        return this;
    }

    int callsLeft() {
        return CALLS_MOST - calls.size();
    }

    ReadSide make() {
        ReadSide made = new ReadSide(partitions, replicas);
        for (FaceCall call : calls) {
            String answer = call.on(made);
            if (answer.startsWith("throws")) {
                Check.note(false, name + ": " + call + " " + answer);
            }
        }
        return made;
    }

    /** Nothing is done yet. */
    static Shop fresh(int partitions, int replicas) {
        return new Shop("new object of " + partitions + ", " + replicas, partitions, replicas);
    }

    /** Commands of all kinds, some trimmed; replicas at several places, one of them down; reads in each state. */
    static Shop busy(int partitions, int replicas) {
        Shop shop = new Shop("busy one of " + partitions + ", " + replicas, partitions, replicas);
        for (int session = 0; session < 8; session++) {
            shop.then("home", session, session % replicas).then("mode", session, 15 - session);
        }
        for (int item = 0; item < 6; item++) {
            shop.then("command", item % 3, 0, item, 0, 100 + item);
            shop.then("command", item % 3, 1, item, item, 60);
        }
        for (int replica = 0; replica < replicas; replica++) {
            shop.then("speed", replica, replica + 3).then("ticks", 1).then("snapshot", replica);
        }
        shop.then("trim");
        for (int item = 0; item < 6; item++) {
            shop.then("command", item, 4, item, 0, item + 7).then("command", item, 2, item, item, item + 20);
        }
        shop.then("command", 3, 3, 1, 1, 9).then("command", 4, 1, 2, 7, 1000);
        shop.then("ticks", 1).then("step", replicas - 1, 0).then("ask", 6, 0, -1, 0, 8, -1);
        shop.then("ask", 3, 0, 0, 0, 0, 0).then("ask", 1, 0, 0, 3, 4, 1).then("ask", 2, 0, 0, 90, 7, 0);
        shop.then("ask", 0, 0, 1, 1, 5, 0).then("crash", 0).then("step", 0, 0);
        return shop.then("up", replicas - 1, 0).then("ask", 7, 0, 0, 1000, 1, 3);
    }

    /** The log of partition 1 of 2 has had 400, and 10 of them are trimmed. */
    static Shop fullLog() {
        Shop shop = new Shop("full log", 2, 1).then("mode", 2, 12).then("speed", 0, 10);
        shop.times(399, "command", 2, 0, 1, 0, 3).then("ticks", 1).then("snapshot", 0).then("trim");
        return shop.then("command", 3, 0, 29, 0, 3);
    }

    /** 500 reads were asked; two of them wait. */
    static Shop fullReads() {
        Shop shop = new Shop("500 reads", 1, 1).times(498, "ask", 1, 0, -1, 0, 0, 0);
        return shop.then("command", 0, 0, 0, 0, 6).times(2, "ask", 2, 0, 0, 50, 0, 0);
    }

    /** 40 reads wait for the one command that there is. */
    static Shop fortyWait() {
        Shop shop = new Shop("40 wait", 1, 2).then("command", 0, 0, 0, 0, 5);
        return shop.times(20, "ask", 1, 0, 0, 7, 0, 0).times(20, "ask", 2, 0, 0, 9, 0, 0);
    }
}
