/** Several answers about one thing at once, each compared with what is due. */
final class Look {
    private Look() {
    }

    static void read(String when, ReadSide x, int read, long... due) {
        for (int what = 0; what < due.length; what++) {
            Check.same(when + ": read(" + read + ", " + what + ")", x.read(read, what), due[what]);
        }
    }

    static void counts(String when, ReadSide x, int... due) {
        for (int what = 0; what < due.length; what++) {
            Check.same(when + ": count(" + what + ")", x.count(what), due[what]);
        }
    }

    static void at(String when, ReadSide x, int replica, int... due) {
        for (int partition = 0; partition < due.length; partition++) {
            Check.same(when + ": at(" + replica + ", " + partition + ")", x.at(replica, partition), due[partition]);
        }
    }

    static void kept(String when, ReadSide x, int replica, int... due) {
        for (int partition = 0; partition < due.length; partition++) {
            Check.same(when + ": kept(" + replica + ", " + partition + ")", x.kept(replica, partition), due[partition]);
        }
    }

    static void wrote(String when, ReadSide x, int session, int... due) {
        for (int partition = 0; partition < due.length; partition++) {
            Check.same(when + ": WROTE of " + session + " at " + partition, x.session(session, 0, partition),
                due[partition]);
        }
    }

    static void saw(String when, ReadSide x, int session, int... due) {
        for (int partition = 0; partition < due.length; partition++) {
            Check.same(when + ": SAW of " + session + " at " + partition, x.session(session, 1, partition),
                due[partition]);
        }
    }

    static void logged(String when, ReadSide x, int partition, int position, int... due) {
        for (int what = 0; what < due.length; what++) {
            Check.same(when + ": logged(" + partition + ", " + position + ", " + what + ")",
                x.logged(partition, position, what), due[what]);
        }
    }

    /** Stock, reserved, sold, price at replica 0. */
    static void item(String when, ReadSide x, int item, long... due) {
        for (int kind = 0; kind < due.length; kind++) {
            Check.same(when + ": value(0, " + kind + ", " + item + ")", x.value(0, kind, item), due[kind]);
        }
    }

    /** Paid, held, refusals at replica 0. */
    static void customer(String when, ReadSide x, int customer, long... due) {
        for (int i = 0; i < due.length; i++) {
            Check.same(when + ": value(0, " + (4 + i) + ", " + customer + ")", x.value(0, 4 + i, customer), due[i]);
        }
    }
}
