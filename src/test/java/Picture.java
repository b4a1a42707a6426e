import java.util.ArrayList;
import java.util.List;

/**
 * All that can be asked about the objects of a shop. What shows only in calls that change something (modes, homes,
 * speeds, where a tick goes on, what was kept) is asked of twins, and so is what would be too much for 512 calls.
 */
final class Picture {
    private final Shop shop;
    private final int callsBefore;
    private final List<List<FaceCall>> scripts = new ArrayList<>();
    private final List<List<String>> answers = new ArrayList<>();

    /** Room is left in each script for so many calls that are made before it. */
    Picture(Shop shop, int callsBefore) {
        this.shop = shop;
        this.callsBefore = callsBefore;
        addQuestions();
        addSettings();
        addReplicas();
        addTicks();
        addNextOnes();
        for (List<FaceCall> script : scripts) {
            answers.add(answersOf(shop.make(), script));
        }
    }

    /** That the call is refused so, and that all is as it was: the face tells nothing else. */
    void refuses(String due, FaceCall call) {
        for (int i = 0; i < scripts.size(); i++) {
            ReadSide x = shop.make();
            String got = call.on(x);
            Check.note(got.equals(due), shop.name + ": " + call + " answered " + got + ", due is " + due);
            compare(call, scripts.get(i), answersOf(x, scripts.get(i)), answers.get(i));
            if (!got.equals(due)) {
                return;
            }
        }
    }

    private void compare(FaceCall call, List<FaceCall> script, List<String> got, List<String> due) {
        for (int i = 0; i < script.size(); i++) {
            if (!got.get(i).equals(due.get(i))) {
                Check.note(false, shop.name + ": behind " + call + " and " + script.subList(0, i) + " " + script.get(i)
                    + " answered " + got.get(i) + ", without it " + due.get(i));
                return;
            }
        }
        Check.note(true, "as before");
    }

    private static List<String> answersOf(ReadSide x, List<FaceCall> script) {
        List<String> answers = new ArrayList<>();
        for (FaceCall call : script) {
            answers.add(call.on(x));
        }
        return answers;
    }

    /** The calls of first, then as many of the questions as an object has calls for; then the next ones likewise. */
    private void add(List<FaceCall> first, List<FaceCall> questions) {
        int room = shop.callsLeft() - callsBefore - first.size();
        if (room < 1) {
            throw new AssertionError(shop.name + " has no calls left for " + first);
        }
        for (int from = 0; from < questions.size(); from += room) {
            List<FaceCall> script = new ArrayList<>(first);
            script.addAll(questions.subList(from, Math.min(questions.size(), from + room)));
            scripts.add(script);
        }
    }

    private void addQuestions() {
        List<FaceCall> questions = new ArrayList<>();
        for (int what = 0; what <= 4; what++) {
            questions.add(new FaceCall("count", what));
        }
        addLogs(questions);
        for (int replica = 0; replica < shop.replicas; replica++) {
            questions.addAll(ofReplica(replica));
        }
        for (int session = 0; session < 8; session++) {
            for (int partition = 0; partition < shop.partitions; partition++) {
                questions.add(new FaceCall("session", session, 0, partition));
                questions.add(new FaceCall("session", session, 1, partition));
            }
        }
        questions.addAll(ofReads());
        add(List.of(), questions);
    }

    /** One position and one read more than there are is asked for, too: a refused call may not have made it. */
    private void addLogs(List<FaceCall> questions) {
        ReadSide x = shop.make();
        for (int partition = 0; partition < shop.partitions; partition++) {
            questions.add(new FaceCall("log", partition, 0));
            questions.add(new FaceCall("log", partition, 1));
            for (int position = 1; position <= x.log(partition, 0) + 1; position++) {
                for (int what = 0; what <= 6; what++) {
                    questions.add(new FaceCall("logged", partition, position, what));
                }
            }
            long beyond = (x.log(partition, 0) + 1L) << (9 * partition);
            questions.add(new FaceCall("told", Tokens.ofNumber(beyond), partition));
        }
    }

    private List<FaceCall> ofReads() {
        List<FaceCall> questions = new ArrayList<>();
        int reads = shop.make().count(0);
        for (int read = 0; read <= reads; read++) {
            for (int what = 0; what <= 5; what++) {
                questions.add(new FaceCall("read", read, what));
            }
        }
        return questions;
    }

    private List<FaceCall> ofReplica(int replica) {
        List<FaceCall> questions = new ArrayList<>();
        for (int partition = 0; partition < shop.partitions; partition++) {
            questions.add(new FaceCall("at", replica, partition));
            questions.add(new FaceCall("kept", replica, partition));
        }
        for (int kind = 0; kind <= 8; kind++) {
            int most = kind == 8 ? shop.partitions - 1 : kind >= 4 && kind <= 6 ? 9 : 29;
            for (int a = kind == 8 ? -1 : 0; a <= most; a++) {
                questions.add(new FaceCall("value", replica, kind, a));
            }
        }
        return questions;
    }

    private void addSettings() {
        List<FaceCall> modes = new ArrayList<>();
        List<FaceCall> homes = new ArrayList<>();
        for (int session = 0; session < 8; session++) {
            modes.add(new FaceCall("mode", session, 0));
            homes.add(new FaceCall("home", session, 0));
        }
        add(List.of(), modes);
        add(List.of(), homes);
        add(modes, ofReads());
    }

    private void addReplicas() {
        for (int replica = 0; replica < shop.replicas; replica++) {
            FaceCall up = new FaceCall("up", replica, 1);
            FaceCall slow = new FaceCall("speed", replica, 1);
            FaceCall tick = new FaceCall("ticks", 1);
            List<FaceCall> ats = new ArrayList<>();
            for (int partition = 0; partition < shop.partitions; partition++) {
                ats.add(new FaceCall("at", replica, partition));
            }
            add(List.of(up, slow, tick), ats);
            add(List.of(new FaceCall("crash", replica)), ofReplica(replica));
        }
    }

    private void addTicks() {
        for (int ticks : new int[] {1, 2, 3, 10, 100}) {
            List<FaceCall> counts = new ArrayList<>();
            for (int what = 0; what <= 4; what++) {
                counts.add(new FaceCall("count", what));
            }
            add(List.of(new FaceCall("ticks", ticks)), counts);
        }
    }

    private void addNextOnes() {
        List<FaceCall> next = new ArrayList<>();
        for (int session = 0; session < 8; session++) {
            next.add(new FaceCall("command", session, 0, session, 0, 1));
        }
        add(List.of(), next);
        add(List.of(), List.of(new FaceCall("ask", 0, 0, -1, 0, 0, 0)));
        add(List.of(), List.of(new FaceCall("trim")));
    }
}
