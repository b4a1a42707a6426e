import java.util.ArrayList;
import java.util.Arrays;
import java.util.List;

/**
 * "A call that throws changes nothing; the first one named is thrown", for all promises: each argument of each call at
 * both edges of what it may be, just beyond them and far away, and each two arguments wrong at once.
 */
public final class RefusedCallsTest {
    /**
     * Otherwise is null, where the argument is not to be tried beyond its range. Of what there is none yet (reads,
     * positions of an empty log), most is one less than least: then both are beyond.
     */
    private record Range(long least, long most, String otherwise) {
        boolean isEmpty() {
            return most < least;
        }

        long amid() {
            return least + (most - least) / 2;
        }

        long[] beyond() {
            return new long[] {least - 1, most + 1, Integer.MIN_VALUE, Integer.MAX_VALUE};
        }
    }

    private record Form(String name, Range... ranges) {
    }

    public static void main(String[] args) {
        Shop[] shops = {Shop.fresh(3, 4), Shop.fresh(1, 1), Shop.busy(3, 4), Shop.busy(2, 3), Shop.busy(1, 1)};
        for (Shop shop : shops) {
            Picture picture = new Picture(shop, 1);
            for (Form form : formsFor(shop)) {
                edgesAreTaken(shop, form);
                oneBeyondIsRefused(picture, form);
                theFirstOneNamedIsThrown(picture, form);
            }
            numbersThatAreNoTokensAreRefused(shop, picture);
            positionsOfNoPartitionAreRefused(shop, picture);
        }
        fullLogRefuses();
        fortyThatWaitRefuse();
        fiveHundredReadsRefuse();
        Check.end();
    }

    private static Range noSuch(long least, long most) {
        return new Range(least, most, FaceCall.NO_SUCH);
    }

    private static Range notAsTold(long least, long most) {
        return new Range(least, most, FaceCall.NOT_AS_TOLD);
    }

    private static Range just(long least, long most) {
        return new Range(least, most, null);
    }

    private static List<Form> formsFor(Shop shop) {
        Range session = noSuch(0, 7);
        Range replica = noSuch(0, shop.replicas - 1);
        Range partition = noSuch(0, shop.partitions - 1);
        List<Form> forms = new ArrayList<>();
        forms.add(new Form("mode", session, notAsTold(0, 15)));
        forms.add(new Form("home", session, replica));
        forms.add(new Form("command", session, notAsTold(0, 4), noSuch(0, 29), noSuch(0, 9), notAsTold(1, 1000)));
        forms.add(new Form("step", replica, partition));
        forms.add(new Form("speed", replica, notAsTold(0, 10)));
        forms.add(new Form("ticks", notAsTold(0, 100)));
        forms.add(new Form("up", replica, just(0, 1)));
        forms.add(new Form("snapshot", replica));
        forms.add(new Form("crash", replica));
        forms.add(new Form("at", replica, partition));
        forms.add(new Form("kept", replica, partition));
        forms.add(new Form("log", partition, noSuch(0, 1)));
        forms.add(new Form("session", session, noSuch(0, 1), partition));
        forms.add(new Form("told", just(0, 0), partition));
        forms.add(new Form("count", noSuch(0, 4)));
        addLogged(forms, shop);
        forms.add(new Form("read", noSuch(0, shop.make().count(0) - 1), noSuch(0, 5)));
        addQuestions(forms, shop);
        return forms;
    }

    private static void addLogged(List<Form> forms, Shop shop) {
        ReadSide x = shop.make();
        for (int partition = 0; partition < shop.partitions; partition++) {
            Range positions = noSuch(x.log(partition, 1) + 1, x.log(partition, 0));
            forms.add(new Form("logged", just(partition, partition), positions, noSuch(0, 6)));
        }
    }

    private static void addQuestions(List<Form> forms, Shop shop) {
        Range session = noSuch(0, 7);
        Range replica = noSuch(0, shop.replicas - 1);
        Range stale = notAsTold(-1, 400);
        Range patience = notAsTold(0, 1000);
        forms.add(new Form("value", replica, noSuch(0, 8), just(0, 0)));
        forms.add(new Form("ask", session, just(0, 0), stale, patience, noSuch(0, 8), just(0, 0)));
        for (int kind = 0; kind <= 8; kind++) {
            Range item = noSuch(0, 29);
            Range a = kind == 8 ? noSuch(-1, shop.partitions - 1) : kind >= 4 && kind <= 6 ? noSuch(0, 9) : item;
            forms.add(new Form("value", just(0, 0), just(kind, kind), a));
            forms.add(new Form("ask", just(0, 0), just(0, 0), just(-1, -1), just(0, 0), just(kind, kind), a));
        }
    }

    private static long[] amid(Form form) {
        long[] with = new long[form.ranges().length];
        for (int i = 0; i < with.length; i++) {
            with[i] = form.ranges()[i].amid();
        }
        return with;
    }

    private static FaceCall callWith(Form form, int place, long number, int otherPlace, long otherNumber) {
        long[] with = amid(form);
        with[otherPlace] = otherNumber;
        with[place] = number;
        return new FaceCall(form.name(), with);
    }

    private static void edgesAreTaken(Shop shop, Form form) {
        if (Arrays.stream(form.ranges()).anyMatch(Range::isEmpty)) {
            return;
        }
        for (int place = 0; place < form.ranges().length; place++) {
            Range range = form.ranges()[place];
            for (long number : new long[] {range.least(), range.most()}) {
                FaceCall call = callWith(form, place, number, place, number);
                String got = call.on(shop.make());
                Check.note(!got.startsWith("throws"), shop.name + ": " + call + " on the edge " + got);
            }
        }
    }

    private static void oneBeyondIsRefused(Picture picture, Form form) {
        for (int place = 0; place < form.ranges().length; place++) {
            Range range = form.ranges()[place];
            if (range.otherwise() != null) {
                for (long number : range.beyond()) {
                    picture.refuses(range.otherwise(), callWith(form, place, number, place, number));
                }
            }
        }
    }

    private static void theFirstOneNamedIsThrown(Picture picture, Form form) {
        Range[] ranges = form.ranges();
        for (int one = 0; one < ranges.length; one++) {
            for (int other = one + 1; other < ranges.length; other++) {
                List<String> both = Arrays.asList(ranges[one].otherwise(), ranges[other].otherwise());
                if (!both.contains(null)) {
                    String due = both.contains(FaceCall.NO_SUCH) ? FaceCall.NO_SUCH : FaceCall.NOT_AS_TOLD;
                    long tooMuch = ranges[one].most() + 1;
                    long tooLittle = ranges[other].least() - 1;
                    picture.refuses(due, callWith(form, one, tooMuch, other, tooLittle));
                }
            }
        }
    }

    private static void numbersThatAreNoTokensAreRefused(Shop shop, Picture picture) {
        ReadSide x = shop.make();
        long ends = 0;
        List<Long> numbers = new ArrayList<>(List.of(-1L, 1L, Long.MIN_VALUE, Long.MAX_VALUE));
        for (int partition = 0; partition < 3; partition++) {
            long end = partition < shop.partitions ? x.log(partition, 0) : 0;
            ends += end << (9 * partition);
            numbers.add(Tokens.ofNumber((end + 1) << (9 * partition)));
        }
        long right = Tokens.ofNumber(ends);
        numbers.addAll(List.of(right ^ 1, right ^ (1L << 19), right ^ (1L << 20), right | Long.MIN_VALUE));
        numbers.addAll(List.of(Tokens.ofNumber(1L << 27), Tokens.ofNumber((1L << 27) + ends)));
        Check.same(shop.name + ": the ends are told", x.told(right, 0), x.log(0, 0));
        for (long number : numbers) {
            picture.refuses(FaceCall.NOT_AS_TOLD, new FaceCall("told", number, 0));
            picture.refuses(FaceCall.NO_SUCH, new FaceCall("told", number, shop.partitions));
            picture.refuses(FaceCall.NOT_AS_TOLD, new FaceCall("ask", 0, number, -1, 0, 0, 0));
            picture.refuses(FaceCall.NOT_AS_TOLD, new FaceCall("ask", 0, number, -1, 9, 0, 0));
            picture.refuses(FaceCall.NO_SUCH, new FaceCall("ask", 8, number, -1, 9, 0, 0));
            picture.refuses(FaceCall.NO_SUCH, new FaceCall("ask", 0, number, -1, 9, 0, 30));
        }
    }

    private static void positionsOfNoPartitionAreRefused(Shop shop, Picture picture) {
        int end = shop.make().log(0, 0);
        for (long partition : noSuch(0, shop.partitions - 1).beyond()) {
            picture.refuses(FaceCall.NO_SUCH, new FaceCall("logged", partition, end, 0));
        }
    }

    private static void fullLogRefuses() {
        Picture picture = new Picture(Shop.fullLog(), 1);
        picture.refuses(FaceCall.NOT_NOW, new FaceCall("command", 2, 0, 1, 0, 1));
        picture.refuses(FaceCall.NOT_NOW, new FaceCall("command", 0, 4, 29, 9, 1000));
        picture.refuses(FaceCall.NO_SUCH, new FaceCall("command", 8, 0, 1, 0, 1));
        picture.refuses(FaceCall.NO_SUCH, new FaceCall("command", 0, 0, 1, 10, 1));
        picture.refuses(FaceCall.NOT_AS_TOLD, new FaceCall("command", 0, 5, 1, 0, 1));
        picture.refuses(FaceCall.NOT_AS_TOLD, new FaceCall("command", 0, 0, 1, 0, 1001));
    }

    private static void fortyThatWaitRefuse() {
        Picture picture = new Picture(Shop.fortyWait(), 1);
        long token = Tokens.of(1, 0, 0);
        picture.refuses(FaceCall.NOT_NOW, new FaceCall("ask", 0, token, -1, 1, 0, 0));
        picture.refuses(FaceCall.NOT_NOW, new FaceCall("ask", 7, 0, 0, 1000, 8, -1));
        picture.refuses(FaceCall.NO_SUCH, new FaceCall("ask", 8, token, -1, 1, 0, 0));
        picture.refuses(FaceCall.NO_SUCH, new FaceCall("ask", 0, token, -1, 1, 9, 0));
        picture.refuses(FaceCall.NOT_AS_TOLD, new FaceCall("ask", 0, token + 1, -1, 1, 0, 0));
        picture.refuses(FaceCall.NOT_AS_TOLD, new FaceCall("ask", 0, token, 401, 1, 0, 0));
        picture.refuses(FaceCall.NOT_AS_TOLD, new FaceCall("ask", 0, token, -1, 1001, 0, 0));
    }

    /** None of them would wait; the one that would is refused, too. */
    private static void fiveHundredReadsRefuse() {
        Picture picture = new Picture(Shop.fullReads(), 1);
        picture.refuses(FaceCall.NOT_NOW, new FaceCall("ask", 0, 0, -1, 0, 0, 0));
        picture.refuses(FaceCall.NOT_NOW, new FaceCall("ask", 0, 0, 0, 0, 0, 0));
        picture.refuses(FaceCall.NOT_NOW, new FaceCall("ask", 0, 0, 0, 1, 0, 0));
        picture.refuses(FaceCall.NO_SUCH, new FaceCall("ask", 8, 0, -1, 0, 0, 0));
        picture.refuses(FaceCall.NOT_AS_TOLD, new FaceCall("ask", 0, 0, -2, 0, 0, 0));
    }
}
