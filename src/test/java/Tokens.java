/** Tokens as the document writes them, made without the class under test. */
final class Tokens {
    private Tokens() {
    }

    static long of(int position0, int position1, int position2) {
        return ofNumber(position0 + 512L * position1 + 262144L * position2);
    }

    static long ofNumber(long x) {
        return x * 1048576L + ((x * 0x9E3779B97F4A7C15L) >>> 44);
    }
}
