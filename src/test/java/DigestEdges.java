import java.math.BigInteger;

/** The boundary cases of promise 32, digest. */
final class DigestEdges {
    private static final String BITS = "a FLOAT or DOUBLE converted to DOUBLE, whose 64 bits are taken as an integer";
    private static final String NO_NUMBER = "what is no number has the bits 0x7ff8000000000000";

    private DigestEdges() {
    }

    static void run(Edges edges) {
        columns(edges);
        integers(edges);
        doubles(edges);
        floats(edges);
        counts(edges);
        wrapsAround(edges);
        edges.promise(32, "Computes a checksum.", "it changes nothing and is no access", () -> {
            TypedColumns x = Kinds.filled(2);
            x.copy(5, 0, 6, 0, 1);
            int[] before = Check.counts(x);
            long digest = x.digest();
            Check.same("digest() once more", x.digest(), digest);
            Check.same("code() then", x.code(), 5);
            for (int k = 0; k <= 5; k++) {
                Check.same("count(" + k + ") then", x.count(k), before[k]);
            }
        });
        edges.promise(32, "Returns d.", "a call that is refused with a code is counted in it", () -> {
            TypedColumns x = new TypedColumns();
            x.create(5, 1);
            x.writeDouble(0, 0, 1);
            Check.same("digest()", x.digest(), digestOf(1, 5, 1, 0, 0, 0, 0, 0, 1, 0));
        });
    }

    /** The digest of some numbers, computed without a bound and cut to 64 bits at its end. */
    static long digestOf(long... numbers) {
        BigInteger d = BigInteger.valueOf(53);
        for (long number : numbers) {
            d = d.multiply(BigInteger.valueOf(31)).add(BigInteger.valueOf(number));
        }
        return d.longValue();
    }

    private static void columns(Edges edges) {
        edges.promise(32, "A number d starts with 53", "a new object", () ->
                Check.same("digest()", new TypedColumns().digest(), digestOf(0, 0, 0, 0, 0, 0, 0)));
        edges.promise(32, "its length (-1 if it has none)", "NOTHING and LABEL, whatever their length", () -> {
            for (int length : new int[] {Integer.MIN_VALUE, -1, 0, 40, Integer.MAX_VALUE}) {
                TypedColumns x = new TypedColumns();
                x.create(0, length);
                x.create(9, length);
                Check.same("digest()", x.digest(), digestOf(2, 0, -1, 9, -1, 0, 0, 0, 0, 0, 0));
            }
        });
        edges.promise(32, "its length (-1 if it has none)", "columns with length 0", () -> {
            TypedColumns x = new TypedColumns();
            for (int kind = Kinds.BOOLEAN; kind <= Kinds.DOUBLE; kind++) {
                x.create(kind, 0);
            }
            Check.same("digest()", x.digest(), digestOf(8, 1, 0, 2, 0, 3, 0, 4, 0, 5, 0, 6, 0, 7, 0, 8, 0,
                    0, 0, 0, 0, 0, 0));
        });
        edges.promise(32, "the number of columns; for each column its kind", "60 columns of 40 cells", () -> {
            TypedColumns x = new TypedColumns();
            long[] numbers = new long[1 + 60 * 42 + 6];
            numbers[0] = 60;
            for (int c = 0; c < 60; c++) {
                int kind = 1 + c % 8;
                x.create(kind, 40);
                Kinds.writeOne(x, kind, c, 39);
                numbers[1 + c * 42] = kind;
                numbers[2 + c * 42] = 40;
                numbers[42 + c * 42] = kind < 7 ? 1 : 0x3ff0000000000000L;
            }
            numbers[numbers.length - 6] = 60;
            Check.same("digest()", x.digest(), digestOf(numbers));
        });
        edges.promise(32, "the number of columns", "a column that widened made is one of them", () -> {
            TypedColumns x = new TypedColumns();
            x.create(2, 1);
            x.writeByte(0, 0, -1);
            x.widened(0, 8);
            Check.same("digest()", x.digest(), digestOf(2, 2, 1, -1, 8, 1, 0xbff0000000000000L, 2, 0, 0, 0, 0, 0));
        });
    }

    private static void integer(int kind, long value, long due) {
        TypedColumns x = new TypedColumns();
        x.create(kind, 1);
        Kinds.write(x, kind, 0, 0, value);
        Check.same("digest() with " + value + " of kind " + kind, x.digest(),
                digestOf(1, kind, 1, due, 1, 0, 0, 0, 0, 0));
    }

    private static void integers(Edges edges) {
        edges.promise(32, "false 0, true 1", "both", () -> {
            integer(1, 0, 0);
            integer(1, 1, 1);
        });
        edges.promise(32, "an integer itself", "the smallest and the largest of each kind", () -> {
            integer(2, -128, -128);
            integer(2, 127, 127);
            integer(3, 0, 0);
            integer(3, 65535, 65535);
            integer(4, -32768, -32768);
            integer(4, 32767, 32767);
            integer(5, Integer.MIN_VALUE, Integer.MIN_VALUE);
            integer(5, Integer.MAX_VALUE, Integer.MAX_VALUE);
            integer(6, Long.MIN_VALUE, Long.MIN_VALUE);
            integer(6, Long.MAX_VALUE, Long.MAX_VALUE);
        });
        edges.promise(32, "an integer itself", "one that no double holds", () ->
                integer(6, 9007199254740993L, 9007199254740993L));
    }

    private static void real(double value, long bits) {
        TypedColumns x = new TypedColumns();
        x.create(8, 1);
        x.writeDouble(0, 0, value);
        Check.same("digest() with the double " + value, x.digest(), digestOf(1, 8, 1, bits, 1, 0, 0, 0, 0, 0));
    }

    private static void doubles(Edges edges) {
        edges.promise(32, "0 and -0 have different bits", "as DOUBLE", () -> {
            real(0.0, 0);
            real(-0.0, 0x8000000000000000L);
        });
        edges.promise(32, NO_NUMBER, "as DOUBLE, whatever its bits were", () -> {
            real(Double.NaN, 0x7ff8000000000000L);
            real(Double.longBitsToDouble(0xfff8000000000001L), 0x7ff8000000000000L);
            real(Double.longBitsToDouble(0x7ff0000000000001L), 0x7ff8000000000000L);
        });
        edges.promise(32, BITS, "infinity", () -> {
            real(Double.POSITIVE_INFINITY, 0x7ff0000000000000L);
            real(Double.NEGATIVE_INFINITY, 0xfff0000000000000L);
        });
        edges.promise(32, BITS, "the largest", () -> {
            real(1.7976931348623157E308, 0x7fefffffffffffffL);
            real(-1.7976931348623157E308, 0xffefffffffffffffL);
        });
        edges.promise(32, BITS, "the smallest, and where the leading 1 is lost", () -> {
            real(4.9E-324, 1);
            real(-4.9E-324, 0x8000000000000001L);
            real(2.225073858507201E-308, 0x000fffffffffffffL);
            real(-2.225073858507201E-308, 0x800fffffffffffffL);
            real(2.2250738585072014E-308, 0x0010000000000000L);
            real(2.225073858507202E-308, 0x0010000000000001L);
        });
        edges.promise(32, BITS, "beside powers of two", () -> {
            real(1.0, 0x3ff0000000000000L);
            real(-1.0, 0xbff0000000000000L);
            real(1.0000000000000002, 0x3ff0000000000001L);
            real(0.9999999999999999, 0x3fefffffffffffffL);
            real(2.0, 0x4000000000000000L);
            real(0.1, 0x3fb999999999999aL);
        });
        edges.promise(32, BITS, "each power of two, and the double before it", () -> {
            for (long exponent = 1; exponent < 2047; exponent++) {
                long bits = exponent << 52;
                real(Double.longBitsToDouble(bits), bits);
                real(Double.longBitsToDouble(bits - 1), bits - 1);
            }
        });
    }

    private static void small(float value, long bits) {
        TypedColumns x = new TypedColumns();
        x.create(7, 1);
        x.writeFloat(0, 0, value);
        Check.same("digest() with the float " + value, x.digest(), digestOf(1, 7, 1, bits, 1, 0, 0, 0, 0, 0));
    }

    private static void floats(Edges edges) {
        edges.promise(32, "0 and -0 have different bits", "as FLOAT", () -> {
            small(0f, 0);
            small(-0f, 0x8000000000000000L);
        });
        edges.promise(32, NO_NUMBER, "as FLOAT, whatever its bits were", () -> {
            small(Float.NaN, 0x7ff8000000000000L);
            small(Float.intBitsToFloat(0xffc00001), 0x7ff8000000000000L);
            small(Float.intBitsToFloat(0x7f800001), 0x7ff8000000000000L);
        });
        edges.promise(32, BITS, "a FLOAT is converted first", () -> {
            small(1.5f, 0x3ff8000000000000L);
            small(0.1f, 0x3fb99999a0000000L);
            small(1.4E-45f, 0x36a0000000000000L);
            small(3.4028235E38f, 0x47efffffe0000000L);
            small(Float.NEGATIVE_INFINITY, 0xfff0000000000000L);
        });
        edges.promise(32, BITS, "an INT that became a FLOAT or a DOUBLE", () -> {
            TypedColumns x = Kinds.store(1);
            x.writeInt(7, 0, 16777217);
            x.writeInt(8, 0, 16777217);
            Check.same("digest()", x.digest(), digestOf(10, 0, -1, 1, 1, 0, 2, 1, 0, 3, 1, 0, 4, 1, 0, 5, 1, 0,
                    6, 1, 0, 7, 1, 0x4170000000000000L, 8, 1, 0x4170000010000000L, 9, -1, 2, 0, 0, 0, 0, 0));
        });
    }

    private static void counts(Edges edges) {
        edges.promise(32, "the counts of the codes 0 to 5", "each has its own place", () -> {
            for (int code = 0; code <= 5; code++) {
                TypedColumns x = new TypedColumns();
                x.create(5, 0);
                x.create(0, 0);
                x.create(9, 0);
                long[] due = {3, 5, 0, 0, -1, 9, -1, 0, 0, 0, 0, 0, 0};
                due[7 + code] = code + 1;
                for (int k = 0; k <= code; k++) {
                    switch (code) {
                        case 0: x.length(0); break;
                        case 1: x.length(1); break;
                        case 2: x.length(2); break;
                        case 3: x.readInt(0, 0); break;
                        case 4: x.widened(0, 4); break;
                        default: x.copy(0, 0, 2, 0, 0);
                    }
                }
                Check.same("digest() with code " + code, x.digest(), digestOf(due));
            }
        });
        edges.promise(32, "the counts of the codes 0 to 5", "a call that throws is in none of them", () -> {
            TypedColumns x = new TypedColumns();
            Check.answers("readInt(0, 0)", () -> x.readInt(0, 0), "throws.IndexOutOfBoundsException");
            Check.answers("create(10, 0)", () -> x.create(10, 0), "throws.IllegalArgumentException");
            Check.same("digest()", x.digest(), digestOf(0, 0, 0, 0, 0, 0, 0));
        });
    }

    private static void wrapsAround(Edges edges) {
        String words = "d becomes d * 31 + x, which wraps around as a 64-bit integer";
        edges.promise(32, words, "far beyond 64 bits, upwards", () -> {
            TypedColumns x = new TypedColumns();
            x.create(6, 40);
            long[] due = new long[9 + 40];
            due[0] = 1;
            due[1] = 6;
            due[2] = 40;
            for (int i = 0; i < 40; i++) {
                x.writeLong(0, i, Long.MAX_VALUE);
                due[3 + i] = Long.MAX_VALUE;
            }
            due[43] = 40;
            Check.same("digest()", x.digest(), digestOf(due));
        });
        edges.promise(32, words, "far beyond 64 bits, downwards", () -> {
            TypedColumns x = new TypedColumns();
            x.create(6, 2);
            x.writeLong(0, 0, Long.MIN_VALUE);
            x.writeLong(0, 1, Long.MIN_VALUE + 1);
            Check.same("digest()", x.digest(),
                    digestOf(1, 6, 2, Long.MIN_VALUE, Long.MIN_VALUE + 1, 2, 0, 0, 0, 0, 0));
        });
    }
}
