/** Promise 32: digest. */
public final class DigestTest {
    public static void main(String[] args) {
        aNewObject();
        eachKindByHand();
        theCountsOfTheCodes();
        bitsOfDoubles();
        bitsOfFloats();
        manyBitPatterns();
        Check.end();
    }

    private static long digestOf(long... numbers) {
        long d = 53;
        for (long x : numbers) {
            d = d * 31 + x;
        }
        return d;
    }

    private static void aNewObject() {
        TypedColumns x = new TypedColumns();
        Check.same("digest() of a new object", x.digest(), digestOf(0, 0, 0, 0, 0, 0, 0));
        Check.same("digest() once more", x.digest(), digestOf(0, 0, 0, 0, 0, 0, 0));
    }

    private static void eachKindByHand() {
        TypedColumns x = Kinds.store(2);
        x.writeBoolean(1, 1, true);
        x.writeByte(2, 0, -2);
        x.writeChar(3, 0, 65535);
        x.writeShort(4, 1, -32768);
        x.writeInt(5, 0, Integer.MIN_VALUE);
        x.writeLong(6, 1, Long.MIN_VALUE);
        x.writeFloat(7, 0, 1.5f);
        x.writeDouble(8, 1, -2);
        Check.same("digest() of each kind", x.digest(), digestOf(10,
                0, -1,
                1, 2, 0, 1,
                2, 2, -2, 0,
                3, 2, 65535, 0,
                4, 2, 0, -32768,
                5, 2, Integer.MIN_VALUE, 0,
                6, 2, 0, Long.MIN_VALUE,
                7, 2, 0x3ff8000000000000L, 0,
                8, 2, 0, 0xc000000000000000L,
                9, -1,
                8, 0, 0, 0, 0, 0));
    }

    private static void theCountsOfTheCodes() {
        TypedColumns x = new TypedColumns();
        x.create(5, 0);
        x.create(0, 7);
        x.create(9, 7);
        x.length(0);
        for (int k = 0; k < 2; k++) {
            x.length(1);
        }
        for (int k = 0; k < 3; k++) {
            x.length(2);
        }
        for (int k = 0; k < 4; k++) {
            x.readInt(0, 0);
        }
        for (int k = 0; k < 5; k++) {
            x.widened(0, 1);
        }
        for (int k = 0; k < 6; k++) {
            x.copy(0, 0, 2, 0, 0);
        }
        Check.same("digest() with counts", x.digest(), digestOf(3, 5, 0, 0, -1, 9, -1, 1, 2, 3, 4, 5, 6));
    }

    private static void checkDouble(double value) {
        TypedColumns x = new TypedColumns();
        x.create(8, 1);
        x.writeDouble(0, 0, value);
        Check.same("digest() with the double " + value, x.digest(),
                digestOf(1, 8, 1, Double.doubleToLongBits(value), 1, 0, 0, 0, 0, 0));
    }

    private static void checkFloat(float value) {
        TypedColumns x = new TypedColumns();
        x.create(7, 1);
        x.writeFloat(0, 0, value);
        Check.same("digest() with the float " + value, x.digest(),
                digestOf(1, 7, 1, Double.doubleToLongBits(value), 1, 0, 0, 0, 0, 0));
    }

    private static void bitsOfDoubles() {
        double[] values = {0.0, 1, 2, 3, 0.5, 0.1, Math.PI, 1e16, 1e-16, 1.7976931348623157E308,
            8.98846567431158E307, 2.2250738585072014E-308, 2.225073858507201E-308, 4.9E-324, 1.0E-323,
            Double.POSITIVE_INFINITY, 9007199254740992.0, 9007199254740991.0, 0.9999999999999999, 1.9999999999999998};
        for (double value : values) {
            checkDouble(value);
            checkDouble(-value);
        }
        for (int exponent = Double.MIN_EXPONENT; exponent <= Double.MAX_EXPONENT; exponent++) {
            checkDouble(Math.scalb(1.0, exponent));
            checkDouble(Math.scalb(-1.9999999999999998, exponent));
        }
        for (int bit = 0; bit < 52; bit++) {
            checkDouble(Double.longBitsToDouble(1L << bit));
            checkDouble(Double.longBitsToDouble((1L << 63) | (1L << bit) | 1));
        }
        checkDouble(Double.NaN);
        checkDouble(Double.longBitsToDouble(0xfff8000000000001L));
    }

    private static void bitsOfFloats() {
        float[] values = {0f, 1f, 0.1f, 3.4028235E38f, 1.4E-45f, 1.17549435E-38f, Float.POSITIVE_INFINITY};
        for (float value : values) {
            checkFloat(value);
            checkFloat(-value);
        }
        checkFloat(Float.NaN);
        checkFloat(Float.intBitsToFloat(0xffc00001));
    }

    private static void manyBitPatterns() {
        long bits = 1;
        for (int k = 0; k < 20000; k++) {
            bits = bits * 6364136223846793005L + 1442695040888963407L;
            checkDouble(Double.longBitsToDouble(bits));
            checkFloat(Float.intBitsToFloat((int) (bits >>> 32)));
        }
    }
}
