/** Promises 15 to 23: the methods whose names begin with write. */
public final class WriteTest {
    private static final int MIN = Integer.MIN_VALUE;
    private static final int MAX = Integer.MAX_VALUE;

    public static void main(String[] args) {
        eachPairOfKinds();
        codesInTheirOrder();
        aRefusedWriteChangesNoCell();
        noSuchColumn();
        theLowestBitsAreTaken();
        integersIntoFloatAndDouble();
        floatsIntoDouble();
        eachBitIsKept();
        booleans();
        anyMakesItsValue();
        anyRefuses();
        Check.end();
    }

    private static void eachPairOfKinds() {
        for (int own = 1; own <= 8; own++) {
            for (int kind = 1; kind <= 8; kind++) {
                TypedColumns x = Kinds.store(40);
                String what = "a value of kind " + kind + " written into kind " + own;
                boolean granted = Kinds.widens(kind, own);
                int[] before = Check.counts(x);
                Check.same(what, Kinds.writeOne(x, kind, own, 39), granted ? 0 : 4);
                Check.oneMore(x, what, before, granted ? 0 : 4);
                Check.same("the cell after " + what, Kinds.read(x, own, own, 39),
                        granted ? Kinds.one(own) : Kinds.zero(own));
                before = Check.counts(x);
                Check.same(what + " by writeAny", x.writeAny(own, 38, kind, 1), granted ? 0 : 4);
                Check.oneMore(x, what + " by writeAny", before, granted ? 0 : 4);
                Check.same("the cell after " + what + " by writeAny", Kinds.read(x, own, own, 38),
                        granted ? Kinds.one(own) : Kinds.zero(own));
                Check.same("the other cells", Kinds.read(x, own, own, 37), Kinds.zero(own));
            }
        }
    }

    private static void codesInTheirOrder() {
        for (int own = 0; own <= 9; own++) {
            for (int kind = 1; kind <= 8; kind++) {
                TypedColumns x = Kinds.store(3);
                for (int i : new int[] {-1, 0, 2, 3, MIN, MAX}) {
                    String what = "kind " + kind + " written into cell " + i + " of kind " + own;
                    boolean inside = i >= 0 && i < 3;
                    int due = own == 0 ? 1 : own == 9 ? 2 : !inside ? 3 : Kinds.widens(kind, own) ? 0 : 4;
                    int[] before = Check.counts(x);
                    Check.same(what, Kinds.writeOne(x, kind, own, i), due);
                    Check.oneMore(x, what, before, due);
                    before = Check.counts(x);
                    Check.same(what + " by writeAny", x.writeAny(own, i, kind, 1), due);
                    Check.oneMore(x, what + " by writeAny", before, due);
                }
            }
        }
    }

    private static void aRefusedWriteChangesNoCell() {
        TypedColumns x = Kinds.store(2);
        for (int own = 1; own <= 8; own++) {
            Kinds.writeOne(x, own, own, 0);
            for (int kind = 1; kind <= 8; kind++) {
                if (!Kinds.widens(kind, own)) {
                    x.writeAny(own, 0, kind, 0);
                    Check.same("a cell of kind " + own + " after a refused write", x.readAny(own, 0), 1.0);
                }
            }
        }
    }

    private static void noSuchColumn() {
        for (int c : new int[] {-1, 10, 60, MIN, MAX}) {
            TypedColumns x = Kinds.store(3);
            x.readInt(5, 3);
            for (int kind = 1; kind <= 8; kind++) {
                int k = kind;
                Check.refuses(x, "kind " + kind + " written into column " + c,
                        () -> Kinds.writeOne(x, k, c, 0), IndexOutOfBoundsException.class);
                Check.refuses(x, "kind " + kind + " written into column " + c + " by writeAny",
                        () -> x.writeAny(c, 0, k, 1), IndexOutOfBoundsException.class);
            }
        }
    }

    private static void theLowestBitsAreTaken() {
        TypedColumns x = Kinds.store(1);
        int[] values = {0, 1, -1, 127, 128, 255, 256, -129, 32767, 32768, 65535, 65536, -32769, 65601, MIN, MAX};
        for (int value : values) {
            x.writeByte(2, 0, value);
            Check.same("writeByte of " + value, x.readByte(2, 0), (int) (byte) value);
            x.writeByte(5, 0, value);
            Check.same("writeByte of " + value + " into an INT", x.readInt(5, 0), (int) (byte) value);
            x.writeChar(3, 0, value);
            Check.same("writeChar of " + value, x.readChar(3, 0), (int) (char) value);
            x.writeChar(6, 0, value);
            Check.same("writeChar of " + value + " into a LONG", x.readLong(6, 0), (long) (char) value);
            x.writeShort(4, 0, value);
            Check.same("writeShort of " + value, x.readShort(4, 0), (int) (short) value);
            x.writeShort(7, 0, value);
            Check.same("writeShort of " + value + " into a FLOAT", x.readFloat(7, 0), (float) (short) value);
            x.writeInt(5, 0, value);
            Check.same("writeInt of " + value, x.readInt(5, 0), value);
        }
    }

    private static void integersIntoFloatAndDouble() {
        TypedColumns x = Kinds.store(1);
        x.writeInt(7, 0, 16777217);
        Check.same("writeInt of 16777217 into a FLOAT", x.readFloat(7, 0), 16777216f);
        Check.same("and as DOUBLE", x.readDouble(7, 0), 16777216.0);
        x.writeInt(8, 0, 16777217);
        Check.same("writeInt of 16777217 into a DOUBLE", x.readDouble(8, 0), 16777217.0);
        x.writeLong(8, 0, 9007199254740993L);
        Check.same("writeLong into a DOUBLE", x.readDouble(8, 0), 9007199254740992.0);
        x.writeLong(7, 0, (1L << 60) + (1L << 36) + 1);
        Check.same("writeLong into a FLOAT, rounded once", x.readFloat(7, 0), (float) ((1L << 60) + (1L << 37)));
        x.writeLong(7, 0, Long.MIN_VALUE);
        Check.same("the smallest LONG into a FLOAT", x.readDouble(7, 0), -9223372036854775808.0);
        Check.same("a LONG into an INT", x.writeLong(5, 0, 1), 4);
        Check.same("a FLOAT into a LONG", x.writeFloat(6, 0, 1), 4);
    }

    private static void floatsIntoDouble() {
        TypedColumns x = Kinds.store(1);
        float[] floats = {-0f, 0f, 0.1f, -2.5f, 3.4028235E38f, 1.4E-45f, Float.POSITIVE_INFINITY,
            Float.NEGATIVE_INFINITY, Float.NaN};
        for (float value : floats) {
            Check.same("writeFloat into a DOUBLE", x.writeFloat(8, 0, value), 0);
            Check.same("the float " + value + " as DOUBLE", x.readDouble(8, 0), (double) value);
        }
        Check.same("writeDouble into a FLOAT", x.writeDouble(7, 0, 1.5), 4);
        Check.same("what is no number into a FLOAT as DOUBLE", x.writeDouble(7, 0, Double.NaN), 4);
        Check.same("the FLOAT then", x.readFloat(7, 0), 0f);
    }

    private static void eachBitIsKept() {
        TypedColumns x = Kinds.store(1);
        for (long value : new long[] {1234567890123456789L, -1, 1L << 32, Long.MIN_VALUE, Long.MAX_VALUE}) {
            x.writeLong(6, 0, value);
            Check.same("writeLong of " + value, x.readLong(6, 0), value);
        }
        for (float value : new float[] {0.1f, -0f, 3.4028235E38f, 1.4E-45f, Float.NEGATIVE_INFINITY, Float.NaN}) {
            x.writeFloat(7, 0, value);
            Check.same("writeFloat of " + value, x.readFloat(7, 0), value);
        }
        double[] doubles = {0.1, -0.0, 16777217.0, 1.7976931348623157E308, 4.9E-324, Double.POSITIVE_INFINITY,
            Double.NaN};
        for (double value : doubles) {
            x.writeDouble(8, 0, value);
            Check.same("writeDouble of " + value, x.readDouble(8, 0), value);
        }
    }

    private static void booleans() {
        TypedColumns x = Kinds.store(2);
        x.writeBoolean(1, 1, true);
        Check.same("a cell that is true", x.readBoolean(1, 1), true);
        Check.same("the cell beside it", x.readBoolean(1, 0), false);
        x.writeBoolean(1, 1, false);
        Check.same("a cell that is false again", x.readBoolean(1, 1), false);
    }

    private static void anyMakesItsValue() {
        TypedColumns x = Kinds.store(1);
        for (int value : new int[] {0, 1, -1, 2, 256, 65536, 65601, 16777217, MIN, MAX}) {
            x.writeAny(1, 0, 1, value);
            Check.same("writeAny of a BOOLEAN from " + value, x.readBoolean(1, 0), value != 0);
            x.writeAny(6, 0, 2, value);
            Check.same("writeAny of a BYTE from " + value, x.readLong(6, 0), (long) (byte) value);
            x.writeAny(6, 0, 3, value);
            Check.same("writeAny of a CHAR from " + value, x.readLong(6, 0), (long) (char) value);
            x.writeAny(6, 0, 4, value);
            Check.same("writeAny of a SHORT from " + value, x.readLong(6, 0), (long) (short) value);
            x.writeAny(6, 0, 5, value);
            Check.same("writeAny of an INT from " + value, x.readLong(6, 0), (long) value);
            x.writeAny(6, 0, 6, value);
            Check.same("writeAny of a LONG from " + value, x.readLong(6, 0), (long) value);
            x.writeAny(8, 0, 7, value);
            Check.same("writeAny of a FLOAT from " + value, x.readDouble(8, 0), (double) (float) value);
            x.writeAny(8, 0, 8, value);
            Check.same("writeAny of a DOUBLE from " + value, x.readDouble(8, 0), (double) value);
            x.writeAny(8, 0, 5, value);
            Check.same("writeAny of an INT into a DOUBLE from " + value, x.readDouble(8, 0), (double) value);
        }
    }

    private static void anyRefuses() {
        TypedColumns x = Kinds.store(3);
        x.writeInt(5, 0, 3);
        for (int kind : new int[] {-1, 0, 9, 10, MIN, MAX}) {
            Check.refuses(x, "writeAny(5, 0, " + kind + ", 1)",
                    () -> x.writeAny(5, 0, kind, 1), IllegalArgumentException.class);
            Check.refuses(x, "writeAny(0, 9, " + kind + ", 1)",
                    () -> x.writeAny(0, 9, kind, 1), IllegalArgumentException.class);
            Check.refuses(x, "writeAny(10, 0, " + kind + ", 1)",
                    () -> x.writeAny(10, 0, kind, 1), IndexOutOfBoundsException.class);
        }
        Check.same("the cell then", x.readInt(5, 0), 3);
    }
}
