/** Promises 6 to 14: the methods whose names begin with read. */
public final class ReadTest {
    private static final int MIN = Integer.MIN_VALUE;
    private static final int MAX = Integer.MAX_VALUE;

    public static void main(String[] args) {
        eachPairOfKinds();
        codesInTheirOrder();
        noSuchColumn();
        edgesOfTheIntegers();
        integersThatFloatAndDoubleCannotHold();
        floatsAndDoubles();
        anyIsTheOwnKind();
        Check.end();
    }

    private static void eachPairOfKinds() {
        for (int own = 1; own <= 8; own++) {
            TypedColumns x = Kinds.store(40);
            Kinds.writeOne(x, own, own, 39);
            for (int kind = 1; kind <= 8; kind++) {
                String what = "a cell of kind " + own + " read as " + kind;
                boolean granted = Kinds.widens(own, kind);
                int[] before = Check.counts(x);
                Check.same(what, Kinds.read(x, kind, own, 39), granted ? Kinds.one(kind) : Kinds.zero(kind));
                Check.oneMore(x, what, before, granted ? 0 : 4);
            }
        }
    }

    private static void codesInTheirOrder() {
        for (int own = 0; own <= 9; own++) {
            for (int kind = 1; kind <= 8; kind++) {
                TypedColumns x = Kinds.store(3);
                for (int i : new int[] {-1, 0, 2, 3, MIN, MAX}) {
                    String what = "cell " + i + " of kind " + own + " read as " + kind;
                    boolean inside = i >= 0 && i < 3;
                    int[] before = Check.counts(x);
                    Check.same(what, Kinds.read(x, kind, own, i), Kinds.zero(kind));
                    Check.oneMore(x, what, before,
                            own == 0 ? 1 : own == 9 ? 2 : !inside ? 3 : Kinds.widens(own, kind) ? 0 : 4);
                }
            }
        }
        TypedColumns y = Kinds.store(0);
        Check.same("a cell of an empty column", y.readInt(5, 0), 0);
        Check.same("its code", y.code(), 3);
    }

    private static void noSuchColumn() {
        TypedColumns x = Kinds.store(3);
        x.readInt(5, 3);
        for (int c : new int[] {-1, 10, 60, MIN, MAX}) {
            for (int kind = 1; kind <= 8; kind++) {
                int k = kind;
                Check.refuses(x, "column " + c + " read as " + kind,
                        () -> Kinds.read(x, k, c, 0), IndexOutOfBoundsException.class);
            }
            Check.refuses(x, "readAny(" + c + ", 0)", () -> x.readAny(c, 0), IndexOutOfBoundsException.class);
        }
    }

    private static void edgesOfTheIntegers() {
        TypedColumns x = Kinds.store(1);
        for (int value : new int[] {-128, -1, 127}) {
            x.writeByte(2, 0, value);
            Check.same("readByte", x.readByte(2, 0), value);
            Check.same("readShort of a BYTE", x.readShort(2, 0), value);
            Check.same("readInt of a BYTE", x.readInt(2, 0), value);
            Check.same("readLong of a BYTE", x.readLong(2, 0), (long) value);
            Check.same("readFloat of a BYTE", x.readFloat(2, 0), (float) value);
            Check.same("readDouble of a BYTE", x.readDouble(2, 0), (double) value);
        }
        for (int value : new int[] {32768, 65535}) {
            x.writeChar(3, 0, value);
            Check.same("readChar", x.readChar(3, 0), value);
            Check.same("readInt of a CHAR", x.readInt(3, 0), value);
            Check.same("readLong of a CHAR", x.readLong(3, 0), (long) value);
            Check.same("readFloat of a CHAR", x.readFloat(3, 0), (float) value);
            Check.same("readDouble of a CHAR", x.readDouble(3, 0), (double) value);
        }
        for (int value : new int[] {-32768, 32767}) {
            x.writeShort(4, 0, value);
            Check.same("readShort", x.readShort(4, 0), value);
            Check.same("readInt of a SHORT", x.readInt(4, 0), value);
            Check.same("readLong of a SHORT", x.readLong(4, 0), (long) value);
        }
        for (int value : new int[] {MIN, MAX}) {
            x.writeInt(5, 0, value);
            Check.same("readInt", x.readInt(5, 0), value);
            Check.same("readLong of an INT", x.readLong(5, 0), (long) value);
        }
        for (long value : new long[] {Long.MIN_VALUE, Long.MAX_VALUE}) {
            x.writeLong(6, 0, value);
            Check.same("readLong", x.readLong(6, 0), value);
        }
    }

    private static void integersThatFloatAndDoubleCannotHold() {
        TypedColumns x = Kinds.store(1);
        x.writeInt(5, 0, 16777219);
        Check.same("readFloat of 16777219", x.readFloat(5, 0), 16777220f);
        x.writeInt(5, 0, -16777217);
        Check.same("readFloat of -16777217", x.readFloat(5, 0), -16777216f);
        x.writeInt(5, 0, MAX);
        Check.same("readFloat of 2147483647", x.readFloat(5, 0), 2147483648f);
        Check.same("readDouble of 2147483647", x.readDouble(5, 0), 2147483647.0);
        x.writeLong(6, 0, 9007199254740993L);
        Check.same("readDouble of 2 to the power of 53, and 1", x.readDouble(6, 0), 9007199254740992.0);
        x.writeLong(6, 0, 9007199254740995L);
        Check.same("readDouble of 2 to the power of 53, and 3", x.readDouble(6, 0), 9007199254740996.0);
        x.writeLong(6, 0, Long.MAX_VALUE);
        Check.same("readDouble of the largest LONG", x.readDouble(6, 0), 9223372036854775808.0);
        Check.same("readFloat of the largest LONG", x.readFloat(6, 0), 9223372036854775808f);
        // one above the middle of two floats: by way of a double it would fall on the middle, and then down
        x.writeLong(6, 0, (1L << 60) + (1L << 36) + 1);
        Check.same("readFloat, rounded once", x.readFloat(6, 0), (float) ((1L << 60) + (1L << 37)));
    }

    private static void floatsAndDoubles() {
        TypedColumns x = Kinds.store(1);
        float[] floats = {-0f, 0f, 1.5f, 0.1f, -3.4028235E38f, 1.4E-45f, Float.POSITIVE_INFINITY,
            Float.NEGATIVE_INFINITY, Float.NaN};
        for (float value : floats) {
            x.writeFloat(7, 0, value);
            Check.same("readFloat of " + value, x.readFloat(7, 0), value);
            Check.same("readDouble of the float " + value, x.readDouble(7, 0), (double) value);
            Check.same("readAny of the float " + value, x.readAny(7, 0), (double) value);
        }
        double[] doubles = {-0d, 0d, 0.1, -1.7976931348623157E308, 4.9E-324, Double.POSITIVE_INFINITY,
            Double.NEGATIVE_INFINITY, Double.NaN};
        for (double value : doubles) {
            x.writeDouble(8, 0, value);
            Check.same("readDouble of " + value, x.readDouble(8, 0), value);
            Check.same("readAny of " + value, x.readAny(8, 0), value);
            Check.same("readFloat of the double " + value, x.readFloat(8, 0), 0f);
            Check.same("code()", x.code(), 4);
        }
    }

    private static void anyIsTheOwnKind() {
        TypedColumns x = Kinds.store(3);
        for (int own = 1; own <= 8; own++) {
            Kinds.writeOne(x, own, own, 2);
            int[] before = Check.counts(x);
            Check.same("readAny of kind " + own, x.readAny(own, 2), 1.0);
            Check.oneMore(x, "readAny of kind " + own, before, 0);
            Check.same("readAny of kind " + own, x.readAny(own, 1), 0.0);
            before = Check.counts(x);
            Check.same("readAny outside of kind " + own, x.readAny(own, 3), 0.0);
            Check.oneMore(x, "readAny outside of kind " + own, before, 3);
        }
        int[] before = Check.counts(x);
        Check.same("readAny of NOTHING", x.readAny(0, -1), 0.0);
        Check.oneMore(x, "readAny of NOTHING", before, 1);
        before = Check.counts(x);
        Check.same("readAny of a LABEL", x.readAny(9, -1), 0.0);
        Check.oneMore(x, "readAny of a LABEL", before, 2);
        x.writeLong(6, 0, Long.MIN_VALUE + 1);
        Check.same("readAny of a LONG that DOUBLE cannot hold", x.readAny(6, 0), -9223372036854775808.0);
        x.writeChar(3, 0, 65535);
        Check.same("readAny of a CHAR", x.readAny(3, 0), 65535.0);
    }
}
