/** Promises 24 to 26: copy, total, widened. */
public final class ColumnsTest {
    private static final int MIN = Integer.MIN_VALUE;
    private static final int MAX = Integer.MAX_VALUE;

    public static void main(String[] args) {
        copyBetweenColumnsOfEachKind();
        copyOverlaps();
        copyTellsItsCode();
        copyChecksTheParts();
        copyOfNoSuchColumn();
        totalOfEachKind();
        totalRoundsEachSum();
        totalOfWhatIsNoNumber();
        widenedForEachPair();
        widenedValues();
        widenedIsACopy();
        widenedRefuses();
        Check.end();
    }

    private static void copyBetweenColumnsOfEachKind() {
        for (int kind = 1; kind <= 8; kind++) {
            TypedColumns x = new TypedColumns();
            x.create(kind, 5);
            x.create(kind, 40);
            Kinds.writeOne(x, kind, 0, 1);
            Kinds.writeOne(x, kind, 0, 4);
            int[] before = Check.counts(x);
            Check.same("copy(0, 1, 1, 36, 4) of kind " + kind, x.copy(0, 1, 1, 36, 4), 0);
            Check.oneMore(x, "copy", before, 0);
            for (int i = 35; i < 40; i++) {
                Check.same("cell " + i + " then", x.readAny(1, i), i == 36 || i == 39 ? 1.0 : 0.0);
            }
            Check.same("the source then", x.readAny(0, 4), 1.0);
            Check.same("the total then", x.total(1), 2.0);
        }
    }

    private static TypedColumns ascending(int kind) {
        TypedColumns x = new TypedColumns();
        x.create(kind, 6);
        for (int i = 0; i < 6; i++) {
            x.writeAny(0, i, 2, i + 1);
        }
        return x;
    }

    private static void copyOverlaps() {
        for (int kind : new int[] {2, 4, 5, 6, 7, 8}) {
            TypedColumns up = ascending(kind);
            Check.same("copy(0, 0, 0, 2, 4)", up.copy(0, 0, 0, 2, 4), 0);
            TypedColumns down = ascending(kind);
            Check.same("copy(0, 2, 0, 0, 4)", down.copy(0, 2, 0, 0, 4), 0);
            double[] dueUp = {1, 2, 1, 2, 3, 4};
            double[] dueDown = {3, 4, 5, 6, 5, 6};
            for (int i = 0; i < 6; i++) {
                Check.same("cell " + i + " copied up", up.readAny(0, i), dueUp[i]);
                Check.same("cell " + i + " copied down", down.readAny(0, i), dueDown[i]);
            }
            Check.same("copy onto itself", up.copy(0, 0, 0, 0, 6), 0);
            Check.same("a cell copied onto itself", up.readAny(0, 5), 4.0);
        }
    }

    private static void copyTellsItsCode() {
        for (int from = 0; from <= 9; from++) {
            for (int to = 0; to <= 9; to++) {
                TypedColumns x = Kinds.store(3);
                for (int many : new int[] {-1, 0, 3, 4}) {
                    boolean fits = many == 0 || many == 3;
                    boolean alike = from == to && from != 9;
                    int due = from == 0 || to == 0 ? 1 : !alike ? 5 : fits ? 0 : 3;
                    String what = "copy(" + from + ", 0, " + to + ", 0, " + many + ")";
                    int[] before = Check.counts(x);
                    Check.same(what, x.copy(from, 0, to, 0, many), due);
                    Check.oneMore(x, what, before, due);
                }
            }
        }
    }

    private static void copyChecksTheParts() {
        int[] numbers = {MIN, MIN + 1, -1, 0, 1, 2, 3, 4, 5, 6, MAX - 1, MAX};
        for (int kind : new int[] {5, 8}) {
            for (int many : numbers) {
                TypedColumns x = new TypedColumns();
                x.create(kind, 3);
                x.create(kind, 5);
                for (int fromIndex : numbers) {
                    for (int toIndex : new int[] {MIN, -1, 0, 3, 5, 6, MAX}) {
                        boolean fits = fromIndex >= 0 && toIndex >= 0 && many >= 0
                                && (long) fromIndex + many <= 3 && (long) toIndex + many <= 5;
                        Check.same("copy(0, " + fromIndex + ", 1, " + toIndex + ", " + many + ")",
                                x.copy(0, fromIndex, 1, toIndex, many), fits ? 0 : 3);
                    }
                }
            }
        }
        TypedColumns x = ascending(5);
        x.create(5, 2);
        Check.same("a copy that goes beyond the target", x.copy(0, 0, 1, 0, 3), 3);
        Check.same("changes nothing", x.total(1), 0.0);
        x.create(5, 0);
        Check.same("copy(2, 0, 2, 0, 0) of an empty column", x.copy(2, 0, 2, 0, 0), 0);
        Check.same("copy(2, 1, 2, 0, 0) of an empty column", x.copy(2, 1, 2, 0, 0), 3);
    }

    private static void copyOfNoSuchColumn() {
        TypedColumns x = Kinds.store(3);
        x.total(9);
        for (int c : new int[] {-1, 10, 60, MIN, MAX}) {
            Check.refuses(x, "copy from " + c, () -> x.copy(c, 0, 5, 0, 1), IndexOutOfBoundsException.class);
            Check.refuses(x, "copy to " + c, () -> x.copy(5, 0, c, 0, 1), IndexOutOfBoundsException.class);
            Check.refuses(x, "copy from NOTHING to " + c, () -> x.copy(0, -1, c, 0, 1),
                    IndexOutOfBoundsException.class);
        }
    }

    private static void totalOfEachKind() {
        TypedColumns x = Kinds.store(40);
        for (int kind = 1; kind <= 8; kind++) {
            for (int i = 0; i < 40; i++) {
                Kinds.writeOne(x, kind, kind, i);
            }
            int[] before = Check.counts(x);
            Check.same("total(" + kind + ")", x.total(kind), 40.0);
            Check.oneMore(x, "total(" + kind + ")", before, 0);
        }
        int[] before = Check.counts(x);
        Check.same("total of NOTHING", x.total(0), 0.0);
        Check.oneMore(x, "total of NOTHING", before, 1);
        before = Check.counts(x);
        Check.same("total of a LABEL", x.total(9), 0.0);
        Check.oneMore(x, "total of a LABEL", before, 2);
        TypedColumns y = Kinds.store(0);
        Check.same("total of an empty column", y.total(8), 0.0);
        Check.same("its code", y.code(), 0);
        for (int c : new int[] {-1, 10, MIN, MAX}) {
            Check.refuses(y, "total(" + c + ")", () -> y.total(c), IndexOutOfBoundsException.class);
        }
    }

    private static double totalOf(double... values) {
        TypedColumns x = new TypedColumns();
        x.create(8, values.length);
        for (int i = 0; i < values.length; i++) {
            x.writeDouble(0, i, values[i]);
        }
        return x.total(0);
    }

    private static void totalRoundsEachSum() {
        Check.same("a total in ascending order", totalOf(1e16, 1, 1, -1e16), 0.0);
        Check.same("a total in another order", totalOf(1, 1, 1e16, -1e16), 2.0);
        Check.same("a total of tenths", totalOf(0.1, 0.2, 0.3), 0.6000000000000001);
        Check.same("a total of -0 begins with 0", totalOf(-0.0, -0.0), 0.0);
        Check.same("a total beyond the largest double", totalOf(1.7E308, 1.7E308), Double.POSITIVE_INFINITY);
        Check.same("a total of the largest doubles", totalOf(1.7976931348623157E308, -1.7976931348623157E308), 0.0);
        Check.same("a total of the smallest doubles", totalOf(-1.7976931348623157E308, 1.7976931348623157E308), 0.0);
        Check.same("a total of denormal numbers", totalOf(4.9E-324, 4.9E-324), 1.0E-323);
        TypedColumns x = new TypedColumns();
        x.create(6, 3);
        x.writeLong(0, 0, 9007199254740993L);
        x.writeLong(0, 1, 1);
        x.writeLong(0, 2, Long.MIN_VALUE + 1);
        Check.same("a total of LONGs", x.total(0), 9007199254740992.0 - 9223372036854775808.0);
        x.create(7, 2);
        x.writeFloat(1, 0, 16777216f);
        x.writeFloat(1, 1, 1f);
        Check.same("a total of FLOATs is a double", x.total(1), 16777217.0);
    }

    private static void totalOfWhatIsNoNumber() {
        double infinite = Double.POSITIVE_INFINITY;
        Check.same("a total with an infinite cell", totalOf(1, infinite, 2), infinite);
        Check.same("a total of infinite cells", totalOf(-infinite, -infinite), -infinite);
        Check.same("a total of infinity less infinity", totalOf(infinite, -infinite, 1), Double.NaN);
        Check.same("a total of what is no number", totalOf(1, Double.NaN, 2), Double.NaN);
        TypedColumns x = new TypedColumns();
        x.create(7, 3);
        x.writeFloat(0, 1, Float.NaN);
        Check.same("a total of FLOATs that is no number", x.total(0), Double.NaN);
    }

    private static void widenedForEachPair() {
        for (int length : new int[] {0, 3, 40}) {
            for (int from = 0; from <= 9; from++) {
                for (int to = 1; to <= 8; to++) {
                    TypedColumns x = Kinds.store(length);
                    String what = "widened(" + from + ", " + to + ")";
                    boolean granted = Kinds.widens(from, to);
                    int code = from == 0 ? 1 : from == 9 ? 2 : granted ? 0 : 4;
                    int[] before = Check.counts(x);
                    Check.same(what, x.widened(from, to), granted ? 10 : -1);
                    Check.oneMore(x, what, before, code);
                    Check.same("columnCount() after " + what, x.columnCount(), granted ? 11 : 10);
                    if (granted) {
                        Check.same("its kind", x.kind(10), to);
                        Check.same("its length", x.length(10), length);
                        Check.same("the old kind", x.kind(from), from);
                    }
                }
            }
        }
    }

    private static void widenedValues() {
        TypedColumns x = Kinds.store(3);
        x.writeLong(6, 0, (1L << 60) + (1L << 36) + 1);
        x.writeLong(6, 2, -9007199254740993L);
        int floats = x.widened(6, 7);
        Check.same("a LONG widened to FLOAT, rounded once", x.readFloat(floats, 0),
                (float) ((1L << 60) + (1L << 37)));
        int doubles = x.widened(6, 8);
        Check.same("a LONG widened to DOUBLE", x.readDouble(doubles, 2), -9007199254740992.0);
        x.writeChar(3, 1, 65535);
        Check.same("a CHAR widened to INT", x.readInt(x.widened(3, 5), 1), 65535);
        x.writeByte(2, 1, -128);
        Check.same("a BYTE widened to SHORT", x.readShort(x.widened(2, 4), 1), -128);
        x.writeBoolean(1, 2, true);
        Check.same("a BOOLEAN widened to BOOLEAN", x.readBoolean(x.widened(1, 1), 2), true);
        x.writeFloat(7, 0, -0f);
        x.writeFloat(7, 1, Float.NaN);
        x.writeFloat(7, 2, 0.1f);
        int wide = x.widened(7, 8);
        Check.same("-0 widened to DOUBLE", x.readDouble(wide, 0), -0.0);
        Check.same("what is no number widened to DOUBLE", x.readDouble(wide, 1), Double.NaN);
        Check.same("0.1f widened to DOUBLE", x.readDouble(wide, 2), (double) 0.1f);
        int same = x.widened(7, 7);
        Check.same("what is no number widened to FLOAT", x.readFloat(same, 1), Float.NaN);
    }

    private static void widenedIsACopy() {
        TypedColumns x = Kinds.store(2);
        x.writeInt(5, 0, 7);
        int wide = x.widened(5, 5);
        x.writeInt(5, 0, 8);
        x.writeInt(wide, 1, 9);
        Check.same("the new column keeps its cell", x.readInt(wide, 0), 7);
        Check.same("the old column keeps its cell", x.readInt(5, 1), 0);
    }

    private static void widenedRefuses() {
        TypedColumns x = Kinds.store(2);
        x.total(0);
        for (int c : new int[] {-1, 10, MIN, MAX}) {
            Check.refuses(x, "widened(" + c + ", 5)", () -> x.widened(c, 5), IndexOutOfBoundsException.class);
            Check.refuses(x, "widened(" + c + ", 0)", () -> x.widened(c, 0), IndexOutOfBoundsException.class);
        }
        for (int kind : new int[] {-1, 0, 9, 10, MIN, MAX}) {
            Check.refuses(x, "widened(5, " + kind + ")", () -> x.widened(5, kind), IllegalArgumentException.class);
            Check.refuses(x, "widened(0, " + kind + ")", () -> x.widened(0, kind), IllegalArgumentException.class);
        }
        for (int c = 10; c < 59; c++) {
            x.create(9, 0);
        }
        Check.same("widened as the last column", x.widened(5, 6), 59);
        Check.refuses(x, "widened(5, 6) when full", () -> x.widened(5, 6), IllegalStateException.class);
        Check.refuses(x, "widened(5, 2) when full", () -> x.widened(5, 2), IllegalStateException.class);
        Check.refuses(x, "widened(0, 5) when full", () -> x.widened(0, 5), IllegalStateException.class);
        Check.refuses(x, "widened(5, 9) when full", () -> x.widened(5, 9), IllegalArgumentException.class);
        Check.refuses(x, "widened(60, 9) when full", () -> x.widened(60, 9), IndexOutOfBoundsException.class);
    }
}
