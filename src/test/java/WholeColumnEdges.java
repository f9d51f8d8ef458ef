/** The boundary cases of promises 25 and 26, total and widened. */
final class WholeColumnEdges {
    private static final int MIN = Integer.MIN_VALUE;
    private static final int MAX = Integer.MAX_VALUE;
    private static final double INFINITE = Double.POSITIVE_INFINITY;
    private static final double LARGEST = 1.7976931348623157E308;

    private WholeColumnEdges() {
    }

    static void run(Edges edges) {
        totalOfKinds(edges);
        totalOfDoubles(edges);
        totalRefused(edges);
        edges.noSuchColumn(25, (x, c) -> x.total(c));
        widenedGranted(edges);
        widenedValues(edges);
        widenedRefused(edges);
        widenedThrows(edges);
        edges.noSuchColumn(26, (x, c) -> x.widened(c, 5));
        edges.noSuchColumn(26, ", and the kind is wrong too", (x, c) -> x.widened(c, 0));
    }

    private static void totalOfKinds(Edges edges) {
        for (int kind = Kinds.BOOLEAN; kind <= Kinds.DOUBLE; kind++) {
            int k = kind;
            edges.promise(25, "Adds up all cells", "none, one and 40 cells of kind " + k, () -> {
                for (int length : new int[] {0, 1, 40}) {
                    TypedColumns x = new TypedColumns();
                    x.create(k, length);
                    Check.countsOnly(x, "total of " + length + " zeros", () -> x.total(0), 0.0, 0);
                    for (int i = 0; i < length; i++) {
                        Kinds.writeOne(x, k, 0, i);
                    }
                    Check.countsOnly(x, "total of " + length + " ones", () -> x.total(0), (double) length, 0);
                }
            });
            edges.promise(25, "Adds up all cells", "the first and the last of 40 cells of kind " + k, () -> {
                TypedColumns x = new TypedColumns();
                x.create(k, 40);
                Kinds.writeOne(x, k, 0, 0);
                Check.same("total with the first", x.total(0), 1.0);
                Kinds.writeOne(x, k, 0, 39);
                Check.same("total with the last", x.total(0), 2.0);
            });
        }
        edges.promise(25, "false is 0, true is 1", "both", () -> {
            TypedColumns x = Kinds.store(3);
            Check.same("three times false", x.total(1), 0.0);
            x.writeBoolean(1, 1, true);
            Check.same("once true", x.total(1), 1.0);
            x.writeBoolean(1, 2, true);
            Check.same("twice true", x.total(1), 2.0);
        });
        edges.promise(25, "each one converted to a double", "sums that the kind itself cannot hold", () -> {
            Check.same("BYTEs", totalOf(2, 127, 127), 254.0);
            Check.same("negative BYTEs", totalOf(2, -128, -128), -256.0);
            Check.same("CHARs", totalOf(3, 65535, 65535), 131070.0);
            Check.same("SHORTs", totalOf(4, -32768, -32768), -65536.0);
            Check.same("INTs", totalOf(5, MAX, MAX), 4294967294.0);
            Check.same("negative INTs", totalOf(5, MIN, MIN), -4294967296.0);
            Check.same("LONGs", totalOf(6, Long.MAX_VALUE, Long.MAX_VALUE), 18446744073709551616.0);
            Check.same("FLOATs", totalOf(7, 16777216, 1), 16777217.0);
        });
        edges.promise(25, "an integer that DOUBLE cannot hold becomes the nearest one", "before it is added", () -> {
            Check.same("one", totalOf(6, 9007199254740993L), 9007199254740992.0);
            Check.same("another", totalOf(6, 9007199254740995L), 9007199254740996.0);
            Check.same("with 1", totalOf(6, 9007199254740993L, 1), 9007199254740992.0);
            Check.same("with 1 before", totalOf(6, 1, 9007199254740993L), 9007199254740992.0);
            Check.same("two, whose sum is 1", totalOf(6, -9007199254740992L, 9007199254740993L), 0.0);
        });
    }

    private static double totalOf(int kind, long... values) {
        TypedColumns x = new TypedColumns();
        x.create(kind, values.length);
        for (int i = 0; i < values.length; i++) {
            Kinds.write(x, kind, 0, i, values[i]);
        }
        return x.total(0);
    }

    private static double totalOfDoubles(double... values) {
        TypedColumns x = new TypedColumns();
        x.create(8, values.length);
        for (int i = 0; i < values.length; i++) {
            x.writeDouble(0, i, values[i]);
        }
        return x.total(0);
    }

    private static void totalOfDoubles(Edges edges) {
        edges.promise(25, "in ascending order", "the order is seen in the sum", () -> {
            Check.same("the large ones outside", totalOfDoubles(1e16, 1, 1, -1e16), 0.0);
            Check.same("the large ones last", totalOfDoubles(1, 1, 1e16, -1e16), 2.0);
            Check.same("the large ones first", totalOfDoubles(1e16, -1e16, 1, 1), 2.0);
        });
        edges.promise(25, "starting with 0", "the sum of -0 alone is 0", () -> {
            Check.same("-0", totalOfDoubles(-0.0), 0.0);
            Check.same("-0 three times", totalOfDoubles(-0.0, -0.0, -0.0), 0.0);
            TypedColumns x = new TypedColumns();
            x.create(7, 1);
            x.writeFloat(0, 0, -0f);
            Check.same("-0 as FLOAT", x.total(0), 0.0);
        });
        edges.promise(25, "each sum rounded to the nearest double", "also one that another sum would mend", () -> {
            Check.same("tenths", totalOfDoubles(0.1, 0.2, 0.3), 0.6000000000000001);
            Check.same("2 to the power of 53, and 1 twice", totalOfDoubles(9007199254740992.0, 1, 1),
                    9007199254740992.0);
            Check.same("1 twice, and 2 to the power of 53", totalOfDoubles(1, 1, 9007199254740992.0),
                    9007199254740994.0);
        });
        edges.promise(25, "each sum rounded to the nearest double", "the largest and the smallest", () -> {
            Check.same("the largest twice", totalOfDoubles(LARGEST, LARGEST), INFINITE);
            Check.same("the largest twice, and less", totalOfDoubles(LARGEST, LARGEST, -LARGEST), INFINITE);
            Check.same("the largest negative twice", totalOfDoubles(-LARGEST, -LARGEST), -INFINITE);
            Check.same("the largest and its negative", totalOfDoubles(LARGEST, -LARGEST), 0.0);
            Check.same("the negative and its largest", totalOfDoubles(-LARGEST, LARGEST), 0.0);
            Check.same("the largest, and what is too small for it", totalOfDoubles(LARGEST, 1e291), LARGEST);
            Check.same("the smallest twice", totalOfDoubles(4.9E-324, 4.9E-324), 1.0E-323);
            Check.same("the smallest and its negative", totalOfDoubles(4.9E-324, -4.9E-324), 0.0);
        });
        edges.promise(25, "Returns the sum", "infinite cells", () -> {
            Check.same("infinity", totalOfDoubles(1, INFINITE, 2), INFINITE);
            Check.same("infinity twice", totalOfDoubles(INFINITE, INFINITE), INFINITE);
            Check.same("minus infinity", totalOfDoubles(-INFINITE, LARGEST), -INFINITE);
            Check.same("infinity and minus infinity", totalOfDoubles(INFINITE, -INFINITE), Double.NaN);
            Check.same("minus infinity and infinity", totalOfDoubles(-INFINITE, INFINITE, 1), Double.NaN);
            Check.same("a sum that became infinity, and minus infinity",
                    totalOfDoubles(LARGEST, LARGEST, -INFINITE), Double.NaN);
        });
        edges.promise(25, "Returns the sum", "cells that are no number", () -> {
            Check.same("the first", totalOfDoubles(Double.NaN, 1), Double.NaN);
            Check.same("the last", totalOfDoubles(1, Double.NaN), Double.NaN);
            Check.same("beside infinity", totalOfDoubles(INFINITE, Double.NaN, -INFINITE), Double.NaN);
            TypedColumns x = new TypedColumns();
            x.create(7, 2);
            x.writeFloat(0, 1, Float.NaN);
            Check.countsOnly(x, "total of FLOATs", () -> x.total(0), Double.NaN, 0);
        });
    }

    private static void totalRefused(Edges edges) {
        edges.promise(25, "0 if it is refused (code 1 or 2)", "the column is NOTHING", () -> {
            TypedColumns x = Kinds.filled(2);
            Check.countsOnly(x, "total(0)", () -> x.total(0), 0.0, 1);
        });
        edges.promise(25, "0 if it is refused (code 1 or 2)", "the column is a LABEL", () -> {
            TypedColumns x = Kinds.filled(2);
            Check.countsOnly(x, "total(9)", () -> x.total(9), 0.0, 2);
        });
        edges.promise(25, "0 if it is refused (code 1 or 2)", "a column with length 0 is not refused", () -> {
            TypedColumns x = Kinds.store(0);
            for (int kind = Kinds.BOOLEAN; kind <= Kinds.DOUBLE; kind++) {
                int k = kind;
                Check.countsOnly(x, "total(" + k + ")", () -> x.total(k), 0.0, 0);
            }
        });
    }

    private static void widenedGranted(Edges edges) {
        for (int from = Kinds.BOOLEAN; from <= Kinds.DOUBLE; from++) {
            for (int to = Kinds.BOOLEAN; to <= Kinds.DOUBLE; to++) {
                if (Kinds.widens(from, to)) {
                    int f = from;
                    int t = to;
                    edges.promise(26, "Creates a column of another kind with the same values, widened.",
                            "no, one and 40 cells of kind " + from + " to kind " + to, () -> {
                                for (int length : new int[] {0, 1, 40}) {
                                    widenedOnes(f, t, length);
                                }
                            });
                }
            }
        }
        edges.promise(26, "Creates a column of another kind with the same values, widened.",
                "the two columns are apart, also if their kind is the same", () -> {
                    for (int kind = Kinds.BOOLEAN; kind <= Kinds.DOUBLE; kind++) {
                        TypedColumns x = Kinds.store(2);
                        Check.same("widened", x.widened(kind, kind), 10);
                        Kinds.writeOne(x, kind, kind, 0);
                        Kinds.writeOne(x, kind, 10, 1);
                        Check.same("the new column", x.readAny(10, 0), 0.0);
                        Check.same("the old column", x.readAny(kind, 1), 0.0);
                    }
                });
        edges.promise(26, "Returns the number of the new column", "the last one that there can be", () -> {
            TypedColumns x = new TypedColumns();
            x.create(5, 2);
            for (int c = 1; c < 59; c++) {
                x.create(9, 0);
            }
            Check.same("widened(0, 6), the 60th", x.widened(0, 6), 59);
            Check.same("code()", x.code(), 0);
            Check.same("kind(59)", x.kind(59), 6);
            Check.same("columnCount()", x.columnCount(), 60);
        });
        edges.promise(26, "Returns the number of the new column", "the next after those that create made", () -> {
            TypedColumns x = new TypedColumns();
            x.create(2, 2);
            Check.same("widened(0, 4)", x.widened(0, 4), 1);
            Check.same("widened(1, 8)", x.widened(1, 8), 2);
            Check.same("create(0, 0)", x.create(0, 0), 3);
            Check.same("widened(0, 2)", x.widened(0, 2), 4);
            Check.same("count(0)", x.count(0), 3);
        });
    }

    private static void widenedOnes(int from, int to, int length) {
        TypedColumns x = new TypedColumns();
        x.create(from, length);
        for (int i = 0; i < length; i += 3) {
            Kinds.writeOne(x, from, 0, i);
        }
        int[] before = Check.counts(x);
        Check.same("widened(0, " + to + ")", x.widened(0, to), 1);
        Check.oneMore(x, "widened", before, 0);
        Check.same("columnCount()", x.columnCount(), 2);
        Check.same("its kind", x.kind(1), to);
        Check.same("its length", x.length(1), length);
        Check.same("the old kind", x.kind(0), from);
        for (int i = 0; i < length; i++) {
            Check.same("new cell " + i, Kinds.read(x, to, 1, i), i % 3 == 0 ? Kinds.one(to) : Kinds.zero(to));
            Check.same("old cell " + i, Kinds.read(x, from, 0, i), i % 3 == 0 ? Kinds.one(from) : Kinds.zero(from));
        }
    }

    /** The cell of a column of a kind that widened makes of a column with an integer. */
    private static Object widened(int from, long value, int to) {
        TypedColumns x = new TypedColumns();
        x.create(from, 1);
        Kinds.write(x, from, 0, 0, value);
        return Kinds.read(x, to, x.widened(0, to), 0);
    }

    private static void widenedValues(Edges edges) {
        String words = "with the same values, widened";
        edges.promise(26, words, "the smallest and the largest integers", () -> {
            Check.same("BYTE to SHORT", widened(2, -128, 4), -128);
            Check.same("BYTE to DOUBLE", widened(2, 127, 8), 127.0);
            Check.same("CHAR to INT", widened(3, 65535, 5), 65535);
            Check.same("CHAR to FLOAT", widened(3, 65535, 7), 65535f);
            Check.same("SHORT to LONG", widened(4, -32768, 6), -32768L);
            Check.same("INT to LONG", widened(5, MIN, 6), (long) MIN);
            Check.same("INT to DOUBLE", widened(5, MAX, 8), 2147483647.0);
            Check.same("LONG to LONG", widened(6, Long.MIN_VALUE, 6), Long.MIN_VALUE);
            Check.same("LONG to LONG", widened(6, Long.MAX_VALUE, 6), Long.MAX_VALUE);
            Check.same("LONG to LONG", widened(6, 9007199254740993L, 6), 9007199254740993L);
        });
        edges.promise(26, words, "integers that FLOAT or DOUBLE cannot hold", () -> {
            Check.same("16777217 to FLOAT", widened(5, 16777217, 7), 16777216f);
            Check.same("16777219 to FLOAT", widened(5, 16777219, 7), 16777220f);
            Check.same("the largest INT to FLOAT", widened(5, MAX, 7), 2147483648f);
            Check.same("the largest LONG to FLOAT", widened(6, Long.MAX_VALUE, 7), 9223372036854775808f);
            Check.same("a LONG to FLOAT, rounded once", widened(6, (1L << 60) + (1L << 36) + 1, 7),
                    (float) ((1L << 60) + (1L << 37)));
            Check.same("9007199254740993 to DOUBLE", widened(6, 9007199254740993L, 8), 9007199254740992.0);
            Check.same("9007199254740995 to DOUBLE", widened(6, 9007199254740995L, 8), 9007199254740996.0);
        });
        edges.promise(26, words, "floating-point numbers at their edges", () -> {
            float[] floats = {-0f, 0.1f, 1.4E-45f, 3.4028235E38f, Float.NEGATIVE_INFINITY, Float.NaN};
            double[] doubles = {-0d, 0.1, 4.9E-324, LARGEST, -INFINITE, Double.NaN};
            TypedColumns x = Kinds.store(6);
            for (int i = 0; i < 6; i++) {
                x.writeFloat(7, i, floats[i]);
                x.writeDouble(8, i, doubles[i]);
            }
            int same = x.widened(7, 7);
            int wide = x.widened(7, 8);
            int wideSame = x.widened(8, 8);
            for (int i = 0; i < 6; i++) {
                Check.same("FLOAT to FLOAT", x.readFloat(same, i), floats[i]);
                Check.same("FLOAT to DOUBLE", x.readDouble(wide, i), (double) floats[i]);
                Check.same("DOUBLE to DOUBLE", x.readDouble(wideSame, i), doubles[i]);
            }
        });
    }

    private static void widenedRefused(Edges edges) {
        String words = "-1 if it is refused (code 1, 2 or 4, the latter also if there are no cells)";
        for (int kind = Kinds.BOOLEAN; kind <= Kinds.DOUBLE; kind++) {
            int k = kind;
            edges.promise(26, words, "the column is NOTHING, to kind " + k, () -> {
                TypedColumns x = Kinds.filled(2);
                Check.countsOnly(x, "widened(0, " + k + ")", () -> x.widened(0, k), -1, 1);
            });
            edges.promise(26, words, "the column is a LABEL, to kind " + k, () -> {
                TypedColumns x = Kinds.filled(2);
                Check.countsOnly(x, "widened(9, " + k + ")", () -> x.widened(9, k), -1, 2);
            });
            for (int own = Kinds.BOOLEAN; own <= Kinds.DOUBLE; own++) {
                if (Kinds.widens(own, kind)) {
                    continue;
                }
                int o = own;
                edges.promise(26, words, "kind " + own + " doesn't widen to kind " + k, () -> {
                    TypedColumns x = Kinds.filled(2);
                    Check.countsOnly(x, "widened(" + o + ", " + k + ")", () -> x.widened(o, k), -1, 4);
                });
                edges.promise(26, words, "length 0, and kind " + own + " doesn't widen to kind " + k, () -> {
                    TypedColumns x = Kinds.store(0);
                    Check.countsOnly(x, "widened(" + o + ", " + k + ")", () -> x.widened(o, k), -1, 4);
                });
            }
        }
        edges.promise(26, words, "there are 59 columns, and the number is still free after it", () -> {
            TypedColumns x = new TypedColumns();
            x.create(5, 2);
            for (int c = 1; c < 59; c++) {
                x.create(9, 0);
            }
            Check.countsOnly(x, "widened(0, 4)", () -> x.widened(0, 4), -1, 4);
            Check.same("create(0, 0)", x.create(0, 0), 59);
        });
    }

    private static void widenedThrows(Edges edges) {
        String kinds = "Throws `IllegalArgumentException` if kind is not 1 to 8";
        for (int kind : new int[] {0, -1, MIN, 9, 10, MAX}) {
            edges.promise(26, kinds, "the kind " + kind, () -> {
                for (int c = Kinds.NOTHING; c <= Kinds.LABEL; c++) {
                    TypedColumns x = Kinds.filled(2);
                    x.copy(5, 0, 6, 0, 1);
                    int column = c;
                    Check.refuses(x, "widened(" + c + ", " + kind + ")", () -> x.widened(column, kind),
                            IllegalArgumentException.class);
                }
            });
            edges.promise(26, kinds, "the kind " + kind + ", before there are 60 columns", () -> {
                TypedColumns x = Kinds.full(2);
                Check.refuses(x, "widened(5, " + kind + ")", () -> x.widened(5, kind), IllegalArgumentException.class);
            });
        }
        String full = "Throws `IllegalStateException` if there are 60 columns";
        for (int c = Kinds.NOTHING; c <= Kinds.LABEL; c++) {
            int column = c;
            edges.promise(26, full, "whether or not a code would refuse it, column of kind " + c, () -> {
                TypedColumns x = Kinds.full(2);
                x.copy(5, 0, 6, 0, 1);
                for (int kind = Kinds.BOOLEAN; kind <= Kinds.DOUBLE; kind++) {
                    int k = kind;
                    Check.refuses(x, "widened(" + column + ", " + k + ")", () -> x.widened(column, k),
                            IllegalStateException.class);
                }
            });
        }
        edges.promise(26, "Throws `IndexOutOfBoundsException` if there is no such column",
                "before the kind is wrong, and before there are 60 columns", () -> {
                    TypedColumns x = Kinds.full(2);
                    for (int c : new int[] {-1, 60, MIN, MAX}) {
                        for (int kind : new int[] {8, 9}) {
                            Check.refuses(x, "widened(" + c + ", " + kind + ")", () -> x.widened(c, kind),
                                    IndexOutOfBoundsException.class);
                        }
                    }
                });
    }
}
