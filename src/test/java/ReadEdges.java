/** The boundary cases of promises 6 to 14, the methods whose names begin with read. */
final class ReadEdges {
    private static final int MIN = Integer.MIN_VALUE;
    private static final int MAX = Integer.MAX_VALUE;
    private static final String[] AS = {"", "BOOLEAN", "BYTE", "CHAR", "SHORT", "INT", "LONG", "FLOAT", "DOUBLE"};
    private static final int ANY = 14;

    /** The smallest and the largest integers of each kind, and what lies where a sign might be mistaken. */
    private static final long[][] INTEGERS = {
        {Kinds.BYTE, -128}, {Kinds.BYTE, -1}, {Kinds.BYTE, 127},
        {Kinds.CHAR, 0}, {Kinds.CHAR, 255}, {Kinds.CHAR, 32768}, {Kinds.CHAR, 65535},
        {Kinds.SHORT, -32768}, {Kinds.SHORT, -1}, {Kinds.SHORT, 32767},
        {Kinds.INT, MIN}, {Kinds.INT, -1}, {Kinds.INT, MAX},
        {Kinds.LONG, Long.MIN_VALUE}, {Kinds.LONG, -1}, {Kinds.LONG, 4294967296L}, {Kinds.LONG, Long.MAX_VALUE},
    };

    private ReadEdges() {
    }

    static void run(Edges edges) {
        for (int kind = Kinds.BOOLEAN; kind <= Kinds.DOUBLE; kind++) {
            granted(edges, kind);
            refused(edges, kind);
            int k = kind;
            edges.noSuchColumn(5 + kind, (x, c) -> Kinds.read(x, k, c, 0));
            edges.noSuchColumn(5 + kind, ", and the index is wrong too", (x, c) -> Kinds.read(x, k, c, -1));
        }
        integersThatFloatCannotHold(edges);
        integersThatDoubleCannotHold(edges);
        floatingPointNumbers(edges);
        any(edges);
        anyRefused(edges);
    }

    private static void granted(Edges edges, int kind) {
        String words = "Reads a cell as " + AS[kind] + ".";
        edges.promise(5 + kind, words, "the first cell and the last", () -> {
            for (int own = Kinds.BOOLEAN; own <= Kinds.DOUBLE; own++) {
                if (Kinds.widens(own, kind)) {
                    firstAndLast(own, kind, 40);
                    firstAndLast(own, kind, 1);
                }
            }
        });
        edges.promise(5 + kind, words, "a new cell is false or 0", () -> {
            TypedColumns x = Kinds.store(2);
            Check.countsOnly(x, "the first cell", () -> Kinds.read(x, kind, kind, 0), Kinds.zero(kind), 0);
            Check.countsOnly(x, "the last cell", () -> Kinds.read(x, kind, kind, 1), Kinds.zero(kind), 0);
        });
        edges.promise(5 + kind, words, "the smallest and the largest values", () -> {
            Check.same("a cell that is true or 1", Kinds.read(Kinds.filled(1), kind, kind, 0), Kinds.one(kind));
            for (long[] row : INTEGERS) {
                int own = (int) row[0];
                if (Kinds.widens(own, kind)) {
                    TypedColumns x = Kinds.store(1);
                    Kinds.write(x, own, own, 0, row[1]);
                    Check.same(row[1] + " of kind " + own, Kinds.read(x, kind, own, 0), number(kind, row[1]));
                }
            }
        });
    }

    /** An integer as a read as a kind answers it. */
    private static Object number(int kind, long value) {
        switch (kind) {
            case Kinds.LONG: return value;
            case Kinds.FLOAT: return (float) value;
            case Kinds.DOUBLE: return (double) value;
            default: return (int) value;
        }
    }

    private static void firstAndLast(int own, int kind, int length) {
        TypedColumns x = new TypedColumns();
        x.create(own, length);
        Kinds.writeOne(x, own, 0, 0);
        Kinds.writeOne(x, own, 0, length - 1);
        String what = " of kind " + own + " with length " + length;
        Check.countsOnly(x, "the first cell" + what, () -> Kinds.read(x, kind, 0, 0), Kinds.one(kind), 0);
        Check.countsOnly(x, "the last cell" + what, () -> Kinds.read(x, kind, 0, length - 1), Kinds.one(kind), 0);
        if (length > 2) {
            Check.countsOnly(x, "another cell" + what, () -> Kinds.read(x, kind, 0, 1), Kinds.zero(kind), 0);
        }
    }

    private static void refused(Edges edges, int kind) {
        String words = "Returns the value; " + (kind == Kinds.BOOLEAN ? "false" : "0") + " if it is refused.";
        Object zero = Kinds.zero(kind);
        for (int i : new int[] {0, -1, 2, MIN, MAX}) {
            edges.promise(5 + kind, words, "the column is NOTHING, index " + i, () -> {
                TypedColumns x = Kinds.filled(2);
                Check.countsOnly(x, "the read", () -> Kinds.read(x, kind, 0, i), zero, 1);
            });
            edges.promise(5 + kind, words, "the column is a LABEL, index " + i, () -> {
                TypedColumns x = Kinds.filled(2);
                Check.countsOnly(x, "the read", () -> Kinds.read(x, kind, 9, i), zero, 2);
            });
        }
        for (int own = Kinds.BOOLEAN; own <= Kinds.DOUBLE; own++) {
            int o = own;
            edges.promise(5 + kind, words, "an index too small in kind " + own, () -> outside(o, kind, -1, MIN));
            edges.promise(5 + kind, words, "an index too large in kind " + own, () -> outside(o, kind, 3, MAX));
            edges.promise(5 + kind, words, "a column with length 0 of kind " + own, () -> {
                TypedColumns x = Kinds.store(0);
                Check.countsOnly(x, "index 0", () -> Kinds.read(x, kind, o, 0), zero, 3);
                Check.countsOnly(x, "index -1", () -> Kinds.read(x, kind, o, -1), zero, 3);
            });
            if (!Kinds.widens(own, kind)) {
                edges.promise(5 + kind, words, "kind " + own + " doesn't widen to it", () -> {
                    TypedColumns x = Kinds.filled(3);
                    Check.countsOnly(x, "the first cell", () -> Kinds.read(x, kind, o, 0), zero, 4);
                    Check.countsOnly(x, "the last cell", () -> Kinds.read(x, kind, o, 2), zero, 4);
                });
            }
        }
        edges.promise(5 + kind, words, "the index 40 of the largest column", () -> {
            TypedColumns x = new TypedColumns();
            x.create(kind, 40);
            Kinds.writeOne(x, kind, 0, 39);
            Check.countsOnly(x, "index 40", () -> Kinds.read(x, kind, 0, 40), zero, 3);
        });
    }

    private static void outside(int own, int kind, int next, int far) {
        TypedColumns x = Kinds.filled(3);
        Check.countsOnly(x, "index " + next, () -> Kinds.read(x, kind, own, next), Kinds.zero(kind), 3);
        Check.countsOnly(x, "index " + far, () -> Kinds.read(x, kind, own, far), Kinds.zero(kind), 3);
    }

    private static void floatOf(int value, float due) {
        TypedColumns x = Kinds.store(1);
        x.writeInt(5, 0, value);
        Check.same("readFloat of the INT " + value, x.readFloat(5, 0), due);
        floatOf((long) value, due);
    }

    private static void floatOf(long value, float due) {
        TypedColumns x = Kinds.store(1);
        x.writeLong(6, 0, value);
        Check.same("readFloat of the LONG " + value, x.readFloat(6, 0), due);
    }

    private static void integersThatFloatCannotHold(Edges edges) {
        String words = "Reads a cell as FLOAT.";
        edges.promise(12, words, "the largest integer that is held with all below it, and those beside it", () -> {
            floatOf(16777215, 16777215f);
            floatOf(16777216, 16777216f);
            floatOf(16777218, 16777218f);
        });
        edges.promise(12, words, "of two equally near ones the one whose last bit is 0", () -> {
            floatOf(16777217, 16777216f);
            floatOf(16777219, 16777220f);
            floatOf(-16777217, -16777216f);
            floatOf(-16777219, -16777220f);
            floatOf((1L << 40) + (1L << 16), (float) (1L << 40));
        });
        edges.promise(12, words, "the nearer one", () -> {
            floatOf(33554433, 33554432f);
            floatOf(33554435, 33554436f);
            floatOf(MAX, 2147483648f);
            floatOf(MIN + 1, -2147483648f);
            floatOf(Long.MAX_VALUE, 9223372036854775808f);
            floatOf(Long.MIN_VALUE, -9223372036854775808f);
        });
        edges.promise(12, words, "a LONG is rounded once, not to a double first", () -> {
            floatOf((1L << 60) + (1L << 36) + 1, (float) ((1L << 60) + (1L << 37)));
            floatOf(-(1L << 60) - (1L << 36) - 1, (float) (-(1L << 60) - (1L << 37)));
            floatOf((1L << 60) + (1L << 36) - 1, (float) (1L << 60));
        });
    }

    private static void doubleOf(long value, double due) {
        TypedColumns x = Kinds.store(1);
        x.writeLong(6, 0, value);
        Check.same("readDouble of the LONG " + value, x.readDouble(6, 0), due);
        Check.same("readAny of the LONG " + value, x.readAny(6, 0), due);
    }

    private static void integersThatDoubleCannotHold(Edges edges) {
        for (int number : new int[] {13, ANY}) {
            String words = number == ANY ? "Returns the value, converted to a double as in total; 0 if it is refused."
                    : "Reads a cell as DOUBLE.";
            edges.promise(number, words, "the largest LONG that is held with all below it, and those beside it", () -> {
                doubleOf(9007199254740991L, 9007199254740991.0);
                doubleOf(9007199254740992L, 9007199254740992.0);
                doubleOf(9007199254740994L, 9007199254740994.0);
            });
            edges.promise(number, words, "of two equally near ones the one whose last bit is 0", () -> {
                doubleOf(9007199254740993L, 9007199254740992.0);
                doubleOf(9007199254740995L, 9007199254740996.0);
                doubleOf(-9007199254740993L, -9007199254740992.0);
                doubleOf(-9007199254740995L, -9007199254740996.0);
            });
            edges.promise(number, words, "the nearer one", () -> {
                doubleOf(18014398509481985L, 18014398509481984.0);
                doubleOf(18014398509481987L, 18014398509481988.0);
                doubleOf(Long.MAX_VALUE, 9223372036854775808.0);
                doubleOf(Long.MIN_VALUE, -9223372036854775808.0);
                doubleOf(Long.MIN_VALUE + 1, -9223372036854775808.0);
            });
        }
    }

    private static void floatingPointNumbers(Edges edges) {
        float[] floats = {0f, -0f, 0.1f, 1.4E-45f, -1.4E-45f, 1.17549435E-38f, 3.4028235E38f, -3.4028235E38f,
            Float.POSITIVE_INFINITY, Float.NEGATIVE_INFINITY, Float.NaN};
        double[] doubles = {0d, -0d, 0.1, 4.9E-324, -4.9E-324, 2.2250738585072014E-308, 1.7976931348623157E308,
            -1.7976931348623157E308, Double.POSITIVE_INFINITY, Double.NEGATIVE_INFINITY, Double.NaN};
        for (float value : floats) {
            edges.promise(12, "Reads a cell as FLOAT.", "the float " + value, () ->
                    Check.same("readFloat", withFloat(value).readFloat(7, 0), value));
            edges.promise(13, "Reads a cell as DOUBLE.", "the float " + value, () ->
                    Check.same("readDouble", withFloat(value).readDouble(7, 0), (double) value));
            edges.promise(ANY, "Reads a cell as its own kind.", "the float " + value, () ->
                    Check.same("readAny", withFloat(value).readAny(7, 0), (double) value));
        }
        for (double value : doubles) {
            edges.promise(13, "Reads a cell as DOUBLE.", "the double " + value, () ->
                    Check.same("readDouble", withDouble(value).readDouble(8, 0), value));
            edges.promise(ANY, "Reads a cell as its own kind.", "the double " + value, () ->
                    Check.same("readAny", withDouble(value).readAny(8, 0), value));
        }
    }

    private static TypedColumns withFloat(float value) {
        TypedColumns x = Kinds.filled(1);
        x.writeFloat(7, 0, value);
        return x;
    }

    private static TypedColumns withDouble(double value) {
        TypedColumns x = Kinds.filled(1);
        x.writeDouble(8, 0, value);
        return x;
    }

    private static void any(Edges edges) {
        for (int own = Kinds.BOOLEAN; own <= Kinds.DOUBLE; own++) {
            int o = own;
            edges.promise(ANY, "(So it is never refused with code 4.)", "the first cell and the last of kind " + own,
                    () -> {
                        TypedColumns x = Kinds.store(40);
                        Kinds.writeOne(x, o, o, 0);
                        Kinds.writeOne(x, o, o, 39);
                        Check.countsOnly(x, "the first cell", () -> x.readAny(o, 0), 1.0, 0);
                        Check.countsOnly(x, "another cell", () -> x.readAny(o, 1), 0.0, 0);
                        Check.countsOnly(x, "the last cell", () -> x.readAny(o, 39), 1.0, 0);
                    });
        }
        edges.promise(ANY, "converted to a double as in total", "the smallest and the largest integers", () -> {
            for (long[] row : INTEGERS) {
                int own = (int) row[0];
                TypedColumns x = Kinds.store(1);
                Kinds.write(x, own, own, 0, row[1]);
                Check.same("readAny of " + row[1] + ", kind " + own, x.readAny(own, 0), (double) row[1]);
            }
        });
        edges.noSuchColumn(ANY, (x, c) -> x.readAny(c, 0));
        edges.noSuchColumn(ANY, ", and the index is wrong too", (x, c) -> x.readAny(c, -1));
    }

    private static void anyRefused(Edges edges) {
        String words = "0 if it is refused.";
        for (int i : new int[] {0, -1, 2, MIN, MAX}) {
            edges.promise(ANY, words, "the column is NOTHING, index " + i, () -> {
                TypedColumns x = Kinds.filled(2);
                Check.countsOnly(x, "readAny", () -> x.readAny(0, i), 0.0, 1);
            });
            edges.promise(ANY, words, "the column is a LABEL, index " + i, () -> {
                TypedColumns x = Kinds.filled(2);
                Check.countsOnly(x, "readAny", () -> x.readAny(9, i), 0.0, 2);
            });
        }
        for (int own = Kinds.BOOLEAN; own <= Kinds.DOUBLE; own++) {
            int o = own;
            edges.promise(ANY, words, "an index too small or too large in kind " + own, () -> {
                TypedColumns x = Kinds.filled(3);
                for (int i : new int[] {-1, 3, MIN, MAX}) {
                    Check.countsOnly(x, "index " + i, () -> x.readAny(o, i), 0.0, 3);
                }
            });
            edges.promise(ANY, words, "a column with length 0 of kind " + own, () -> {
                TypedColumns x = Kinds.store(0);
                Check.countsOnly(x, "index 0", () -> x.readAny(o, 0), 0.0, 3);
            });
        }
    }
}
