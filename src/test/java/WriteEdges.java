/** The boundary cases of promises 15 to 23, the methods whose names begin with write. */
final class WriteEdges {
    private static final int MIN = Integer.MIN_VALUE;
    private static final int MAX = Integer.MAX_VALUE;
    private static final int ANY = 23;
    private static final String CODE = "Returns the code.";
    private static final String LOWEST_BITS = "a number, of which the lowest bits are taken";
    private static final String[] WRITES = {"", "Writes a BOOLEAN into a cell.", "Writes a BYTE into a cell.",
        "Writes a CHAR into a cell.", "Writes a SHORT into a cell.", "Writes an INT into a cell.",
        "Writes a LONG into a cell.", "Writes a FLOAT into a cell.", "Writes a DOUBLE into a cell."};

    // a number, and what is left of it
    private static final int[][] BYTES = {{127, 127}, {128, -128}, {129, -127}, {255, -1}, {256, 0}, {300, 44},
        {-128, -128}, {-129, 127}, {-256, 0}, {MAX, -1}, {MIN, 0}};
    private static final int[][] CHARS = {{65535, 65535}, {65536, 0}, {65601, 65}, {32768, 32768}, {-1, 65535},
        {-32768, 32768}, {-65536, 0}, {-65537, 65535}, {MAX, 65535}, {MIN, 0}};
    private static final int[][] SHORTS = {{32767, 32767}, {32768, -32768}, {65535, -1}, {65536, 0}, {-32768, -32768},
        {-32769, 32767}, {-65536, 0}, {MAX, -1}, {MIN, 0}};

    /** A call that writes a value, which is made from 1, as a kind. */
    private interface Write {
        int code(TypedColumns x, int kind, int c, int i);
    }

    private WriteEdges() {
    }

    static void run(Edges edges) {
        Write any = (x, kind, c, i) -> x.writeAny(c, i, kind, 1);
        for (int kind = Kinds.BOOLEAN; kind <= Kinds.DOUBLE; kind++) {
            int k = kind;
            granted(edges, 14 + kind, kind, WRITES[kind], Kinds::writeOne);
            refused(edges, 14 + kind, kind, Kinds::writeOne);
            edges.noSuchColumn(14 + kind, (x, c) -> Kinds.writeOne(x, k, c, 0));
            edges.noSuchColumn(14 + kind, ", and the index is wrong too", (x, c) -> Kinds.writeOne(x, k, c, -1));
            granted(edges, ANY, kind, "Writes a value of some kind into a cell.", any);
            refused(edges, ANY, kind, any);
            edges.noSuchColumn(ANY, ", as kind " + kind, (x, c) -> x.writeAny(c, 0, k, 1));
        }
        edges.noSuchColumn(ANY, ", and the kind is wrong too", (x, c) -> x.writeAny(c, 0, 0, 1));
        lowestBits(edges, Kinds.BYTE, BYTES);
        lowestBits(edges, Kinds.CHAR, CHARS);
        lowestBits(edges, Kinds.SHORT, SHORTS);
        booleans(edges);
        integers(edges);
        floatingPointNumbers(edges);
        kindsOfAny(edges);
        valuesOfAny(edges);
    }

    private static void granted(Edges edges, int number, int kind, String words, Write write) {
        for (int own = Kinds.BOOLEAN; own <= Kinds.DOUBLE; own++) {
            if (!Kinds.widens(kind, own)) {
                continue;
            }
            int o = own;
            String edge = "the first and the last cell of kind " + own + ", and no other, as kind " + kind;
            edges.promise(number, words, edge, () -> {
                for (int i : new int[] {0, 39}) {
                    TypedColumns x = Kinds.store(40);
                    int[] before = Check.counts(x);
                    Check.same("the write", write.code(x, kind, o, i), 0);
                    Check.oneMore(x, "the write", before, 0);
                    for (int k = 0; k < 40; k++) {
                        Check.same("cell " + k + " then", Kinds.read(x, o, o, k),
                                k == i ? Kinds.one(o) : Kinds.zero(o));
                    }
                    for (int c = Kinds.BOOLEAN; c <= Kinds.DOUBLE; c++) {
                        Check.same("the total of column " + c + " then", x.total(c), c == o ? 1.0 : 0.0);
                    }
                }
            });
        }
    }

    private static void refused(Edges edges, int number, int kind, Write write) {
        String as = ", as kind " + kind;
        for (int i : new int[] {0, -1, 2, MIN, MAX}) {
            edges.promise(number, CODE, "the column is NOTHING, index " + i + as, () ->
                    refuses(2, write, kind, 0, i, 1));
            edges.promise(number, CODE, "the column is a LABEL, index " + i + as, () ->
                    refuses(2, write, kind, 9, i, 2));
        }
        for (int own = Kinds.BOOLEAN; own <= Kinds.DOUBLE; own++) {
            int o = own;
            edges.promise(number, CODE, "an index too small in kind " + own + as, () -> {
                refuses(3, write, kind, o, -1, 3);
                refuses(3, write, kind, o, MIN, 3);
            });
            edges.promise(number, CODE, "an index too large in kind " + own + as, () -> {
                refuses(3, write, kind, o, 3, 3);
                refuses(40, write, kind, o, 40, 3);
                refuses(3, write, kind, o, MAX, 3);
            });
            edges.promise(number, CODE, "a column with length 0 of kind " + own + as, () -> {
                refuses(0, write, kind, o, 0, 3);
                refuses(0, write, kind, o, -1, 3);
            });
            if (!Kinds.widens(kind, own)) {
                edges.promise(number, CODE, "it doesn't widen to kind " + own + as, () -> {
                    refuses(3, write, kind, o, 0, 4);
                    refuses(3, write, kind, o, 2, 4);
                });
            }
        }
    }

    private static void refuses(int length, Write write, int kind, int c, int i, int code) {
        TypedColumns x = Kinds.store(length);
        Check.countsOnly(x, "the write into cell " + i + " of " + length, () -> write.code(x, kind, c, i), code, code);
    }

    private static void lowestBits(Edges edges, int kind, int[][] rows) {
        for (int own = Kinds.BYTE; own <= Kinds.DOUBLE; own++) {
            if (!Kinds.widens(kind, own)) {
                continue;
            }
            int o = own;
            edges.promise(14 + kind, LOWEST_BITS, "numbers beyond the kind, into kind " + own, () -> {
                for (int[] row : rows) {
                    TypedColumns x = Kinds.store(1);
                    Check.same("the write of " + row[0], Kinds.write(x, kind, o, 0, row[0]), 0);
                    Check.same("the cell after " + row[0], x.readAny(o, 0), (double) row[1]);
                }
            });
            edges.promise(ANY, "for BYTE, CHAR and SHORT its lowest bits",
                    "numbers beyond kind " + kind + ", into kind " + own, () -> {
                        for (int[] row : rows) {
                            TypedColumns x = Kinds.store(1);
                            Check.same("the write of " + row[0], x.writeAny(o, 0, kind, row[0]), 0);
                            Check.same("the cell after " + row[0], x.readAny(o, 0), (double) row[1]);
                        }
                    });
        }
    }

    private static void booleans(Edges edges) {
        edges.promise(15, WRITES[Kinds.BOOLEAN], "true, and false again", () -> {
            TypedColumns x = Kinds.store(1);
            x.writeBoolean(1, 0, true);
            Check.same("a cell that is true", x.readBoolean(1, 0), true);
            x.writeBoolean(1, 0, false);
            Check.same("a cell that is false again", x.readBoolean(1, 0), false);
        });
    }

    /** Writes an integer as INT, if it is one, and as LONG. */
    private static void stored(int own, long value, Object due) {
        if (value == (int) value) {
            TypedColumns x = Kinds.store(1);
            Check.same("the write of the INT " + value, x.writeInt(own, 0, (int) value), 0);
            Check.same("the cell then", Kinds.read(x, own, own, 0), due);
        }
        if (own != Kinds.INT) {
            TypedColumns x = Kinds.store(1);
            Check.same("the write of the LONG " + value, x.writeLong(own, 0, value), 0);
            Check.same("the cell then", Kinds.read(x, own, own, 0), due);
        }
    }

    private static void integers(Edges edges) {
        edges.promise(19, WRITES[Kinds.INT], "the smallest and the largest INT", () -> {
            for (int value : new int[] {MIN, MIN + 1, -1, 0, MAX - 1, MAX}) {
                stored(Kinds.INT, value, value);
                stored(Kinds.LONG, value, (long) value);
                stored(Kinds.DOUBLE, value, (double) value);
            }
            stored(Kinds.FLOAT, MIN, -2147483648f);
            stored(Kinds.FLOAT, MAX, 2147483648f);
        });
        edges.promise(20, WRITES[Kinds.LONG], "the smallest and the largest LONG", () -> {
            for (long value : new long[] {Long.MIN_VALUE, Long.MIN_VALUE + 1, Long.MAX_VALUE - 1, Long.MAX_VALUE}) {
                stored(Kinds.LONG, value, value);
            }
            stored(Kinds.LONG, 4294967296L, 4294967296L);
            stored(Kinds.FLOAT, Long.MIN_VALUE, -9223372036854775808f);
            stored(Kinds.FLOAT, Long.MAX_VALUE, 9223372036854775808f);
            stored(Kinds.DOUBLE, Long.MIN_VALUE, -9223372036854775808.0);
            stored(Kinds.DOUBLE, Long.MAX_VALUE, 9223372036854775808.0);
        });
        edges.promise(19, WRITES[Kinds.INT], "one that FLOAT cannot hold becomes the nearest or even one", () -> {
            stored(Kinds.FLOAT, 16777216, 16777216f);
            stored(Kinds.FLOAT, 16777217, 16777216f);
            stored(Kinds.FLOAT, 16777219, 16777220f);
            stored(Kinds.FLOAT, -16777217, -16777216f);
            stored(Kinds.FLOAT, -16777219, -16777220f);
            stored(Kinds.FLOAT, 33554435, 33554436f);
            stored(Kinds.DOUBLE, 16777217, 16777217.0);
        });
        edges.promise(20, WRITES[Kinds.LONG], "one that DOUBLE cannot hold becomes the nearest or even one", () -> {
            stored(Kinds.DOUBLE, 9007199254740993L, 9007199254740992.0);
            stored(Kinds.DOUBLE, 9007199254740995L, 9007199254740996.0);
            stored(Kinds.DOUBLE, -9007199254740993L, -9007199254740992.0);
            stored(Kinds.DOUBLE, 18014398509481987L, 18014398509481988.0);
        });
        edges.promise(20, WRITES[Kinds.LONG], "into FLOAT it is rounded once, not to a double first", () -> {
            stored(Kinds.FLOAT, (1L << 60) + (1L << 36) + 1, (float) ((1L << 60) + (1L << 37)));
            stored(Kinds.FLOAT, (1L << 60) + (1L << 36), (float) (1L << 60));
            stored(Kinds.FLOAT, (1L << 60) + (1L << 36) - 1, (float) (1L << 60));
        });
        edges.promise(19, WRITES[Kinds.INT], "what a FLOAT cell holds is cut for good", () -> {
            TypedColumns x = Kinds.store(1);
            x.writeInt(7, 0, 16777217);
            Check.same("readDouble of the FLOAT", x.readDouble(7, 0), 16777216.0);
            Check.same("total of the FLOAT", x.total(7), 16777216.0);
        });
    }

    private static void floatingPointNumbers(Edges edges) {
        float[] floats = {0f, -0f, 0.1f, 1.4E-45f, -1.4E-45f, 3.4028235E38f, -3.4028235E38f,
            Float.POSITIVE_INFINITY, Float.NEGATIVE_INFINITY, Float.NaN};
        double[] doubles = {0d, -0d, 0.1, 4.9E-324, -4.9E-324, 1.7976931348623157E308, -1.7976931348623157E308,
            Double.POSITIVE_INFINITY, Double.NEGATIVE_INFINITY, Double.NaN};
        for (float value : floats) {
            edges.promise(21, WRITES[Kinds.FLOAT], "the float " + value, () -> {
                TypedColumns x = Kinds.filled(1);
                Check.same("writeFloat into a FLOAT", x.writeFloat(7, 0, value), 0);
                Check.same("the FLOAT then", x.readFloat(7, 0), value);
                Check.same("writeFloat into a DOUBLE", x.writeFloat(8, 0, value), 0);
                Check.same("the DOUBLE then", x.readDouble(8, 0), (double) value);
            });
        }
        for (double value : doubles) {
            edges.promise(22, WRITES[Kinds.DOUBLE], "the double " + value, () -> {
                TypedColumns x = Kinds.filled(1);
                Check.same("writeDouble into a DOUBLE", x.writeDouble(8, 0, value), 0);
                Check.same("the DOUBLE then", x.readDouble(8, 0), value);
                Check.countsOnly(x, "writeDouble into a FLOAT", () -> x.writeDouble(7, 0, value), 4, 4);
            });
        }
    }

    private static void kindsOfAny(Edges edges) {
        String words = "Throws `IllegalArgumentException` if kind is not 1 to 8";
        for (int kind : new int[] {0, -1, MIN}) {
            edges.promise(ANY, words, "the kind " + kind + " is too small", () -> refusesKind(kind));
        }
        for (int kind : new int[] {9, 10, MAX}) {
            edges.promise(ANY, words, "the kind " + kind + " is too large", () -> refusesKind(kind));
        }
    }

    private static void refusesKind(int kind) {
        for (int c = Kinds.NOTHING; c <= Kinds.LABEL; c++) {
            for (int i : new int[] {0, -1, 2}) {
                TypedColumns x = Kinds.store(2);
                x.copy(5, 0, 6, 0, 1);
                int column = c;
                Check.refuses(x, "writeAny(" + c + ", " + i + ", " + kind + ", 1)",
                        () -> x.writeAny(column, i, kind, 1), IllegalArgumentException.class);
            }
        }
    }

    private static Object any(int own, int kind, int value) {
        TypedColumns x = Kinds.store(1);
        Check.same("writeAny(" + own + ", 0, " + kind + ", " + value + ")", x.writeAny(own, 0, kind, value), 0);
        return Kinds.read(x, own, own, 0);
    }

    private static void valuesOfAny(Edges edges) {
        edges.promise(ANY, "for BOOLEAN whether it is not 0", "0 and what is not 0", () -> {
            for (int value : new int[] {1, -1, 2, 256, 65536, MIN, MAX}) {
                Check.same("a BOOLEAN from " + value, any(1, 1, value), true);
                TypedColumns x = new TypedColumns();
                x.create(1, 1);
                x.writeAny(0, 0, 1, value);
                Check.same("its number", x.readAny(0, 0), 1.0);
                Check.same("its total", x.total(0), 1.0);
                Check.same("its digest", x.digest(), DigestEdges.digestOf(1, 1, 1, 1, 3, 0, 0, 0, 0, 0));
            }
            Check.same("a BOOLEAN from 0", any(1, 1, 0), false);
            TypedColumns x = Kinds.filled(1);
            x.writeAny(1, 0, 1, 0);
            Check.same("true, and then a BOOLEAN from 0", x.readBoolean(1, 0), false);
        });
        edges.promise(ANY, "for the others the same number", "the smallest and the largest INT", () -> {
            for (int value : new int[] {MIN, -1, 0, 65536, MAX}) {
                Check.same("an INT into an INT", any(5, 5, value), value);
                Check.same("an INT into a LONG", any(6, 5, value), (long) value);
                Check.same("a LONG into a LONG", any(6, 6, value), (long) value);
                Check.same("a LONG into a DOUBLE", any(8, 6, value), (double) value);
                Check.same("a DOUBLE into a DOUBLE", any(8, 8, value), (double) value);
            }
        });
        edges.promise(ANY, "(for FLOAT the nearest one)", "numbers that FLOAT cannot hold, or only just holds", () -> {
            for (int own : new int[] {Kinds.FLOAT, Kinds.DOUBLE}) {
                Check.same("16777216", ((Number) any(own, 7, 16777216)).doubleValue(), 16777216.0);
                Check.same("16777217", ((Number) any(own, 7, 16777217)).doubleValue(), 16777216.0);
                Check.same("16777219", ((Number) any(own, 7, 16777219)).doubleValue(), 16777220.0);
                Check.same("-16777219", ((Number) any(own, 7, -16777219)).doubleValue(), -16777220.0);
                Check.same("the largest INT", ((Number) any(own, 7, MAX)).doubleValue(), 2147483648.0);
                Check.same("the smallest INT", ((Number) any(own, 7, MIN)).doubleValue(), -2147483648.0);
            }
            Check.same("16777217 as DOUBLE", any(8, 8, 16777217), 16777217.0);
            Check.same("16777217 as INT into a FLOAT", any(7, 5, 16777217), 16777216f);
        });
        edges.promise(ANY, CODE, "a value that would fit is refused if its kind doesn't widen", () -> {
            TypedColumns x = Kinds.filled(1);
            Check.countsOnly(x, "an INT into a BYTE", () -> x.writeAny(2, 0, 5, 0), 4, 4);
            Check.countsOnly(x, "a BYTE into a CHAR", () -> x.writeAny(3, 0, 2, 0), 4, 4);
            Check.countsOnly(x, "a CHAR into a SHORT", () -> x.writeAny(4, 0, 3, 0), 4, 4);
            Check.countsOnly(x, "a BYTE into a BOOLEAN", () -> x.writeAny(1, 0, 2, 0), 4, 4);
            Check.countsOnly(x, "a BOOLEAN into an INT", () -> x.writeAny(5, 0, 1, 0), 4, 4);
        });
    }
}
