/** The boundary cases of promise 24, copy. */
final class CopyEdges {
    private static final int MIN = Integer.MIN_VALUE;
    private static final int MAX = Integer.MAX_VALUE;
    private static final String NOTHING_THERE = "1 if one of the columns is NOTHING";
    private static final String NOT_ALIKE = "otherwise 5 if one of them is a LABEL, or their kinds are different";
    private static final String NEGATIVE = "otherwise 3 if one of the three numbers is negative";
    private static final String BEYOND = "or one of the parts goes beyond the end of its column";
    private static final String COPIES = "Copies cells from a column to a column of the same kind";
    private static final String BEFORE = "the copied values are those before the call";

    private CopyEdges() {
    }

    static void run(Edges edges) {
        nothing(edges);
        notAlike(edges);
        negative(edges);
        beyond(edges);
        wrapsAround(edges);
        partsOfNoCells(edges);
        wholeColumns(edges);
        valuesStayTheSame(edges);
        overlaps(edges);
        edges.promise(24, "Returns the code:", "each code", CopyEdges::eachCode);
        edges.noSuchColumn(24, ", from", (x, c) -> x.copy(c, 0, 5, 0, 0));
        edges.noSuchColumn(24, ", to", (x, c) -> x.copy(5, 0, c, 0, 0));
        edges.noSuchColumn(24, ", both", (x, c) -> x.copy(c, 0, c, 0, 0));
        edges.noSuchColumn(24, ", from, and a code would apply", (x, c) -> x.copy(c, -1, 0, -1, -1));
        edges.noSuchColumn(24, ", to, and a code would apply", (x, c) -> x.copy(0, -1, c, -1, -1));
    }

    /** Checks that a copy in a store with filled columns of 3 cells is refused. */
    private static void refused(int from, int fromIndex, int to, int toIndex, int many, int code) {
        TypedColumns x = Kinds.filled(3);
        // a second column of each kind, with 5 cells, which are 0
        for (int kind = Kinds.NOTHING; kind <= Kinds.LABEL; kind++) {
            x.create(kind, 5);
        }
        String what = "copy(" + from + ", " + fromIndex + ", " + to + ", " + toIndex + ", " + many + ")";
        Check.countsOnly(x, what, () -> x.copy(from, fromIndex, to, toIndex, many), code, code);
    }

    private static void nothing(Edges edges) {
        edges.promise(24, NOTHING_THERE, "the one from which is copied", () -> {
            for (int kind = Kinds.NOTHING; kind <= Kinds.LABEL; kind++) {
                refused(0, 0, kind, 0, 0, 1);
            }
        });
        edges.promise(24, NOTHING_THERE, "the one to which is copied", () -> {
            for (int kind = Kinds.NOTHING; kind <= Kinds.LABEL; kind++) {
                refused(kind, 0, 0, 0, 0, 1);
            }
        });
        edges.promise(24, NOTHING_THERE, "both, which are then alike", () -> {
            refused(0, 0, 0, 0, 0, 1);
            refused(0, 0, 10, 0, 0, 1);
        });
        edges.promise(24, NOTHING_THERE, "it comes before a LABEL", () -> {
            refused(0, 0, 9, 0, 1, 1);
            refused(9, 0, 0, 0, 1, 1);
        });
        edges.promise(24, NOTHING_THERE, "it comes before numbers that are wrong", () -> {
            refused(0, -1, 5, 0, 1, 1);
            refused(5, 4, 0, 0, 1, 1);
            refused(0, 0, 0, 0, -1, 1);
            refused(0, MAX, 0, MAX, MAX, 1);
        });
    }

    private static void notAlike(Edges edges) {
        edges.promise(24, NOT_ALIKE, "a LABEL from which is copied", () -> {
            for (int kind = Kinds.BOOLEAN; kind <= Kinds.LABEL; kind++) {
                refused(9, 0, kind, 0, 0, 5);
            }
        });
        edges.promise(24, NOT_ALIKE, "a LABEL to which is copied", () -> {
            for (int kind = Kinds.BOOLEAN; kind <= Kinds.LABEL; kind++) {
                refused(kind, 0, 9, 0, 0, 5);
            }
        });
        edges.promise(24, NOT_ALIKE, "two LABELs, which have the same kind", () -> {
            refused(9, 0, 9, 0, 0, 5);
            refused(9, 0, 19, 0, 0, 5);
        });
        edges.promise(24, NOT_ALIKE, "two kinds, also where one widens to the other", () -> {
            for (int from = Kinds.BOOLEAN; from <= Kinds.DOUBLE; from++) {
                for (int to = Kinds.BOOLEAN; to <= Kinds.DOUBLE; to++) {
                    if (from != to) {
                        refused(from, 0, to + 10, 0, 1, 5);
                    }
                }
            }
        });
        edges.promise(24, NOT_ALIKE, "it comes before numbers that are wrong", () -> {
            refused(9, -1, 9, 0, 0, 5);
            refused(9, 0, 5, 0, -1, 5);
            refused(5, 4, 6, 0, 1, 5);
            refused(5, 0, 6, -1, 1, 5);
            refused(5, 0, 6, 0, -1, 5);
            refused(5, MAX, 6, MAX, MAX, 5);
        });
    }

    private static void negative(Edges edges) {
        for (int kind = Kinds.BOOLEAN; kind <= Kinds.DOUBLE; kind++) {
            int k = kind;
            edges.promise(24, NEGATIVE, "the first index in the one from which is copied, kind " + k, () -> {
                for (int i : new int[] {-1, -3, MIN}) {
                    refused(k, i, k + 10, 0, 1, 3);
                    refused(k, i, k + 10, 0, 0, 3);
                    refused(k, i, k + 10, 0, 4, 3);
                }
            });
            edges.promise(24, NEGATIVE, "the first index in the one to which is copied, kind " + k, () -> {
                for (int i : new int[] {-1, -3, MIN}) {
                    refused(k, 0, k + 10, i, 1, 3);
                    refused(k, 0, k + 10, i, 0, 3);
                    refused(k, 0, k + 10, i, 3, 3);
                }
            });
            edges.promise(24, NEGATIVE, "the number of cells, kind " + k, () -> {
                for (int many : new int[] {-1, -3, MIN + 1, MIN}) {
                    refused(k, 0, k + 10, 0, many, 3);
                    refused(k, 3, k + 10, 3, many, 3);
                }
            });
        }
    }

    private static void beyond(Edges edges) {
        for (int kind = Kinds.BOOLEAN; kind <= Kinds.DOUBLE; kind++) {
            int k = kind;
            edges.promise(24, BEYOND, "by one cell in the one from which is copied, kind " + k, () -> {
                refused(k, 0, k + 10, 0, 4, 3);
                refused(k, 2, k + 10, 0, 2, 3);
                refused(k, 3, k + 10, 0, 1, 3);
            });
            edges.promise(24, BEYOND, "by one cell in the one to which is copied, kind " + k, () -> {
                refused(k, 0, k + 10, 3, 3, 3);
                refused(k, 0, k + 10, 4, 2, 3);
                refused(k, 0, k + 10, 5, 1, 3);
            });
            edges.promise(24, BEYOND, "each is looked at with its own length, kind " + k, () -> {
                refused(k + 10, 0, k, 0, 5, 3);
                refused(k + 10, 2, k, 2, 2, 3);
                refused(k, 0, k + 10, 0, 5, 3);
            });
            edges.promise(24, BEYOND, "the part begins beyond the end and has no cells, kind " + k, () -> {
                refused(k, 4, k + 10, 0, 0, 3);
                refused(k, 0, k + 10, 6, 0, 3);
                refused(k, MAX, k + 10, 0, 0, 3);
                refused(k, 0, k + 10, MAX, 0, 3);
            });
            edges.promise(24, BEYOND, "a column with length 0, kind " + k, () -> {
                TypedColumns x = new TypedColumns();
                x.create(k, 0);
                x.create(k, 2);
                Check.countsOnly(x, "copy(0, 0, 1, 0, 1)", () -> x.copy(0, 0, 1, 0, 1), 3, 3);
                Check.countsOnly(x, "copy(1, 0, 0, 0, 1)", () -> x.copy(1, 0, 0, 0, 1), 3, 3);
                Check.countsOnly(x, "copy(0, 1, 0, 0, 0)", () -> x.copy(0, 1, 0, 0, 0), 3, 3);
                Check.countsOnly(x, "copy(0, 0, 0, 1, 0)", () -> x.copy(0, 0, 0, 1, 0), 3, 3);
            });
        }
    }

    private static void wrapsAround(Edges edges) {
        edges.promise(24, BEYOND, "the sum of index and number wraps around in the one from which is copied", () -> {
            for (int kind : new int[] {Kinds.BOOLEAN, Kinds.INT, Kinds.FLOAT, Kinds.DOUBLE}) {
                refused(kind, 1, kind + 10, 0, MAX, 3);
                refused(kind, MAX, kind + 10, 0, 1, 3);
                refused(kind, MAX, kind + 10, 0, 3, 3);
                refused(kind, MAX, kind + 10, 0, MAX, 3);
                refused(kind, 2, kind + 10, 0, MAX - 1, 3);
            }
        });
        edges.promise(24, BEYOND, "the sum of index and number wraps around in the one to which is copied", () -> {
            for (int kind : new int[] {Kinds.BOOLEAN, Kinds.INT, Kinds.FLOAT, Kinds.DOUBLE}) {
                refused(kind, 0, kind + 10, 1, MAX, 3);
                refused(kind, 0, kind + 10, MAX, 1, 3);
                refused(kind, 0, kind + 10, MAX, 3, 3);
                refused(kind, 0, kind + 10, MAX, MAX, 3);
                refused(kind, 0, kind + 10, 2, MAX - 1, 3);
            }
        });
        edges.promise(24, BEYOND, "the largest number of cells, with no wrap-around", () -> {
            refused(Kinds.INT, 0, Kinds.INT + 10, 0, MAX, 3);
            refused(Kinds.DOUBLE, 0, Kinds.DOUBLE + 10, 0, MAX, 3);
        });
        edges.promise(24, NEGATIVE, "the difference of length and number wraps around", () -> {
            refused(Kinds.INT, 0, Kinds.INT + 10, 0, MIN, 3);
            refused(Kinds.INT, MAX, Kinds.INT + 10, MAX, MIN, 3);
            refused(Kinds.INT, 3, Kinds.INT + 10, 3, MIN + 2, 3);
        });
    }

    private static void partsOfNoCells(Edges edges) {
        for (int kind = Kinds.BOOLEAN; kind <= Kinds.DOUBLE; kind++) {
            int k = kind;
            edges.promise(24, COPIES, "a part of 0 cells at the beginning, inside and at the end, kind " + k, () -> {
                for (int fromIndex : new int[] {0, 1, 3}) {
                    for (int toIndex : new int[] {0, 1, 5}) {
                        TypedColumns x = Kinds.filled(3);
                        x.create(k, 5);
                        Check.countsOnly(x, "copy(" + k + ", " + fromIndex + ", 10, " + toIndex + ", 0)",
                                () -> x.copy(k, fromIndex, 10, toIndex, 0), 0, 0);
                    }
                }
            });
            edges.promise(24, COPIES, "a part of 0 cells in columns with length 0, kind " + k, () -> {
                TypedColumns x = new TypedColumns();
                x.create(k, 0);
                x.create(k, 0);
                x.create(k, 2);
                Check.countsOnly(x, "copy(0, 0, 1, 0, 0)", () -> x.copy(0, 0, 1, 0, 0), 0, 0);
                Check.countsOnly(x, "copy(0, 0, 0, 0, 0)", () -> x.copy(0, 0, 0, 0, 0), 0, 0);
                Check.countsOnly(x, "copy(0, 0, 2, 2, 0)", () -> x.copy(0, 0, 2, 2, 0), 0, 0);
                Check.countsOnly(x, "copy(2, 2, 0, 0, 0)", () -> x.copy(2, 2, 0, 0, 0), 0, 0);
            });
        }
    }

    private static void wholeColumns(Edges edges) {
        for (int kind = Kinds.BOOLEAN; kind <= Kinds.DOUBLE; kind++) {
            int k = kind;
            edges.promise(24, COPIES, "one cell, the last to the first and the first to the last, kind " + k, () -> {
                TypedColumns x = new TypedColumns();
                x.create(k, 3);
                x.create(k, 40);
                Kinds.writeOne(x, k, 0, 2);
                Check.same("copy(0, 2, 1, 0, 1)", x.copy(0, 2, 1, 0, 1), 0);
                Check.same("copy(0, 2, 1, 39, 1)", x.copy(0, 2, 1, 39, 1), 0);
                Check.same("copy(0, 0, 0, 2, 1)", x.copy(0, 0, 0, 2, 1), 0);
                Check.same("the first cell", x.readAny(1, 0), 1.0);
                Check.same("the last cell", x.readAny(1, 39), 1.0);
                Check.same("all cells", x.total(1), 2.0);
                Check.same("the cell that was overwritten", x.readAny(0, 2), 0.0);
            });
            edges.promise(24, COPIES, "all 40 cells, kind " + k, () -> {
                TypedColumns x = new TypedColumns();
                x.create(k, 40);
                x.create(k, 40);
                for (int i = 0; i < 40; i += 3) {
                    Kinds.writeOne(x, k, 0, i);
                }
                int[] before = Check.counts(x);
                Check.same("copy(0, 0, 1, 0, 40)", x.copy(0, 0, 1, 0, 40), 0);
                Check.oneMore(x, "the copy", before, 0);
                for (int i = 0; i < 40; i++) {
                    Check.same("cell " + i + " from which", x.readAny(0, i), i % 3 == 0 ? 1.0 : 0.0);
                    Check.same("cell " + i + " to which", x.readAny(1, i), i % 3 == 0 ? 1.0 : 0.0);
                }
            });
        }
    }

    private static void valuesStayTheSame(Edges edges) {
        edges.promise(24, COPIES, "LONGs that no double holds", () -> {
            TypedColumns x = new TypedColumns();
            x.create(6, 4);
            x.writeLong(0, 0, Long.MAX_VALUE);
            x.writeLong(0, 1, 9007199254740993L);
            x.copy(0, 0, 0, 2, 2);
            Check.same("a copy", x.readLong(0, 2), Long.MAX_VALUE);
            Check.same("another", x.readLong(0, 3), 9007199254740993L);
        });
        edges.promise(24, COPIES, "-0 and what is no number", () -> {
            TypedColumns x = Kinds.store(4);
            x.writeFloat(7, 0, -0f);
            x.writeFloat(7, 1, Float.NaN);
            x.writeDouble(8, 0, -0d);
            x.writeDouble(8, 1, Double.NaN);
            x.copy(7, 0, 7, 2, 2);
            x.copy(8, 0, 8, 2, 2);
            Check.same("-0 as FLOAT", x.readFloat(7, 2), -0f);
            Check.same("no number as FLOAT", x.readFloat(7, 3), Float.NaN);
            Check.same("-0 as DOUBLE", x.readDouble(8, 2), -0d);
            Check.same("no number as DOUBLE", x.readDouble(8, 3), Double.NaN);
        });
    }

    private static void overlap(int kind, int fromIndex, int toIndex, int many) {
        TypedColumns x = new TypedColumns();
        x.create(kind, 40);
        double[] due = new double[40];
        for (int i = 0; i < 40; i++) {
            due[i] = kind == Kinds.BOOLEAN ? (i * i / 2) % 2 : i + 1;
            Kinds.write(x, kind, 0, i, (long) due[i]);
        }
        double[] before = due.clone();
        for (int i = 0; i < many; i++) {
            due[toIndex + i] = before[fromIndex + i];
        }
        String what = "copy(0, " + fromIndex + ", 0, " + toIndex + ", " + many + ")";
        Check.same(what, x.copy(0, fromIndex, 0, toIndex, many), 0);
        for (int i = 0; i < 40; i++) {
            Check.same("cell " + i + " after " + what, x.readAny(0, i), due[i]);
        }
    }

    private static void overlaps(Edges edges) {
        for (int kind = Kinds.BOOLEAN; kind <= Kinds.DOUBLE; kind++) {
            int k = kind;
            edges.promise(24, BEFORE, "parts that overlap, upwards, kind " + k, () -> {
                overlap(k, 0, 1, 39);
                overlap(k, 3, 7, 20);
            });
            edges.promise(24, BEFORE, "parts that overlap, downwards, kind " + k, () -> {
                overlap(k, 1, 0, 39);
                overlap(k, 7, 3, 20);
            });
            edges.promise(24, BEFORE, "parts that overlap in one cell, or touch, kind " + k, () -> {
                overlap(k, 0, 19, 20);
                overlap(k, 19, 0, 20);
                overlap(k, 0, 20, 20);
                overlap(k, 20, 0, 20);
            });
            edges.promise(24, BEFORE, "a part onto itself, kind " + k, () -> {
                overlap(k, 0, 0, 40);
                overlap(k, 5, 5, 3);
            });
        }
    }

    private static void eachCode() {
        TypedColumns x = Kinds.store(3);
        Check.same("a copy that is granted", x.copy(5, 0, 5, 1, 2), 0);
        Check.same("code()", x.code(), 0);
        Check.same("a copy of NOTHING", x.copy(0, 0, 5, 1, 2), 1);
        Check.same("code()", x.code(), 1);
        Check.same("a copy outside", x.copy(5, 0, 5, 2, 2), 3);
        Check.same("code()", x.code(), 3);
        Check.same("a copy between kinds", x.copy(4, 0, 5, 0, 2), 5);
        Check.same("code()", x.code(), 5);
        int[] due = {1, 1, 0, 1, 0, 1};
        for (int k = 0; k <= 5; k++) {
            Check.same("count(" + k + ")", x.count(k), due[k]);
        }
    }
}
