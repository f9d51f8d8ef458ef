/** The boundary cases of promises 1 to 5: a new object, create, columnCount, kind, length. */
final class CreationEdges {
    private static final int MIN = Integer.MIN_VALUE;
    private static final int MAX = Integer.MAX_VALUE;
    private static final int[] TOO_SMALL = {-1, -2, MIN};

    private CreationEdges() {
    }

    static void run(Edges edges) {
        aNewObject(edges);
        kindsOfCreate(edges);
        lengthsOfCreate(edges);
        numbersOfCreate(edges);
        columnsOfCreate(edges);
        columnCount(edges);
        kind(edges);
        length(edges);
    }

    private static void aNewObject(Edges edges) {
        String words = "Creates a store without columns.";
        edges.promise(1, words, "there are no columns", () ->
                Check.same("columnCount()", new TypedColumns().columnCount(), 0));
        edges.promise(1, words, "column 0 is not there", () -> {
            TypedColumns x = new TypedColumns();
            Check.refuses(x, "kind(0)", () -> x.kind(0), IndexOutOfBoundsException.class);
            Check.refuses(x, "readAny(0, 0)", () -> x.readAny(0, 0), IndexOutOfBoundsException.class);
        });
        edges.promise(1, words, "nothing has been accessed", () -> {
            TypedColumns x = new TypedColumns();
            Check.same("code()", x.code(), 0);
            for (int k = 0; k <= 5; k++) {
                Check.same("count(" + k + ")", x.count(k), 0);
            }
        });
        edges.promise(1, words, "two stores share nothing", () -> {
            TypedColumns x = Kinds.filled(2);
            TypedColumns y = new TypedColumns();
            Check.same("columnCount() of the new one", y.columnCount(), 0);
            Check.same("count(0) of the new one", y.count(0), 0);
            y.create(5, 2);
            Check.same("columnCount() of the old one", x.columnCount(), 10);
            Check.same("total(0) of the new one", y.total(0), 0.0);
            Check.same("total(5) of the old one", x.total(5), 2.0);
        });
    }

    private static void refusesToCreate(TypedColumns x, int kind, int length) {
        Check.refuses(x, "create(" + kind + ", " + length + ")", () -> x.create(kind, length),
                IllegalArgumentException.class);
    }

    private static void kindsOfCreate(Edges edges) {
        String words = "kind is not 0 to 9";
        edges.promise(2, words, "a kind too small", () -> {
            for (int kind : TOO_SMALL) {
                refusesToCreate(new TypedColumns(), kind, 3);
                refusesToCreate(Kinds.store(2), kind, 0);
            }
        });
        edges.promise(2, words, "a kind too large", () -> {
            for (int kind : new int[] {10, 11, MAX}) {
                refusesToCreate(new TypedColumns(), kind, 3);
                refusesToCreate(Kinds.store(2), kind, 0);
            }
        });
        edges.promise(2, words, "a kind and a length that are both wrong", () -> {
            refusesToCreate(Kinds.store(2), -1, -1);
            refusesToCreate(Kinds.store(2), 10, 41);
        });
        edges.promise(2, "Creates a column.", "the smallest and the largest kind", () -> {
            TypedColumns x = new TypedColumns();
            Check.same("create(0, 3)", x.create(0, 3), 0);
            Check.same("create(9, 3)", x.create(9, 3), 1);
            Check.same("kind(0)", x.kind(0), 0);
            Check.same("kind(1)", x.kind(1), 9);
        });
    }

    private static void lengthsOfCreate(Edges edges) {
        String words = "it is 1 to 8 and length is not 0 to 40";
        for (int kind = Kinds.BOOLEAN; kind <= Kinds.DOUBLE; kind++) {
            int k = kind;
            edges.promise(2, words, "a length too small for kind " + k, () -> {
                for (int length : TOO_SMALL) {
                    refusesToCreate(Kinds.store(2), k, length);
                }
            });
            edges.promise(2, words, "a length too large for kind " + k, () -> {
                for (int length : new int[] {41, 42, MAX}) {
                    refusesToCreate(Kinds.store(2), k, length);
                }
            });
            edges.promise(2, "Creates a column.", "the smallest and the largest length of kind " + k, () -> {
                TypedColumns x = new TypedColumns();
                Check.same("create with length 0", x.create(k, 0), 0);
                Check.same("create with length 40", x.create(k, 40), 1);
                Check.same("length(0)", x.length(0), 0);
                Check.same("length(1)", x.length(1), 40);
                Check.same("the last cell", x.readAny(1, 39), 0.0);
                Check.same("code()", x.code(), 0);
            });
        }
        for (int kind : new int[] {Kinds.NOTHING, Kinds.LABEL}) {
            edges.promise(2, "its length, which has no meaning for NOTHING and LABEL", "any length of kind " + kind,
                    () -> lengthsWithoutMeaning(kind));
        }
    }

    private static void lengthsWithoutMeaning(int kind) {
        for (int length : new int[] {MIN, -1, 0, 1, 40, 41, MAX}) {
            TypedColumns x = new TypedColumns();
            Check.same("create(" + kind + ", " + length + ")", x.create(kind, length), 0);
            Check.same("columnCount()", x.columnCount(), 1);
            Check.same("length(0)", x.length(0), -1);
            Check.same("readAny(0, 0)", x.readAny(0, 0), 0.0);
            Check.same("code()", x.code(), kind == Kinds.NOTHING ? 1 : 2);
        }
    }

    private static void numbersOfCreate(Edges edges) {
        String words = "Returns the number of the column.";
        edges.promise(2, words, "from the first column to the last", () -> {
            TypedColumns x = new TypedColumns();
            for (int c = 0; c < 60; c++) {
                Check.same("create, column " + c, x.create((c + 3) % 10, 1), c);
                Check.same("its kind", x.kind(c), (c + 3) % 10);
            }
        });
        edges.promise(2, words, "a refused call takes no number", () -> {
            TypedColumns x = new TypedColumns();
            refusesToCreate(x, 10, 1);
            Check.same("create(5, 1)", x.create(5, 1), 0);
            refusesToCreate(x, 5, 41);
            Check.same("create(6, 1)", x.create(6, 1), 1);
        });
    }

    private static void columnsOfCreate(Edges edges) {
        String words = "if there are 60 columns";
        edges.promise(2, words, "the last column is granted", () -> {
            TypedColumns x = new TypedColumns();
            for (int c = 0; c < 59; c++) {
                x.create(0, 0);
            }
            Check.same("create(8, 40), the 60th", x.create(8, 40), 59);
            Check.same("writeDouble(59, 39, 0.5)", x.writeDouble(59, 39, 0.5), 0);
            Check.same("readDouble(59, 39)", x.readDouble(59, 39), 0.5);
        });
        for (int kind = Kinds.NOTHING; kind <= Kinds.LABEL; kind++) {
            int k = kind;
            edges.promise(2, words, "one more is refused, kind " + k, () -> {
                TypedColumns x = Kinds.full(2);
                for (int length : new int[] {0, 40}) {
                    Check.refuses(x, "create(" + k + ", " + length + ")", () -> x.create(k, length),
                            IllegalStateException.class);
                }
            });
        }
        edges.promise(2, words, "columns that widened made count too", () -> {
            TypedColumns x = new TypedColumns();
            x.create(5, 1);
            for (int c = 1; c < 60; c++) {
                Check.same("widened(0, 6)", x.widened(0, 6), c);
            }
            Check.refuses(x, "create(5, 1)", () -> x.create(5, 1), IllegalStateException.class);
        });
        edges.promise(2, "Throws `IllegalArgumentException` if kind is not 0 to 9", "before there are 60 columns",
                () -> {
                    refusesToCreate(Kinds.full(2), -1, 2);
                    refusesToCreate(Kinds.full(2), 10, 2);
                    refusesToCreate(Kinds.full(2), 1, -1);
                    refusesToCreate(Kinds.full(2), 8, 41);
                });
    }

    private static void columnCount(Edges edges) {
        String words = "Returns the number of columns.";
        edges.promise(3, words, "no column, one column, and 60", () -> {
            TypedColumns x = new TypedColumns();
            Check.same("columnCount() of a new object", x.columnCount(), 0);
            for (int c = 1; c <= 60; c++) {
                x.create(c % 10, 2);
                Check.same("columnCount()", x.columnCount(), c);
            }
        });
        edges.promise(3, words, "a refused call adds none", () -> {
            TypedColumns x = Kinds.store(2);
            refusesToCreate(x, 10, 2);
            x.widened(5, 4);
            x.widened(0, 5);
            x.widened(9, 5);
            Check.same("columnCount()", x.columnCount(), 10);
            TypedColumns y = Kinds.full(2);
            Check.answers("create(5, 2) when full", () -> y.create(5, 2), "throws.IllegalStateException");
            Check.answers("widened(5, 6) when full", () -> y.widened(5, 6), "throws.IllegalStateException");
            Check.same("columnCount() when full", y.columnCount(), 60);
        });
        edges.promise(3, words, "a granted call of widened adds one", () -> {
            TypedColumns x = Kinds.store(0);
            x.widened(5, 5);
            Check.same("columnCount()", x.columnCount(), 11);
        });
    }

    private static void kind(Edges edges) {
        edges.promise(4, "Returns its kind.", "each kind, in the first column and in the last", () -> {
            for (int kind = Kinds.NOTHING; kind <= Kinds.LABEL; kind++) {
                TypedColumns x = new TypedColumns();
                for (int c = 0; c < 60; c++) {
                    x.create(c == 0 || c == 59 ? kind : (kind + 1) % 10, 0);
                }
                Check.same("kind(0)", x.kind(0), kind);
                Check.same("kind(1)", x.kind(1), (kind + 1) % 10);
                Check.same("kind(59)", x.kind(59), kind);
            }
        });
        edges.noSuchColumn(4, (x, c) -> x.kind(c));
    }

    private static void length(Edges edges) {
        String words = "Returns its length; -1 if it has none (code 1 or 2).";
        for (int kind = Kinds.BOOLEAN; kind <= Kinds.DOUBLE; kind++) {
            int k = kind;
            edges.promise(5, words, "the smallest and the largest length of kind " + k, () -> {
                for (int length : new int[] {0, 1, 39, 40}) {
                    TypedColumns x = new TypedColumns();
                    x.create(k, length);
                    Check.countsOnly(x, "length(0)", () -> x.length(0), length, 0);
                }
            });
        }
        for (int length : new int[] {MIN, -1, 0, 40, MAX}) {
            edges.promise(5, words, "NOTHING has none, created with length " + length, () -> {
                TypedColumns x = new TypedColumns();
                x.create(0, length);
                Check.countsOnly(x, "length(0)", () -> x.length(0), -1, 1);
            });
            edges.promise(5, words, "a LABEL has none, created with length " + length, () -> {
                TypedColumns x = new TypedColumns();
                x.create(9, length);
                Check.countsOnly(x, "length(0)", () -> x.length(0), -1, 2);
            });
        }
        edges.noSuchColumn(5, (x, c) -> x.length(c));
    }
}
