/** The boundary cases of promises 27 to 31: code, count, hasCells, isNumber, canWiden. */
final class CodesAndKindsEdges {
    private static final int MIN = Integer.MIN_VALUE;
    private static final int MAX = Integer.MAX_VALUE;
    private static final int[] TOO_SMALL = {-1, -2, MIN};
    private static final int[] TOO_LARGE = {10, 11, MAX};

    /** A question about a kind. */
    private interface KindCall {
        Object answer(TypedColumns x, int kind);
    }

    private CodesAndKindsEdges() {
    }

    static void run(Edges edges) {
        code(edges);
        count(edges);
        hasCells(edges);
        isNumber(edges);
        canWiden(edges);
    }

    /** Makes an access with a code in a store with ten columns of 2 cells. */
    private static void access(TypedColumns x, int code) {
        switch (code) {
            case 0: x.length(5); break;
            case 1: x.length(0); break;
            case 2: x.length(9); break;
            case 3: x.readInt(5, 2); break;
            case 4: x.writeInt(4, 0, 1); break;
            default: x.copy(5, 0, 6, 0, 1);
        }
    }

    private static void code(Edges edges) {
        String words = "Returns the code of the latest access; 0 if there was none.";
        edges.promise(27, words, "there was none", () -> {
            TypedColumns x = new TypedColumns();
            Check.same("code() of a new object", x.code(), 0);
            x.create(0, 0);
            x.kind(0);
            x.columnCount();
            x.count(1);
            x.digest();
            Check.same("code() after what is no access", x.code(), 0);
            Check.answers("readInt(1, 0)", () -> x.readInt(1, 0), "throws.IndexOutOfBoundsException");
            Check.same("code() after a call that throws", x.code(), 0);
        });
        for (int first = 0; first <= 5; first++) {
            int f = first;
            edges.promise(27, words, "the latest after one with code " + first, () -> {
                for (int next = 0; next <= 5; next++) {
                    TypedColumns x = Kinds.store(2);
                    access(x, f);
                    Check.same("code()", x.code(), f);
                    Check.same("code() once more", x.code(), f);
                    access(x, next);
                    Check.same("code() after one with code " + next, x.code(), next);
                }
            });
        }
    }

    private static void count(Edges edges) {
        String words = "Returns how many accesses had this code.";
        edges.promise(28, words, "none", () -> {
            TypedColumns x = Kinds.store(2);
            for (int k = 0; k <= 5; k++) {
                Check.same("count(" + k + ")", x.count(k), 0);
            }
        });
        for (int code = 0; code <= 5; code++) {
            int due = code;
            edges.promise(28, words, "as many with code " + code + " as an object's calls allow", () -> {
                TypedColumns x = Kinds.store(2);
                for (int k = 1; k <= 490; k++) {
                    access(x, due);
                }
                for (int k = 0; k <= 5; k++) {
                    Check.same("count(" + k + ")", x.count(k), k == due ? 490 : 0);
                }
            });
        }
        String throwing = "Throws `IndexOutOfBoundsException` if code is not 0 to 5";
        edges.promise(28, throwing, "a code too small", () -> {
            for (int code : TOO_SMALL) {
                refusesCount(code);
            }
        });
        edges.promise(28, throwing, "a code too large", () -> {
            for (int code : new int[] {6, 7, MAX}) {
                refusesCount(code);
            }
        });
    }

    private static void refusesCount(int code) {
        TypedColumns x = Kinds.store(2);
        access(x, 5);
        Check.refuses(x, "count(" + code + ")", () -> x.count(code), IndexOutOfBoundsException.class);
        TypedColumns y = new TypedColumns();
        Check.refuses(y, "count(" + code + ") of a new object", () -> y.count(code), IndexOutOfBoundsException.class);
    }

    private static void hasCells(Edges edges) {
        boolean[] cells = {false, true, true, true, true, true, true, true, true, false};
        edges.promise(29, "Returns whether a column of this kind has cells.", "NOTHING and LABEL have none", () -> {
            TypedColumns x = new TypedColumns();
            for (int kind = 0; kind <= 9; kind++) {
                Check.same("hasCells(" + kind + ")", x.hasCells(kind), cells[kind]);
            }
        });
        noSuchKind(edges, 29, "Throws `IndexOutOfBoundsException` if kind is not 0 to 9", "the kind",
                (x, kind) -> x.hasCells(kind));
    }

    private static void isNumber(Edges edges) {
        String words = "Returns whether the cells of a column of this kind are numbers "
                + "(integers other than CHAR, or floating-point numbers).";
        int[] numbers = {Kinds.BYTE, Kinds.SHORT, Kinds.INT, Kinds.LONG, Kinds.FLOAT, Kinds.DOUBLE};
        edges.promise(30, words, "those that are", () -> {
            for (int kind : numbers) {
                Check.same("isNumber(" + kind + ")", new TypedColumns().isNumber(kind), true);
            }
        });
        edges.promise(30, words, "CHAR and BOOLEAN are none", () -> {
            Check.same("isNumber(3)", new TypedColumns().isNumber(3), false);
            Check.same("isNumber(1)", new TypedColumns().isNumber(1), false);
        });
        edges.promise(30, words, "NOTHING and LABEL have no cells", () -> {
            Check.same("isNumber(0)", new TypedColumns().isNumber(0), false);
            Check.same("isNumber(9)", new TypedColumns().isNumber(9), false);
        });
        noSuchKind(edges, 30, "Throws `IndexOutOfBoundsException` if kind is not 0 to 9", "the kind",
                (x, kind) -> x.isNumber(kind));
    }

    private static void noSuchKind(Edges edges, int number, String words, String which, KindCall call) {
        edges.promise(number, words, which + " is too small", () -> {
            for (int kind : TOO_SMALL) {
                refusesKind(call, kind);
            }
        });
        edges.promise(number, words, which + " is too large", () -> {
            for (int kind : TOO_LARGE) {
                refusesKind(call, kind);
            }
        });
    }

    private static void refusesKind(KindCall call, int kind) {
        TypedColumns x = Kinds.store(2);
        access(x, 3);
        Check.refuses(x, "the question about kind " + kind, () -> call.answer(x, kind),
                IndexOutOfBoundsException.class);
    }

    private static void canWiden(Edges edges) {
        String words = "Returns whether a value of one kind can be widened to the other one";
        for (int from = Kinds.BOOLEAN; from <= Kinds.DOUBLE; from++) {
            int f = from;
            edges.promise(31, words, "kind " + from + " to each", () -> {
                for (int to = Kinds.BOOLEAN; to <= Kinds.DOUBLE; to++) {
                    Check.same("canWiden(" + f + ", " + to + ")", new TypedColumns().canWiden(f, to),
                            Kinds.widens(f, to));
                }
            });
        }
        for (int kind : new int[] {Kinds.NOTHING, Kinds.LABEL}) {
            edges.promise(31, "false if one of them has no cells", "kind " + kind + ", to itself too", () -> {
                TypedColumns x = new TypedColumns();
                for (int other = Kinds.NOTHING; other <= Kinds.LABEL; other++) {
                    Check.same("canWiden(" + kind + ", " + other + ")", x.canWiden(kind, other), false);
                    Check.same("canWiden(" + other + ", " + kind + ")", x.canWiden(other, kind), false);
                }
            });
        }
        String throwing = "Throws `IndexOutOfBoundsException` if one of them is not 0 to 9";
        for (int other : new int[] {Kinds.NOTHING, Kinds.BOOLEAN, Kinds.INT, Kinds.LABEL}) {
            noSuchKind(edges, 31, throwing, "the first, the second being " + other,
                    (x, kind) -> x.canWiden(kind, other));
            noSuchKind(edges, 31, throwing, "the second, the first being " + other,
                    (x, kind) -> x.canWiden(other, kind));
        }
        noSuchKind(edges, 31, throwing, "each of the two", (x, kind) -> x.canWiden(kind, kind));
    }
}
