/** Promises 1 to 5: a new object, create, columnCount, kind, length. */
public final class CreationTest {
    private static final int MIN = Integer.MIN_VALUE;
    private static final int MAX = Integer.MAX_VALUE;

    public static void main(String[] args) {
        aNewObjectIsEmpty();
        objectsAreApart();
        createNumbersTheColumns();
        createRefusesKindsAndLengths();
        createRefusesTheColumnBeyondSixty();
        cellsAreZeroAtFirst();
        kindAndLengthTellWhatWasCreated();
        kindIsNoAccessAndLengthIsOne();
        noSuchColumn();
        Check.end();
    }

    private static void aNewObjectIsEmpty() {
        TypedColumns x = new TypedColumns();
        Check.same("columnCount() of a new object", x.columnCount(), 0);
        Check.same("code() of a new object", x.code(), 0);
        for (int k = 0; k <= 5; k++) {
            Check.same("count of a new object", x.count(k), 0);
        }
        Check.refuses(x, "kind(0) of a new object", () -> x.kind(0), IndexOutOfBoundsException.class);
    }

    private static void objectsAreApart() {
        TypedColumns x = new TypedColumns();
        TypedColumns y = new TypedColumns();
        x.create(5, 1);
        x.writeInt(0, 0, 7);
        Check.same("columnCount() of the other object", y.columnCount(), 0);
        Check.same("count(0) of the other object", y.count(0), 0);
    }

    private static void createNumbersTheColumns() {
        TypedColumns x = new TypedColumns();
        for (int kind = 0; kind <= 9; kind++) {
            int due = kind;
            int before = x.count(0);
            Check.same("create(" + kind + ", 40)", x.create(kind, 40), due);
            Check.same("columnCount()", x.columnCount(), due + 1);
            Check.same("create is no access", x.count(0), before);
        }
        Check.same("create(0, -1)", x.create(0, -1), 10);
        Check.same("create(9, 41)", x.create(9, 41), 11);
        Check.same("create(0, MAX)", x.create(0, MAX), 12);
        Check.same("create(9, MIN)", x.create(9, MIN), 13);
        Check.same("create(8, 0)", x.create(8, 0), 14);
    }

    private static void createRefusesKindsAndLengths() {
        TypedColumns x = Kinds.store(3);
        x.readInt(0, 0);
        for (int kind : new int[] {-1, 10, MIN, MAX}) {
            Check.refuses(x, "create(" + kind + ", 3)", () -> x.create(kind, 3), IllegalArgumentException.class);
        }
        for (int kind = 1; kind <= 8; kind++) {
            int k = kind;
            for (int length : new int[] {-1, 41, MIN, MAX}) {
                Check.refuses(x, "create(" + k + ", " + length + ")",
                        () -> x.create(k, length), IllegalArgumentException.class);
            }
        }
    }

    private static void createRefusesTheColumnBeyondSixty() {
        TypedColumns x = new TypedColumns();
        for (int c = 0; c < 60; c++) {
            Check.same("create, column " + c, x.create(c % 10, 2), c);
        }
        Check.same("columnCount() when full", x.columnCount(), 60);
        Check.same("kind(59)", x.kind(59), 9);
        Check.refuses(x, "kind(60)", () -> x.kind(60), IndexOutOfBoundsException.class);
        Check.refuses(x, "create(5, 2) when full", () -> x.create(5, 2), IllegalStateException.class);
        Check.refuses(x, "create(0, 0) when full", () -> x.create(0, 0), IllegalStateException.class);
        Check.refuses(x, "create(10, 2) when full", () -> x.create(10, 2), IllegalArgumentException.class);
        Check.refuses(x, "create(1, 41) when full", () -> x.create(1, 41), IllegalArgumentException.class);
    }

    private static void cellsAreZeroAtFirst() {
        TypedColumns x = Kinds.store(2);
        for (int kind = 1; kind <= 8; kind++) {
            for (int i = 0; i < 2; i++) {
                Check.same("a new cell of kind " + kind, Kinds.read(x, kind, kind, i), Kinds.zero(kind));
                Check.same("its code", x.code(), 0);
            }
        }
    }

    private static void kindAndLengthTellWhatWasCreated() {
        for (int length : new int[] {0, 1, 39, 40}) {
            TypedColumns x = Kinds.store(length);
            for (int kind = 0; kind <= 9; kind++) {
                boolean cells = kind >= 1 && kind <= 8;
                Check.same("kind(" + kind + ")", x.kind(kind), kind);
                Check.same("length(" + kind + ")", x.length(kind), cells ? length : -1);
                Check.same("code()", x.code(), kind == 0 ? 1 : kind == 9 ? 2 : 0);
            }
        }
    }

    private static void kindIsNoAccessAndLengthIsOne() {
        TypedColumns x = Kinds.store(4);
        int[] before = Check.counts(x);
        x.length(0);
        Check.oneMore(x, "length(0)", before, 1);
        x.kind(5);
        x.columnCount();
        Check.oneMore(x, "length(0), kind(5) and columnCount()", before, 1);
        before = Check.counts(x);
        x.length(9);
        Check.oneMore(x, "length(9)", before, 2);
        before = Check.counts(x);
        x.length(5);
        Check.oneMore(x, "length(5)", before, 0);
    }

    private static void noSuchColumn() {
        TypedColumns x = Kinds.store(4);
        x.length(9);
        for (int c : new int[] {-1, 10, 59, 60, 61, MIN, MAX}) {
            Check.refuses(x, "kind(" + c + ")", () -> x.kind(c), IndexOutOfBoundsException.class);
            Check.refuses(x, "length(" + c + ")", () -> x.length(c), IndexOutOfBoundsException.class);
        }
    }
}
