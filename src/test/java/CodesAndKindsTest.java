/** Promises 27 to 31: code, count, hasCells, isNumber, canWiden. */
public final class CodesAndKindsTest {
    private static final int MIN = Integer.MIN_VALUE;
    private static final int MAX = Integer.MAX_VALUE;

    public static void main(String[] args) {
        eachAccessIsCounted();
        otherMethodsAreNoAccess();
        countRefuses();
        hasCellsAndIsNumber();
        canWidenForEachPair();
        kindsThatAreNone();
        Check.end();
    }

    private static void eachAccessIsCounted() {
        TypedColumns x = Kinds.store(2);
        int[] accesses = {0, 3, 4, 1, 2, 5, 3, 3, 0, 5};
        int[] due = new int[6];
        for (int code : accesses) {
            switch (code) {
                case 0: x.length(5); break;
                case 1: x.readLong(0, 0); break;
                case 2: x.writeFloat(9, 0, 1); break;
                case 3: x.readAny(5, 2); break;
                case 4: x.widened(5, 2); break;
                default: x.copy(5, 0, 6, 0, 1);
            }
            due[code]++;
            Check.same("code() after an access with code " + code, x.code(), code);
            for (int k = 0; k <= 5; k++) {
                Check.same("count(" + k + ")", x.count(k), due[k]);
            }
        }
    }

    private static void otherMethodsAreNoAccess() {
        TypedColumns x = Kinds.store(2);
        x.copy(9, 0, 9, 0, 0);
        int[] before = Check.counts(x);
        x.create(5, 1);
        x.columnCount();
        x.kind(0);
        x.code();
        x.count(0);
        x.hasCells(0);
        x.isNumber(0);
        x.canWiden(0, 0);
        x.digest();
        Check.same("code() after what is no access", x.code(), 5);
        for (int k = 0; k <= 5; k++) {
            Check.same("count(" + k + ") after what is no access", x.count(k), before[k]);
        }
    }

    private static void countRefuses() {
        TypedColumns x = Kinds.store(2);
        x.length(0);
        for (int code : new int[] {-1, 6, MIN, MAX}) {
            Check.refuses(x, "count(" + code + ")", () -> x.count(code), IndexOutOfBoundsException.class);
        }
    }

    private static void hasCellsAndIsNumber() {
        TypedColumns x = new TypedColumns();
        boolean[] cells = {false, true, true, true, true, true, true, true, true, false};
        boolean[] number = {false, false, true, false, true, true, true, true, true, false};
        for (int kind = 0; kind <= 9; kind++) {
            Check.same("hasCells(" + kind + ")", x.hasCells(kind), cells[kind]);
            Check.same("isNumber(" + kind + ")", x.isNumber(kind), number[kind]);
        }
    }

    private static void canWidenForEachPair() {
        TypedColumns x = new TypedColumns();
        for (int from = 0; from <= 9; from++) {
            for (int to = 0; to <= 9; to++) {
                Check.same("canWiden(" + from + ", " + to + ")", x.canWiden(from, to), Kinds.widens(from, to));
            }
        }
    }

    private static void kindsThatAreNone() {
        TypedColumns x = Kinds.store(2);
        x.length(0);
        for (int kind : new int[] {-1, 10, MIN, MAX}) {
            Check.refuses(x, "hasCells(" + kind + ")", () -> x.hasCells(kind), IndexOutOfBoundsException.class);
            Check.refuses(x, "isNumber(" + kind + ")", () -> x.isNumber(kind), IndexOutOfBoundsException.class);
            for (int other : new int[] {0, 5, 9, 11}) {
                Check.refuses(x, "canWiden(" + kind + ", " + other + ")",
                        () -> x.canWiden(kind, other), IndexOutOfBoundsException.class);
                Check.refuses(x, "canWiden(" + other + ", " + kind + ")",
                        () -> x.canWiden(other, kind), IndexOutOfBoundsException.class);
            }
        }
    }
}
