/** A store of typed columns, whose cells are read and written as their own kind or a wider one. */
public final class TypedColumns {
    private static final int NOTHING = 0;
    private static final int BOOLEAN = 1;
    private static final int BYTE = 2;
    private static final int CHAR = 3;
    private static final int SHORT = 4;
    private static final int INT = 5;
    private static final int LONG = 6;
    private static final int FLOAT = 7;
    private static final int DOUBLE = 8;
    private static final int LABEL = 9;

    private static final int GRANTED = 0;
    private static final int NOTHING_THERE = 1;
    private static final int NO_CELLS = 2;
    private static final int OUTSIDE = 3;
    private static final int OTHER_KIND = 4;
    private static final int NOT_ALIKE = 5;
    private static final int CODES = 6;

    private static final int MOST_COLUMNS = 60;
    private static final int MOST_CELLS = 40;
    private static final int NO_LENGTH = -1;
    private static final int NO_COLUMN = -1;

    private final Column[] columns;
    private final int[] counts;
    private final DoubleBits doubleBits;
    private int created;
    private int latestCode;

    public TypedColumns() {
        columns = new Column[MOST_COLUMNS];
        counts = new int[CODES];
        doubleBits = new DoubleBits();
        created = 0;
        latestCode = GRANTED;
    }

    public int create(int kind, int length) throws IllegalArgumentException, IllegalStateException {
        if (!isKind(kind)) {
            throw new IllegalArgumentException("no such kind");
        }
        if (holdsCells(kind) && !isLength(length)) {
            throw new IllegalArgumentException("no such length");
        }
        refuseWhenFull();
        return addColumn(new Column(kind, length));
    }

    public int columnCount() {
        return created;
    }

    public int kind(int c) throws IndexOutOfBoundsException {
        return columnAt(c).kind;
    }

    public int length(int c) throws IndexOutOfBoundsException {
        Column column = columnAt(c);
        note(codeOfColumn(column));
        return column.length;
    }

    public boolean readBoolean(int c, int i) throws IndexOutOfBoundsException {
        return readWhole(columnAt(c), i, BOOLEAN) != 0;
    }

    public int readByte(int c, int i) throws IndexOutOfBoundsException {
        return (int) readWhole(columnAt(c), i, BYTE);
    }

    public int readChar(int c, int i) throws IndexOutOfBoundsException {
        return (int) readWhole(columnAt(c), i, CHAR);
    }

    public int readShort(int c, int i) throws IndexOutOfBoundsException {
        return (int) readWhole(columnAt(c), i, SHORT);
    }

    public int readInt(int c, int i) throws IndexOutOfBoundsException {
        return (int) readWhole(columnAt(c), i, INT);
    }

    public long readLong(int c, int i) throws IndexOutOfBoundsException {
        return readWhole(columnAt(c), i, LONG);
    }

    public float readFloat(int c, int i) throws IndexOutOfBoundsException {
        Column column = columnAt(c);
        int code = note(codeOfCell(column, i, column.kind, FLOAT));
        return code == GRANTED ? column.floatAt(i) : 0;
    }

    public double readDouble(int c, int i) throws IndexOutOfBoundsException {
        return readReal(columnAt(c), i, DOUBLE);
    }

    public double readAny(int c, int i) throws IndexOutOfBoundsException {
        Column column = columnAt(c);
        return readReal(column, i, column.kind);
    }

    public int writeBoolean(int c, int i, boolean value) throws IndexOutOfBoundsException {
        return writeWhole(columnAt(c), i, BOOLEAN, value ? 1 : 0);
    }

    public int writeByte(int c, int i, int value) throws IndexOutOfBoundsException {
        return writeWhole(columnAt(c), i, BYTE, (byte) value);
    }

    public int writeChar(int c, int i, int value) throws IndexOutOfBoundsException {
        return writeWhole(columnAt(c), i, CHAR, (char) value);
    }

    public int writeShort(int c, int i, int value) throws IndexOutOfBoundsException {
        return writeWhole(columnAt(c), i, SHORT, (short) value);
    }

    public int writeInt(int c, int i, int value) throws IndexOutOfBoundsException {
        return writeWhole(columnAt(c), i, INT, value);
    }

    public int writeLong(int c, int i, long value) throws IndexOutOfBoundsException {
        return writeWhole(columnAt(c), i, LONG, value);
    }

    public int writeFloat(int c, int i, float value) throws IndexOutOfBoundsException {
        return writeReal(columnAt(c), i, FLOAT, doubleOf(value));
    }

    public int writeDouble(int c, int i, double value) throws IndexOutOfBoundsException {
        return writeReal(columnAt(c), i, DOUBLE, value);
    }

    public int writeAny(int c, int i, int kind, int value)
            throws IndexOutOfBoundsException, IllegalArgumentException {
        Column column = columnAt(c);
        refuseWithoutCells(kind);
        if (kind == FLOAT) {
            return writeReal(column, i, kind, (float) value);
        }
        if (kind == DOUBLE) {
            return writeReal(column, i, kind, value);
        }
        return writeWhole(column, i, kind, wholeMadeFrom(value, kind));
    }

    public int copy(int from, int fromIndex, int to, int toIndex, int many)
            throws IndexOutOfBoundsException {
        Column source = columnAt(from);
        Column target = columnAt(to);
        int code = codeOfKinds(source, target);
        if (code == GRANTED
                && !(isPart(fromIndex, many, source.length) && isPart(toIndex, many, target.length))) {
            code = OUTSIDE;
        }
        if (code == GRANTED) {
            target.takeCells(source, fromIndex, toIndex, many);
        }
        return note(code);
    }

    public double total(int c) throws IndexOutOfBoundsException {
        Column column = columnAt(c);
        int code = note(codeOfColumn(column));
        return code == GRANTED ? column.sum() : 0;
    }

    public int widened(int c, int kind)
            throws IndexOutOfBoundsException, IllegalArgumentException, IllegalStateException {
        Column column = columnAt(c);
        refuseWithoutCells(kind);
        refuseWhenFull();
        int code = codeOfColumn(column);
        if (code == GRANTED && !widens(column.kind, kind)) {
            code = OTHER_KIND;
        }
        if (note(code) != GRANTED) {
            return NO_COLUMN;
        }
        Column wider = new Column(kind, column.length);
        wider.takeWidened(column);
        return addColumn(wider);
    }

    public int code() {
        return latestCode;
    }

    public int count(int code) throws IndexOutOfBoundsException {
        if (code < 0 || code >= counts.length) {
            throw new IndexOutOfBoundsException("no such code");
        }
        return counts[code];
    }

    public boolean hasCells(int kind) throws IndexOutOfBoundsException {
        refuseNoKind(kind);
        return holdsCells(kind);
    }

    public boolean isNumber(int kind) throws IndexOutOfBoundsException {
        refuseNoKind(kind);
        return kind == BYTE || (kind >= SHORT && kind <= DOUBLE);
    }

    public boolean canWiden(int from, int to) throws IndexOutOfBoundsException {
        refuseNoKind(from);
        refuseNoKind(to);
        return widens(from, to);
    }

    public long digest() {
        long d = mixed(53, created);
        for (int c = 0; c < created; c++) {
            d = mixedColumn(d, columnAt(c));
        }
        for (int count : counts) {
            d = mixed(d, count);
        }
        return d;
    }

    private static boolean isKind(int kind) {
        return kind >= NOTHING && kind <= LABEL;
    }

    private static boolean holdsCells(int kind) {
        return kind >= BOOLEAN && kind <= DOUBLE;
    }

    private static boolean isLength(int length) {
        return length >= 0 && length <= MOST_CELLS;
    }

    private static boolean isFloating(int kind) {
        return kind == FLOAT || kind == DOUBLE;
    }

    // The numbers of the kinds ascend as they widen, but for BOOLEAN and CHAR, which nothing else widens to.
    private static boolean widens(int from, int to) {
        if (!holdsCells(from) || !holdsCells(to)) {
            return false;
        }
        if (from == to) {
            return true;
        }
        if (from == BOOLEAN || to == CHAR) {
            return false;
        }
        return from == CHAR ? to >= INT : from < to;
    }

    private static boolean isPart(int first, int many, int length) {
        // length - many can't wrap around here, as first + many could
        return first >= 0 && many >= 0 && first <= length - many;
    }

    private static void refuseNoKind(int kind) {
        if (!isKind(kind)) {
            throw new IndexOutOfBoundsException("no such kind");
        }
    }

    private static void refuseWithoutCells(int kind) {
        if (!holdsCells(kind)) {
            throw new IllegalArgumentException("not a kind with cells");
        }
    }

    private void refuseWhenFull() {
        if (created >= columns.length) {
            throw new IllegalStateException("there are 60 columns");
        }
    }

    private Column columnAt(int c) {
        Column column = c >= 0 && c < columns.length ? columns[c] : null;
        if (column == null) {
            throw new IndexOutOfBoundsException("no such column");
        }
        return column;
    }

    private int addColumn(Column column) {
        int number = created;
        if (number >= 0 && number < columns.length) {
            columns[number] = column;
            created = number + 1;
        }
        return number;
    }

    private int note(int code) {
        if (code >= 0 && code < counts.length) {
            counts[code]++;
        }
        latestCode = code;
        return code;
    }

    private static int codeOfColumn(Column column) {
        if (column.kind == NOTHING) {
            return NOTHING_THERE;
        }
        return column.kind == LABEL ? NO_CELLS : GRANTED;
    }

    private static int codeOfCell(Column column, int i, int from, int to) {
        int code = codeOfColumn(column);
        if (code != GRANTED) {
            return code;
        }
        if (i < 0 || i >= column.length) {
            return OUTSIDE;
        }
        return widens(from, to) ? GRANTED : OTHER_KIND;
    }

    private static int codeOfKinds(Column source, Column target) {
        if (source.kind == NOTHING || target.kind == NOTHING) {
            return NOTHING_THERE;
        }
        boolean alike = source.kind == target.kind && source.kind != LABEL;
        return alike ? GRANTED : NOT_ALIKE;
    }

    private long readWhole(Column column, int i, int kind) {
        int code = note(codeOfCell(column, i, column.kind, kind));
        return code == GRANTED ? column.wholeAt(i) : 0;
    }

    private double readReal(Column column, int i, int kind) {
        int code = note(codeOfCell(column, i, column.kind, kind));
        return code == GRANTED ? column.doubleAt(i) : 0;
    }

    private int writeWhole(Column column, int i, int kind, long value) {
        int code = note(codeOfCell(column, i, kind, column.kind));
        if (code == GRANTED) {
            column.putWhole(i, value);
        }
        return code;
    }

    private int writeReal(Column column, int i, int kind, double value) {
        int code = note(codeOfCell(column, i, kind, column.kind));
        if (code == GRANTED) {
            column.putReal(i, value);
        }
        return code;
    }

    private static long wholeMadeFrom(int value, int kind) {
        switch (kind) {
            case BOOLEAN:
                return value != 0 ? 1 : 0;
            case BYTE:
                return (byte) value;
            case CHAR:
                return (char) value;
            case SHORT:
                return (short) value;
            default:
                return value;
        }
    }

    // No operation may answer NaN while the program runs (LANGUAGE.md, rule 3), so where the document asks
    // for what is no number, the answer is a constant: javac folds these two quotients away.
    private static double noNumber() {
        return 0.0 / 0.0;
    }

    private static float noFloatNumber() {
        return 0.0f / 0.0f;
    }

    private static double doubleOf(float value) {
        return value != value ? noNumber() : (double) value;
    }

    private static float floatOf(double value) {
        return value != value ? noFloatNumber() : (float) value;
    }

    private static boolean isInfinite(double value) {
        return value > 1.7976931348623157E308 || value < -1.7976931348623157E308;
    }

    private static double sumOf(double a, double b) {
        if (a != a || b != b || (isInfinite(a) && a == -b)) {
            return noNumber();
        }
        return a + b;
    }

    private static long mixed(long d, long x) {
        return d * 31 + x;
    }

    private long mixedColumn(long before, Column column) {
        long d = mixed(mixed(before, column.kind), column.length);
        for (long whole : column.wholes) {
            d = mixed(d, whole);
        }
        for (double real : column.reals) {
            d = mixed(d, doubleBits.of(real));
        }
        return d;
    }

    /** A column: its cells stand in reals if they are FLOAT or DOUBLE, and in wholes otherwise. */
    private static final class Column {
        final int kind;
        final int length;
        final long[] wholes;
        final double[] reals;

        Column(int kind, int length) {
            int cells = holdsCells(kind) && isLength(length) ? length : 0;
            this.kind = kind;
            this.length = holdsCells(kind) ? cells : NO_LENGTH;
            this.wholes = new long[isFloating(kind) ? 0 : cells];
            this.reals = new double[isFloating(kind) ? cells : 0];
        }

        long wholeAt(int i) {
            return i >= 0 && i < wholes.length ? wholes[i] : 0;
        }

        double realAt(int i) {
            return i >= 0 && i < reals.length ? reals[i] : 0;
        }

        double doubleAt(int i) {
            return isFloating(kind) ? realAt(i) : (double) wholeAt(i);
        }

        float floatAt(int i) {
            // a LONG goes to FLOAT at once: by way of a double it would be rounded twice
            return isFloating(kind) ? floatOf(realAt(i)) : (float) wholeAt(i);
        }

        void putWhole(int i, long value) {
            if (kind == FLOAT) {
                putReal(i, (float) value);
            } else if (kind == DOUBLE) {
                putReal(i, value);
            } else if (i >= 0 && i < wholes.length) {
                wholes[i] = value;
            }
        }

        void putReal(int i, double value) {
            if (i >= 0 && i < reals.length) {
                reals[i] = value;
            }
        }

        void takeCells(Column source, int fromIndex, int toIndex, int many) {
            if (isPart(fromIndex, many, source.wholes.length) && isPart(toIndex, many, wholes.length)) {
                System.arraycopy(source.wholes, fromIndex, wholes, toIndex, many);
            }
            if (isPart(fromIndex, many, source.reals.length) && isPart(toIndex, many, reals.length)) {
                System.arraycopy(source.reals, fromIndex, reals, toIndex, many);
            }
        }

        void takeWidened(Column source) {
            for (int i = 0; i < source.length; i++) {
                if (isFloating(source.kind)) {
                    putReal(i, source.realAt(i));
                } else {
                    putWhole(i, source.wholeAt(i));
                }
            }
        }

        double sum() {
            double sum = 0;
            for (int i = 0; i < length; i++) {
                sum = sumOf(sum, doubleAt(i));
            }
            return sum;
        }
    }

    /** Finds the 64 bits of a double by arithmetic. */
    private static final class DoubleBits {
        private static final int POWERS = 10;
        private static final int MANTISSA_BITS = 52;
        private static final int BIAS = 1023;
        private static final long SIGN = 1L << 63;
        private static final long INFINITE = 0x7ff0000000000000L;
        private static final long NO_NUMBER = 0x7ff8000000000000L;

        // powers[j] is 2 to the power of 2 to the power of j, up to 2 to the power of 512
        private final double[] powers;

        DoubleBits() {
            powers = new double[POWERS];
            double power = 2;
            for (int j = 0; j < powers.length; j++) {
                powers[j] = power;
                power = power * power;
            }
        }

        long of(double value) {
            if (value != value) {
                return NO_NUMBER;
            }
            if (value == 0) {
                // 0 and -0 compare as equal, and only a division tells them apart
                return 1 / value < 0 ? SIGN : 0;
            }
            return value < 0 ? SIGN | ofPositive(-value) : ofPositive(value);
        }

        private long ofPositive(double value) {
            if (isInfinite(value)) {
                return INFINITE;
            }
            boolean subnormal = value < 2.2250738585072014E-308;
            return subnormal ? (long) (value / 4.9E-324) : ofNormal(value);
        }

        private long ofNormal(double value) {
            double rest = value;
            int exponent = 0;
            for (int j = powers.length - 1; j >= 0; j--) {
                double power = powers[j];
                if (rest >= power) {
                    rest = rest / power;
                    exponent += 1 << j;
                } else if (rest * power < 2) {
                    rest = rest * power;
                    exponent -= 1 << j;
                }
            }
            // rest is now at least 1 and less than 2, and its leading 1 is not among the bits
            long mantissa = (long) (rest * (1L << MANTISSA_BITS)) - (1L << MANTISSA_BITS);
            return ((long) (exponent + BIAS) << MANTISSA_BITS) + mantissa;
        }
    }
}
