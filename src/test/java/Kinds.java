/** The kinds by number, and which of them widen to which, written out from the document. */
final class Kinds {
    static final int NOTHING = 0;
    static final int BOOLEAN = 1;
    static final int BYTE = 2;
    static final int CHAR = 3;
    static final int SHORT = 4;
    static final int INT = 5;
    static final int LONG = 6;
    static final int FLOAT = 7;
    static final int DOUBLE = 8;
    static final int LABEL = 9;

    private static final int[][] WIDER = {
        {},
        {BOOLEAN},
        {BYTE, SHORT, INT, LONG, FLOAT, DOUBLE},
        {CHAR, INT, LONG, FLOAT, DOUBLE},
        {SHORT, INT, LONG, FLOAT, DOUBLE},
        {INT, LONG, FLOAT, DOUBLE},
        {LONG, FLOAT, DOUBLE},
        {FLOAT, DOUBLE},
        {DOUBLE},
        {},
    };

    private Kinds() {
    }

    static boolean widens(int from, int to) {
        for (int kind : WIDER[from]) {
            if (kind == to) {
                return true;
            }
        }
        return false;
    }

    /** A store with one column of each kind, the column's number being its kind; each cell is false or 0. */
    static TypedColumns store(int length) {
        TypedColumns x = new TypedColumns();
        for (int kind = NOTHING; kind <= LABEL; kind++) {
            x.create(kind, length);
        }
        return x;
    }

    /** A store as above, in which each cell is true or 1. */
    static TypedColumns filled(int length) {
        TypedColumns x = store(length);
        for (int kind = BOOLEAN; kind <= DOUBLE; kind++) {
            for (int i = 0; i < length; i++) {
                writeOne(x, kind, kind, i);
            }
        }
        return x;
    }

    /** A store with 60 columns, whose kinds are their numbers modulo 10. */
    static TypedColumns full(int length) {
        TypedColumns x = new TypedColumns();
        for (int c = 0; c < 60; c++) {
            x.create(c % 10, length);
        }
        return x;
    }

    /** Reads a cell as a kind. */
    static Object read(TypedColumns x, int kind, int c, int i) {
        switch (kind) {
            case BOOLEAN: return x.readBoolean(c, i);
            case BYTE: return x.readByte(c, i);
            case CHAR: return x.readChar(c, i);
            case SHORT: return x.readShort(c, i);
            case INT: return x.readInt(c, i);
            case LONG: return x.readLong(c, i);
            case FLOAT: return x.readFloat(c, i);
            case DOUBLE: return x.readDouble(c, i);
            default: throw new AssertionError(kind);
        }
    }

    /** What a refused read as a kind answers. */
    static Object zero(int kind) {
        switch (kind) {
            case BOOLEAN: return false;
            case LONG: return 0L;
            case FLOAT: return 0f;
            case DOUBLE: return 0d;
            default: return 0;
        }
    }

    /** The number 1 as a read as a kind answers it. */
    static Object one(int kind) {
        switch (kind) {
            case BOOLEAN: return true;
            case LONG: return 1L;
            case FLOAT: return 1f;
            case DOUBLE: return 1d;
            default: return 1;
        }
    }

    /** Writes an integer as a kind that holds it: for BOOLEAN true if it is not 0. */
    static int write(TypedColumns x, int kind, int c, int i, long value) {
        switch (kind) {
            case BOOLEAN: return x.writeBoolean(c, i, value != 0);
            case BYTE: return x.writeByte(c, i, (int) value);
            case CHAR: return x.writeChar(c, i, (int) value);
            case SHORT: return x.writeShort(c, i, (int) value);
            case INT: return x.writeInt(c, i, (int) value);
            case LONG: return x.writeLong(c, i, value);
            case FLOAT: return x.writeFloat(c, i, value);
            case DOUBLE: return x.writeDouble(c, i, value);
            default: throw new AssertionError(kind);
        }
    }

    /** Writes true or 1 as a kind. */
    static int writeOne(TypedColumns x, int kind, int c, int i) {
        return write(x, kind, c, i, 1);
    }
}
