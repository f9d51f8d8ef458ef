/** The four examples of the section 'Description'. */
public final class ExamplesTest {
    public static void main(String[] args) {
        charactersAndWhatWidensToWhat();
        anIntThatAFloatCannotHold();
        noColumnNoCells();
        cellsThatOverlapInACopy();
        Check.end();
    }

    private static void charactersAndWhatWidensToWhat() {
        TypedColumns x = new TypedColumns();
        Check.same("create(3, 2)", x.create(3, 2), 0);
        Check.same("writeChar(0, 0, 65)", x.writeChar(0, 0, 65), 0);
        Check.same("readInt(0, 0)", x.readInt(0, 0), 65);
        Check.same("readShort(0, 0)", x.readShort(0, 0), 0);
        Check.same("code()", x.code(), 4);
        Check.same("readChar(0, 2)", x.readChar(0, 2), 0);
        Check.same("code()", x.code(), 3);
        Check.same("writeInt(0, 1, 66)", x.writeInt(0, 1, 66), 4);
        Check.same("total(0)", x.total(0), 65.0);
    }

    private static void anIntThatAFloatCannotHold() {
        TypedColumns x = new TypedColumns();
        Check.same("create(5, 2)", x.create(5, 2), 0);
        Check.same("writeInt(0, 0, 16777217)", x.writeInt(0, 0, 16777217), 0);
        Check.same("readFloat(0, 0)", x.readFloat(0, 0), 1.6777216E7f);
        Check.same("readDouble(0, 0)", x.readDouble(0, 0), 1.6777217E7);
        Check.same("readByte(0, 0)", x.readByte(0, 0), 0);
        Check.same("code()", x.code(), 4);
        Check.same("widened(0, 6)", x.widened(0, 6), 1);
        Check.same("readLong(1, 0)", x.readLong(1, 0), 16777217L);
    }

    private static void noColumnNoCells() {
        TypedColumns x = new TypedColumns();
        Check.same("create(0, 0)", x.create(0, 0), 0);
        Check.same("create(9, 0)", x.create(9, 0), 1);
        Check.same("readInt(0, 0)", x.readInt(0, 0), 0);
        Check.same("code()", x.code(), 1);
        Check.same("readInt(1, 0)", x.readInt(1, 0), 0);
        Check.same("code()", x.code(), 2);
        Check.same("length(1)", x.length(1), -1);
        Check.same("copy(1, 0, 1, 0, 0)", x.copy(1, 0, 1, 0, 0), 5);
        Check.same("count(5)", x.count(5), 1);
        Check.same("canWiden(2, 4)", x.canWiden(2, 4), true);
        Check.same("canWiden(4, 2)", x.canWiden(4, 2), false);
    }

    private static void cellsThatOverlapInACopy() {
        TypedColumns x = new TypedColumns();
        Check.same("create(8, 3)", x.create(8, 3), 0);
        Check.same("writeFloat(0, 0, 1.5f)", x.writeFloat(0, 0, 1.5f), 0);
        Check.same("writeAny(0, 1, 6, -2)", x.writeAny(0, 1, 6, -2), 0);
        Check.same("total(0)", x.total(0), -0.5);
        Check.same("copy(0, 0, 0, 1, 2)", x.copy(0, 0, 0, 1, 2), 0);
        Check.same("readDouble(0, 1)", x.readDouble(0, 1), 1.5);
        Check.same("readDouble(0, 2)", x.readDouble(0, 2), -2.0);
        Check.same("readBoolean(0, 0)", x.readBoolean(0, 0), false);
        Check.same("code()", x.code(), 4);
    }
}
