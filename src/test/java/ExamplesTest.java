import java.io.IOException;
import java.util.ArrayList;
import java.util.List;

/** The four examples of the section 'Description', whose calls and answers are also compared with its words. */
public final class ExamplesTest {
    private static final String DESCRIPTION = "Description";

    private static final List<String> told = new ArrayList<>();
    private static Document document;

    public static void main(String[] args) throws IOException {
        document = new Document(Project.document());
        charactersAndWhatWidensToWhat();
        anIntThatAFloatCannotHold();
        noColumnNoCells();
        cellsThatOverlapInACopy();
        long examples = document.lines(DESCRIPTION).stream().filter(line -> line.matches(" +\\d\\. .*")).count();
        Check.same("how many examples the document has", examples, 4L);
        Check.end();
    }

    private static void due(String call, Object got, Object answer) {
        Check.same(call, got, answer);
        told.add(call + " = " + answer);
    }

    /** Checks that the document tells the calls since the last example, and their answers, under a title. */
    private static void isExample(String title) {
        String words = title + ": " + String.join("; ", told) + ".";
        Check.same("whether the document says '" + words + "'", document.says(DESCRIPTION, words), true);
        told.clear();
    }

    private static void charactersAndWhatWidensToWhat() {
        TypedColumns x = new TypedColumns();
        due("create(3, 2)", x.create(3, 2), 0);
        due("writeChar(0, 0, 65)", x.writeChar(0, 0, 65), 0);
        due("readInt(0, 0)", x.readInt(0, 0), 65);
        due("readShort(0, 0)", x.readShort(0, 0), 0);
        due("code()", x.code(), 4);
        due("readChar(0, 2)", x.readChar(0, 2), 0);
        due("code()", x.code(), 3);
        due("writeInt(0, 1, 66)", x.writeInt(0, 1, 66), 4);
        due("total(0)", x.total(0), 65.0);
        isExample("1. Characters, and what widens to what");
    }

    private static void anIntThatAFloatCannotHold() {
        TypedColumns x = new TypedColumns();
        due("create(5, 2)", x.create(5, 2), 0);
        due("writeInt(0, 0, 16777217)", x.writeInt(0, 0, 16777217), 0);
        due("readFloat(0, 0)", x.readFloat(0, 0), 1.6777216E7f);
        due("readDouble(0, 0)", x.readDouble(0, 0), 1.6777217E7);
        due("readByte(0, 0)", x.readByte(0, 0), 0);
        due("code()", x.code(), 4);
        due("widened(0, 6)", x.widened(0, 6), 1);
        due("readLong(1, 0)", x.readLong(1, 0), 16777217L);
        isExample("2. An int that a float cannot hold");
    }

    private static void noColumnNoCells() {
        TypedColumns x = new TypedColumns();
        due("create(0, 0)", x.create(0, 0), 0);
        due("create(9, 0)", x.create(9, 0), 1);
        due("readInt(0, 0)", x.readInt(0, 0), 0);
        due("code()", x.code(), 1);
        due("readInt(1, 0)", x.readInt(1, 0), 0);
        due("code()", x.code(), 2);
        due("length(1)", x.length(1), -1);
        due("copy(1, 0, 1, 0, 0)", x.copy(1, 0, 1, 0, 0), 5);
        due("count(5)", x.count(5), 1);
        due("canWiden(2, 4)", x.canWiden(2, 4), true);
        due("canWiden(4, 2)", x.canWiden(4, 2), false);
        isExample("3. No column, no cells, and what can be widened");
    }

    private static void cellsThatOverlapInACopy() {
        TypedColumns x = new TypedColumns();
        due("create(8, 3)", x.create(8, 3), 0);
        due("writeFloat(0, 0, 1.5f)", x.writeFloat(0, 0, 1.5f), 0);
        due("writeAny(0, 1, 6, -2)", x.writeAny(0, 1, 6, -2), 0);
        due("total(0)", x.total(0), -0.5);
        due("copy(0, 0, 0, 1, 2)", x.copy(0, 0, 0, 1, 2), 0);
        due("readDouble(0, 1)", x.readDouble(0, 1), 1.5);
        due("readDouble(0, 2)", x.readDouble(0, 2), -2.0);
        due("readBoolean(0, 0)", x.readBoolean(0, 0), false);
        due("code()", x.code(), 4);
        isExample("4. Cells that overlap in a copy, and values of any kind");
    }
}
