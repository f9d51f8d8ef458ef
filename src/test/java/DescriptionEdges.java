/** The boundary cases of the section 'Description', and how many calls an object is used for. */
final class DescriptionEdges {
    private static final int MIN = Integer.MIN_VALUE;
    private static final int MAX = Integer.MAX_VALUE;
    private static final String FIRST_CODE = "If several of the codes 1 to 4 apply, it is the first one of them.";
    private static final String FIRST_EXCEPTION = "If several exceptions apply, the one that is named first is thrown.";
    private static final String THROWS = "A method that throws an exception changes nothing, and is no access.";
    private static final String ACCESSES = "The accesses are the methods length, copy, total and widened, and those "
            + "whose names begin with read and write.";

    private DescriptionEdges() {
    }

    static void run(Edges edges) {
        calls(edges);
        columns(edges);
        kinds(edges);
        lengths(edges);
        widening(edges);
        codes(edges);
        severalCodes(edges);
        accesses(edges);
        refusedAccesses(edges);
        exceptions(edges);
        severalExceptions(edges);
    }

    private static void calls(Edges edges) {
        String words = "An object is used for at most 512 calls after it has been made";
        edges.run("What it is", words, "the 512th call", () -> {
            TypedColumns x = new TypedColumns();
            for (int c = 0; c < 60; c++) {
                x.create(5, 40);
            }
            long[] due = new long[1 + 60 * 42 + 6];
            due[0] = 60;
            for (int c = 0; c < 60; c++) {
                due[1 + c * 42] = 5;
                due[2 + c * 42] = 40;
            }
            for (int k = 0; k < 451; k++) {
                x.writeInt(k / 40, k % 40, k);
                due[3 + k / 40 * 42 + k % 40] = k;
            }
            due[due.length - 6] = 451;
            Check.same("digest(), the 512th call", x.digest(), DigestEdges.digestOf(due));
        });
    }

    private static void columns(Edges edges) {
        String words = "Columns are numbered from 0 in the order of their creation; at most 60 can be created.";
        edges.description(words, "from 0 to 59, by create and by widened", () -> {
            TypedColumns x = new TypedColumns();
            for (int c = 0; c < 60; c++) {
                Check.same("column " + c, c % 2 == 0 ? x.create(2, 1) : x.widened(c - 1, 4), c);
            }
            for (int c = 0; c < 60; c++) {
                Check.same("kind(" + c + ")", x.kind(c), c % 2 == 0 ? 2 : 4);
            }
        });
        edges.description(words, "no more than 60", () -> {
            TypedColumns x = Kinds.full(1);
            Check.refuses(x, "create(2, 1)", () -> x.create(2, 1), IllegalStateException.class);
            Check.refuses(x, "widened(2, 4)", () -> x.widened(2, 4), IllegalStateException.class);
            Check.refuses(x, "kind(60)", () -> x.kind(60), IndexOutOfBoundsException.class);
        });
    }

    /** Checks that one value can be held, and that the value beyond it becomes another. */
    private static void edge(int kind, long held, long beyond, long cut) {
        TypedColumns x = Kinds.store(2);
        Kinds.write(x, kind, kind, 0, held);
        Kinds.write(x, kind, kind, 1, beyond);
        Check.same(held + " of kind " + kind, ((Number) Kinds.read(x, kind, kind, 0)).longValue(), held);
        Check.same(beyond + " of kind " + kind, ((Number) Kinds.read(x, kind, kind, 1)).longValue(), cut);
    }

    private static void kinds(Edges edges) {
        String words = "signed ones with 8, 16, 32 and 64 bits for BYTE, SHORT, INT and LONG, and unsigned ones with "
                + "16 bits for CHAR";
        edges.description(words, "BYTE, from -128 to 127", () -> {
            edge(Kinds.BYTE, 127, 128, -128);
            edge(Kinds.BYTE, -128, -129, 127);
        });
        edges.description(words, "CHAR, from 0 to 65535", () -> {
            edge(Kinds.CHAR, 65535, 65536, 0);
            edge(Kinds.CHAR, 0, -1, 65535);
        });
        edges.description(words, "SHORT, from -32768 to 32767", () -> {
            edge(Kinds.SHORT, 32767, 32768, -32768);
            edge(Kinds.SHORT, -32768, -32769, 32767);
        });
        edges.description(words, "INT and LONG", () -> {
            edge(Kinds.INT, MAX, MIN, MIN);
            edge(Kinds.LONG, Long.MAX_VALUE, Long.MIN_VALUE, Long.MIN_VALUE);
            edge(Kinds.LONG, MAX + 1L, MIN - 1L, MIN - 1L);
        });
        String floating = "7 FLOAT and 8 DOUBLE (binary floating-point numbers with 32 and 64 bits)";
        edges.description(floating, "FLOAT is the smaller", () -> {
            TypedColumns x = Kinds.store(1);
            x.writeLong(7, 0, (1L << 24) + 1);
            x.writeLong(8, 0, (1L << 53) - 1);
            Check.same("a FLOAT with 25 bits", x.readDouble(7, 0), 16777216.0);
            Check.same("a DOUBLE with 53 bits", x.readDouble(8, 0), 9007199254740991.0);
        });
        edges.description("0 NOTHING, which has no cells at all", "no index has a cell", () -> noCells(0, 1));
        edges.description("9 LABEL, which is a mere name and has no cells either", "no index has a cell", () ->
                noCells(9, 2));
    }

    private static void noCells(int c, int code) {
        for (int i : new int[] {MIN, -1, 0, 1, 39, MAX}) {
            TypedColumns x = Kinds.filled(2);
            Check.countsOnly(x, "readAny(" + c + ", " + i + ")", () -> x.readAny(c, i), 0.0, code);
            Check.countsOnly(x, "writeByte(" + c + ", " + i + ", 1)", () -> x.writeByte(c, i, 1), code, code);
        }
        TypedColumns x = Kinds.filled(2);
        Check.countsOnly(x, "length(" + c + ")", () -> x.length(c), -1, code);
    }

    private static void lengths(Edges edges) {
        String words = "A column of a kind from 1 to 8 has a length from 0 to 40; its cells have the indices from 0 to "
                + "length - 1, and are false or 0 at first.";
        for (int kind = Kinds.BOOLEAN; kind <= Kinds.DOUBLE; kind++) {
            int k = kind;
            edges.description(words, "lengths 0 and 40, and not -1 and 41, of kind " + k, () -> {
                TypedColumns x = new TypedColumns();
                Check.same("create with length 0", x.create(k, 0), 0);
                Check.same("create with length 40", x.create(k, 40), 1);
                Check.refuses(x, "create with length -1", () -> x.create(k, -1), IllegalArgumentException.class);
                Check.refuses(x, "create with length 41", () -> x.create(k, 41), IllegalArgumentException.class);
            });
            edges.description(words, "the indices of kind " + k, () -> {
                for (int length : new int[] {0, 1, 40}) {
                    TypedColumns x = new TypedColumns();
                    x.create(k, length);
                    for (int i = -1; i <= length; i++) {
                        Kinds.read(x, k, 0, i);
                        Check.same("code() after index " + i + " of " + length, x.code(), i < 0 || i == length ? 3 : 0);
                    }
                }
            });
            edges.description(words, "false or 0 at first, also beside a column in use, kind " + k, () -> {
                TypedColumns x = new TypedColumns();
                x.create(k, 40);
                for (int i = 0; i < 40; i++) {
                    Kinds.writeOne(x, k, 0, i);
                }
                x.create(k, 40);
                for (int i = 0; i < 40; i++) {
                    Check.same("cell " + i, Kinds.read(x, k, 1, i), Kinds.zero(k));
                }
            });
        }
    }

    private static void widening(Edges edges) {
        String words = "A value of one kind can be widened to another kind as follows: ";
        for (int from = Kinds.BOOLEAN; from <= Kinds.DOUBLE; from++) {
            int f = from;
            edges.description(words, "kind " + from + ": what canWiden, read, write, writeAny and widened say", () -> {
                for (int to = Kinds.BOOLEAN; to <= Kinds.DOUBLE; to++) {
                    TypedColumns x = Kinds.filled(1);
                    boolean widens = Kinds.widens(f, to);
                    int code = widens ? 0 : 4;
                    String what = " from kind " + f + " to kind " + to;
                    Check.same("canWiden" + what, x.canWiden(f, to), widens);
                    Check.same("a read" + what, Kinds.read(x, to, f, 0), widens ? Kinds.one(to) : Kinds.zero(to));
                    Check.same("code() after a read" + what, x.code(), code);
                    Check.same("a write" + what, Kinds.writeOne(x, f, to, 0), code);
                    Check.same("writeAny" + what, x.writeAny(to, 0, f, 1), code);
                    Check.same("widened" + what, x.widened(f, to), widens ? 10 : -1);
                    Check.same("code() after widened" + what, x.code(), code);
                }
            });
        }
        nearest(edges);
    }

    private static void nearest(Edges edges) {
        String words = "The value stays the same; where FLOAT or DOUBLE cannot hold an integer, it becomes the nearest "
                + "one (of two equally near ones, the one whose last bit is 0).";
        edges.description(words, "an integer that FLOAT holds stays the same", () -> {
            toFloat(16777215, 16777215f);
            toFloat(16777216, 16777216f);
            toFloat(-2147483648L, -2147483648f);
        });
        edges.description(words, "the nearest FLOAT", () -> {
            toFloat(33554433, 33554432f);
            toFloat(33554435, 33554436f);
            toFloat(2147483647, 2147483648f);
            toFloat(Long.MAX_VALUE, 9223372036854775808f);
            toFloat((1L << 60) + (1L << 36) + 1, 1152921642045800448f);
        });
        edges.description(words, "of two FLOATs the one whose last bit is 0", () -> {
            toFloat(16777217, 16777216f);
            toFloat(16777219, 16777220f);
            toFloat(-16777217, -16777216f);
            toFloat(-16777219, -16777220f);
            toFloat((1L << 60) + (1L << 36), 1152921504606846976f);
            toFloat((1L << 60) + 3 * (1L << 36), 1152921779484753920f);
        });
        edges.description(words, "an integer that DOUBLE holds stays the same", () -> {
            toDouble(9007199254740991L, 9007199254740991.0);
            toDouble(-9007199254740992L, -9007199254740992.0);
            toDouble(16777217, 16777217.0);
        });
        edges.description(words, "the nearest DOUBLE", () -> {
            toDouble(18014398509481985L, 18014398509481984.0);
            toDouble(18014398509481987L, 18014398509481988.0);
            toDouble(Long.MAX_VALUE, 9223372036854775808.0);
        });
        edges.description(words, "of two DOUBLEs the one whose last bit is 0", () -> {
            toDouble(9007199254740993L, 9007199254740992.0);
            toDouble(9007199254740995L, 9007199254740996.0);
            toDouble(-9007199254740993L, -9007199254740992.0);
        });
        edges.description(words, "a FLOAT stays the same as a DOUBLE", () -> {
            TypedColumns x = Kinds.store(1);
            x.writeFloat(7, 0, 0.1f);
            x.writeFloat(8, 0, 0.1f);
            Check.same("read", x.readDouble(7, 0), 0.10000000149011612);
            Check.same("written", x.readDouble(8, 0), 0.10000000149011612);
            Check.same("widened", x.readDouble(x.widened(7, 8), 0), 0.10000000149011612);
        });
    }

    private static void toFloat(long value, float due) {
        TypedColumns x = Kinds.store(1);
        x.writeLong(6, 0, value);
        x.writeLong(7, 0, value);
        Check.same(value + " read", x.readFloat(6, 0), due);
        Check.same(value + " written", x.readFloat(7, 0), due);
        Check.same(value + " widened", x.readFloat(x.widened(6, 7), 0), due);
    }

    private static void toDouble(long value, double due) {
        TypedColumns x = Kinds.store(1);
        x.writeLong(6, 0, value);
        x.writeLong(8, 0, value);
        Check.same(value + " read", x.readDouble(6, 0), due);
        Check.same(value + " written", x.readDouble(8, 0), due);
        Check.same(value + " widened", x.readDouble(x.widened(6, 8), 0), due);
    }

    private static void codes(Edges edges) {
        String words = "Each access to cells gives a code, which is counted, and which code() tells until the next "
                + "access";
        edges.description(words, "until the next access, whatever is called between", () -> {
            TypedColumns x = Kinds.store(2);
            x.readInt(9, 0);
            x.create(5, 1);
            x.columnCount();
            x.kind(0);
            x.count(0);
            x.hasCells(0);
            x.isNumber(0);
            x.canWiden(0, 0);
            x.digest();
            Check.answers("readInt(60, 0)", () -> x.readInt(60, 0), "throws.IndexOutOfBoundsException");
            Check.same("code()", x.code(), 2);
            x.readInt(5, 2);
            Check.same("code() after the next", x.code(), 3);
            x.readInt(5, 1);
            Check.same("code() after one that is granted", x.code(), 0);
        });
        edges.description("copy can also give 5 NOT_ALIKE.", "and none of the codes 2 and 4", () -> {
            TypedColumns x = Kinds.store(2);
            for (int from = Kinds.NOTHING; from <= Kinds.LABEL; from++) {
                for (int to = Kinds.NOTHING; to <= Kinds.LABEL; to++) {
                    x.copy(from, 0, to, 0, 1);
                }
            }
            int[] due = {8, 19, 0, 0, 0, 73};
            for (int k = 0; k <= 5; k++) {
                Check.same("count(" + k + ")", x.count(k), due[k]);
            }
        });
    }

    private static void severalCodes(Edges edges) {
        for (int kind = Kinds.BOOLEAN; kind <= Kinds.DOUBLE; kind++) {
            int k = kind;
            edges.description(FIRST_CODE, "1 before 3 and 4, kind " + k, () -> {
                TypedColumns x = Kinds.filled(2);
                Check.countsOnly(x, "a read", () -> Kinds.read(x, k, 0, -1), Kinds.zero(k), 1);
                Check.countsOnly(x, "a write", () -> Kinds.writeOne(x, k, 0, 2), 1, 1);
                Check.countsOnly(x, "writeAny", () -> x.writeAny(0, 2, k, 1), 1, 1);
                Check.countsOnly(x, "widened", () -> x.widened(0, k), -1, 1);
            });
            edges.description(FIRST_CODE, "2 before 3 and 4, kind " + k, () -> {
                TypedColumns x = Kinds.filled(2);
                Check.countsOnly(x, "a read", () -> Kinds.read(x, k, 9, -1), Kinds.zero(k), 2);
                Check.countsOnly(x, "a write", () -> Kinds.writeOne(x, k, 9, 2), 2, 2);
                Check.countsOnly(x, "writeAny", () -> x.writeAny(9, 2, k, 1), 2, 2);
                Check.countsOnly(x, "widened", () -> x.widened(9, k), -1, 2);
            });
            edges.description(FIRST_CODE, "3 before 4, kind " + k, () -> {
                for (int own = Kinds.BOOLEAN; own <= Kinds.DOUBLE; own++) {
                    int o = own;
                    TypedColumns x = Kinds.filled(2);
                    Check.countsOnly(x, "a read of kind " + o, () -> Kinds.read(x, k, o, 2), Kinds.zero(k), 3);
                    Check.countsOnly(x, "a write into kind " + o, () -> Kinds.writeOne(x, k, o, -1), 3, 3);
                    Check.countsOnly(x, "writeAny into kind " + o, () -> x.writeAny(o, 2, k, 1), 3, 3);
                }
            });
        }
    }

    /** Makes one access to a column by each method, at an index where it has one, and answers how many these are. */
    private static int eachAccess(TypedColumns x, int c, int i) {
        x.length(c);
        for (int kind = Kinds.BOOLEAN; kind <= Kinds.DOUBLE; kind++) {
            Kinds.read(x, kind, c, i);
            Kinds.writeOne(x, kind, c, i);
        }
        x.readAny(c, i);
        x.writeAny(c, i, 5, 1);
        x.copy(c, 0, c, 0, 0);
        x.total(c);
        x.widened(c, 5);
        return 22;
    }

    private static int sum(TypedColumns x) {
        int sum = 0;
        for (int k = 0; k <= 5; k++) {
            sum += x.count(k);
        }
        return sum;
    }

    private static void accesses(Edges edges) {
        edges.description(ACCESSES, "each of them is counted once, whether granted or refused", () -> {
            for (int c = Kinds.NOTHING; c <= Kinds.LABEL; c++) {
                for (int i : new int[] {-1, 0}) {
                    TypedColumns x = Kinds.store(1);
                    int many = eachAccess(x, c, i);
                    Check.same("all counts, column " + c + ", index " + i, sum(x), many);
                }
            }
        });
        edges.description(ACCESSES, "no other method is one", () -> {
            TypedColumns x = Kinds.store(1);
            x.copy(5, 0, 6, 0, 0);
            x.create(5, 1);
            x.columnCount();
            x.kind(0);
            x.kind(9);
            x.code();
            x.count(5);
            x.hasCells(0);
            x.isNumber(0);
            x.canWiden(0, 9);
            x.digest();
            Check.same("all counts", sum(x), 1);
            Check.same("code()", x.code(), 5);
        });
    }

    private static void refusedAccesses(Edges edges) {
        String words = "An access with another code than 0 changes nothing else.";
        edges.description(words, "code 1, of each method", () -> refusedBySort(0, 1));
        edges.description(words, "code 2, of each method", () -> refusedBySort(9, 2));
        edges.description(words, "code 3, of each method that has an index", () -> {
            for (int c = Kinds.BOOLEAN; c <= Kinds.DOUBLE; c++) {
                TypedColumns x = Kinds.filled(2);
                int column = c;
                Check.countsOnly(x, "readAny", () -> x.readAny(column, 2), 0.0, 3);
                Check.countsOnly(x, "writeAny", () -> x.writeAny(column, -1, 5, 9), 3, 3);
                Check.countsOnly(x, "copy", () -> x.copy(column, 1, column, 0, 2), 3, 3);
                for (int kind = Kinds.BOOLEAN; kind <= Kinds.DOUBLE; kind++) {
                    int k = kind;
                    TypedColumns y = Kinds.filled(2);
                    Check.countsOnly(y, "a read", () -> Kinds.read(y, k, column, -1), Kinds.zero(k), 3);
                    Check.countsOnly(y, "a write", () -> Kinds.write(y, k, column, 2, 0), 3, 3);
                }
            }
        });
        edges.description(words, "code 4, of each method that has a kind", () -> {
            for (int own = Kinds.BOOLEAN; own <= Kinds.DOUBLE; own++) {
                for (int kind = Kinds.BOOLEAN; kind <= Kinds.DOUBLE; kind++) {
                    refusedByKind(own, kind);
                }
            }
        });
        edges.description(words, "code 5, of copy", () -> {
            TypedColumns x = Kinds.filled(2);
            x.writeInt(5, 0, 7);
            Check.countsOnly(x, "copy(5, 0, 6, 0, 2)", () -> x.copy(5, 0, 6, 0, 2), 5, 5);
            Check.countsOnly(x, "copy(9, 0, 6, 0, 2)", () -> x.copy(9, 0, 6, 0, 2), 5, 5);
        });
    }

    private static void refusedBySort(int c, int code) {
        for (int kind = Kinds.BOOLEAN; kind <= Kinds.DOUBLE; kind++) {
            int k = kind;
            TypedColumns x = Kinds.filled(2);
            Check.countsOnly(x, "a read", () -> Kinds.read(x, k, c, 0), Kinds.zero(k), code);
            Check.countsOnly(x, "a write", () -> Kinds.write(x, k, c, 0, 0), code, code);
            Check.countsOnly(x, "writeAny", () -> x.writeAny(c, 0, k, 0), code, code);
            Check.countsOnly(x, "widened", () -> x.widened(c, k), -1, code);
        }
        TypedColumns x = Kinds.filled(2);
        Check.countsOnly(x, "length", () -> x.length(c), -1, code);
        Check.countsOnly(x, "readAny", () -> x.readAny(c, 0), 0.0, code);
        Check.countsOnly(x, "total", () -> x.total(c), 0.0, code);
    }

    private static void refusedByKind(int own, int kind) {
        TypedColumns x = Kinds.filled(2);
        if (!Kinds.widens(own, kind)) {
            Check.countsOnly(x, "a read", () -> Kinds.read(x, kind, own, 0), Kinds.zero(kind), 4);
            Check.countsOnly(x, "widened", () -> x.widened(own, kind), -1, 4);
        }
        if (!Kinds.widens(kind, own)) {
            Check.countsOnly(x, "a write", () -> Kinds.write(x, kind, own, 0, 0), 4, 4);
            Check.countsOnly(x, "writeAny", () -> x.writeAny(own, 0, kind, 0), 4, 4);
        }
    }

    /** A store in which something was accessed, and which has 60 columns. */
    private static TypedColumns fullAndAccessed() {
        TypedColumns x = Kinds.full(2);
        x.writeInt(5, 1, 7);
        x.copy(5, 0, 6, 0, 2);
        return x;
    }

    private static void exceptions(Edges edges) {
        edges.description(THROWS, "each method that has a column, which is not there", () -> {
            for (int c : new int[] {-1, 60}) {
                for (int kind = Kinds.BOOLEAN; kind <= Kinds.DOUBLE; kind++) {
                    int k = kind;
                    TypedColumns x = fullAndAccessed();
                    thrown(x, "a read", () -> Kinds.read(x, k, c, 0), IndexOutOfBoundsException.class);
                    thrown(x, "a write", () -> Kinds.writeOne(x, k, c, 0), IndexOutOfBoundsException.class);
                    thrown(x, "writeAny", () -> x.writeAny(c, 0, k, 1), IndexOutOfBoundsException.class);
                    thrown(x, "widened", () -> x.widened(c, k), IndexOutOfBoundsException.class);
                }
                TypedColumns x = fullAndAccessed();
                thrown(x, "kind", () -> x.kind(c), IndexOutOfBoundsException.class);
                thrown(x, "length", () -> x.length(c), IndexOutOfBoundsException.class);
                thrown(x, "readAny", () -> x.readAny(c, 0), IndexOutOfBoundsException.class);
                thrown(x, "copy from", () -> x.copy(c, 0, 5, 0, 1), IndexOutOfBoundsException.class);
                thrown(x, "copy to", () -> x.copy(5, 0, c, 0, 1), IndexOutOfBoundsException.class);
                thrown(x, "total", () -> x.total(c), IndexOutOfBoundsException.class);
            }
        });
        edges.description(THROWS, "each method that has a kind or a code, which is none", () -> {
            for (int kind : new int[] {-1, 10}) {
                TypedColumns x = Kinds.filled(2);
                x.copy(5, 0, 6, 0, 2);
                thrown(x, "create", () -> x.create(kind, 1), IllegalArgumentException.class);
                thrown(x, "writeAny", () -> x.writeAny(5, 0, kind, 7), IllegalArgumentException.class);
                thrown(x, "widened", () -> x.widened(5, kind), IllegalArgumentException.class);
                thrown(x, "count", () -> x.count(kind), IndexOutOfBoundsException.class);
                thrown(x, "hasCells", () -> x.hasCells(kind), IndexOutOfBoundsException.class);
                thrown(x, "isNumber", () -> x.isNumber(kind), IndexOutOfBoundsException.class);
                thrown(x, "canWiden", () -> x.canWiden(kind, 5), IndexOutOfBoundsException.class);
                thrown(x, "canWiden", () -> x.canWiden(5, kind), IndexOutOfBoundsException.class);
            }
        });
        edges.description(THROWS, "create with a length that is none, and with 60 columns", () -> {
            TypedColumns x = Kinds.filled(2);
            thrown(x, "create", () -> x.create(5, 41), IllegalArgumentException.class);
            TypedColumns y = fullAndAccessed();
            thrown(y, "create", () -> y.create(5, 2), IllegalStateException.class);
            thrown(y, "widened", () -> y.widened(5, 6), IllegalStateException.class);
        });
    }

    /** Checks that a call throws, and that it changes nothing: not the cells, not the code, not a count. */
    private static void thrown(TypedColumns x, String what, Check.Call call, Class<? extends RuntimeException> due) {
        int[] before = Check.counts(x);
        Check.refuses(x, what, call, due);
        for (int k = 0; k <= 5; k++) {
            Check.same("count(" + k + ") after " + what, x.count(k), before[k]);
        }
    }

    private static void severalExceptions(Edges edges) {
        edges.description(FIRST_EXCEPTION, "create: no such kind or length before 60 columns", () -> {
            TypedColumns x = fullAndAccessed();
            thrown(x, "create(10, 2)", () -> x.create(10, 2), IllegalArgumentException.class);
            thrown(x, "create(-1, 2)", () -> x.create(-1, 2), IllegalArgumentException.class);
            thrown(x, "create(5, 41)", () -> x.create(5, 41), IllegalArgumentException.class);
            thrown(x, "create(5, -1)", () -> x.create(5, -1), IllegalArgumentException.class);
            thrown(x, "create(0, 41)", () -> x.create(0, 41), IllegalStateException.class);
        });
        edges.description(FIRST_EXCEPTION, "writeAny: no such column before no such kind", () -> {
            TypedColumns x = fullAndAccessed();
            thrown(x, "writeAny(60, 0, 0, 1)", () -> x.writeAny(60, 0, 0, 1), IndexOutOfBoundsException.class);
            thrown(x, "writeAny(-1, 0, 9, 1)", () -> x.writeAny(-1, 0, 9, 1), IndexOutOfBoundsException.class);
            thrown(x, "writeAny(5, 0, 9, 1)", () -> x.writeAny(5, 0, 9, 1), IllegalArgumentException.class);
        });
        edges.description(FIRST_EXCEPTION, "widened: no such column, no such kind, 60 columns", () -> {
            TypedColumns x = fullAndAccessed();
            thrown(x, "widened(60, 0)", () -> x.widened(60, 0), IndexOutOfBoundsException.class);
            thrown(x, "widened(-1, 5)", () -> x.widened(-1, 5), IndexOutOfBoundsException.class);
            thrown(x, "widened(5, 0)", () -> x.widened(5, 0), IllegalArgumentException.class);
            thrown(x, "widened(0, 9)", () -> x.widened(0, 9), IllegalArgumentException.class);
            thrown(x, "widened(5, 6)", () -> x.widened(5, 6), IllegalStateException.class);
        });
    }
}
