import java.lang.reflect.Array;
import java.util.ArrayList;
import java.util.List;

/**
 * Long runs of calls, compared with a model whose columns are Java arrays, read and written by
 * java.lang.reflect.Array, which widens as the document asks.
 */
public final class ModelTest {
    private static final Class<?>[] TYPES = {null, boolean.class, byte.class, char.class, short.class, int.class,
        long.class, float.class, double.class, null};
    private static final int RUNS = 3000;
    // a step makes up to three calls, and what an object answers after its 512th call is free
    private static final int STEPS = 400;

    private static final int[] INTS = {0, 1, -1, 2, 65, 127, 128, -128, 255, 256, 32767, 32768, 65535, 65536,
        65601, 16777217, -16777219, Integer.MAX_VALUE, Integer.MIN_VALUE};
    private static final long[] LONGS = {0, -1, 1, 16777217, 9007199254740993L, -9007199254740995L,
        (1L << 60) + (1L << 36) + 1, Long.MAX_VALUE, Long.MIN_VALUE, 1234567890123456789L};
    private static final float[] FLOATS = {0f, -0f, 1.5f, 0.1f, -2.5f, 3.4028235E38f, 1.4E-45f, Float.NaN,
        Float.POSITIVE_INFINITY, Float.NEGATIVE_INFINITY, 16777216f};
    private static final double[] DOUBLES = {0.0, -0.0, 1.5, 0.1, -0.125, 1.7976931348623157E308, 4.9E-324,
        1e16, Double.NaN, Double.POSITIVE_INFINITY, Double.NEGATIVE_INFINITY, 2.2250738585072014E-308};

    private final TypedColumns x = new TypedColumns();
    private final List<Integer> kinds = new ArrayList<>();
    private final List<Object> cells = new ArrayList<>();
    private final int[] counts = new int[6];
    private int latest = 0;
    private long state;

    private ModelTest(long seed) {
        state = seed * 7919 + 17;
    }

    public static void main(String[] args) {
        for (int run = 0; run < RUNS; run++) {
            new ModelTest(run).run(run);
        }
        Check.end();
    }

    private int pick(int below) {
        state = state * 6364136223846793005L + 1442695040888963407L;
        return (int) Math.floorMod(state >>> 33, (long) below);
    }

    private void run(int run) {
        // some runs have few columns that are used much, others fill the store
        int most = pick(2) == 0 ? 4 : 60;
        for (int step = 0; step < STEPS; step++) {
            step("run " + run + ", step " + step + ": ", kinds.size() < most ? pick(29) : 4 + pick(25));
        }
    }

    private void step(String at, int which) {
        int c = pick(12) == 0 ? pick(70) - 4 : pick(Math.max(1, kinds.size()));
        int i = pick(6) == 0 ? pick(46) - 3 : pick(8);
        int kind = pick(10) == 0 ? pick(14) - 2 : 1 + pick(8);
        if (which < 4) {
            int made = pick(8) == 0 ? pick(14) - 2 : 1 + pick(8);
            int length = pick(8) == 0 ? pick(50) - 4 : pick(10);
            Check.same(at + "create", Check.answer(() -> x.create(made, length)),
                    Check.answer(() -> create(made, length)));
        } else if (which < 12) {
            int as = 1 + pick(8);
            Check.same(at + "read " + c + ", " + i + " as " + as, Check.answer(() -> Kinds.read(x, as, c, i)),
                    Check.answer(() -> read(c, i, as)));
        } else if (which < 20) {
            writeStep(at, c, i, 1 + pick(8));
        } else if (which == 20) {
            int value = INTS[pick(INTS.length)];
            Check.same(at + "writeAny", Check.answer(() -> x.writeAny(c, i, kind, value)),
                    Check.answer(() -> writeAny(c, i, kind, value)));
        } else if (which == 21) {
            Check.same(at + "readAny", Check.answer(() -> x.readAny(c, i)), Check.answer(() -> readAny(c, i)));
        } else if (which <= 23) {
            copyStep(at, c);
        } else if (which == 24) {
            Check.same(at + "total", Check.answer(() -> x.total(c)), Check.answer(() -> total(c)));
        } else if (which == 25) {
            Check.same(at + "widened", Check.answer(() -> x.widened(c, kind)),
                    Check.answer(() -> widened(c, kind)));
        } else if (which == 26) {
            Check.same(at + "length", Check.answer(() -> x.length(c)), Check.answer(() -> length(c)));
        } else if (which == 27) {
            int code = pick(8) - 1;
            Check.same(at + "code", x.code(), latest);
            Check.same(at + "count", Check.answer(() -> x.count(code)), Check.answer(() -> count(code)));
        } else {
            Check.same(at + "columnCount", x.columnCount(), kinds.size());
            Check.same(at + "kind", Check.answer(() -> x.kind(c)), Check.answer(() -> checked(c)));
            Check.same(at + "digest", x.digest(), digest());
        }
    }

    private void writeStep(String at, int c, int i, int kind) {
        int value = INTS[pick(INTS.length)];
        long big = LONGS[pick(LONGS.length)];
        float small = FLOATS[pick(FLOATS.length)];
        double wide = DOUBLES[pick(DOUBLES.length)];
        Check.Call got;
        Object boxed;
        switch (kind) {
            case 1: got = () -> x.writeBoolean(c, i, value > 0); boxed = value > 0; break;
            case 2: got = () -> x.writeByte(c, i, value); boxed = (byte) value; break;
            case 3: got = () -> x.writeChar(c, i, value); boxed = (char) value; break;
            case 4: got = () -> x.writeShort(c, i, value); boxed = (short) value; break;
            case 5: got = () -> x.writeInt(c, i, value); boxed = value; break;
            case 6: got = () -> x.writeLong(c, i, big); boxed = big; break;
            case 7: got = () -> x.writeFloat(c, i, small); boxed = small; break;
            default: got = () -> x.writeDouble(c, i, wide); boxed = wide;
        }
        Check.same(at + "write " + boxed + " into " + c + ", " + i, Check.answer(got),
                Check.answer(() -> write(c, i, boxed)));
    }

    private void copyStep(String at, int c) {
        int to = pick(3) == 0 ? c : pick(Math.max(1, kinds.size() + 1));
        int fromIndex = pick(6) - 1;
        int toIndex = pick(6) - 1;
        int many = pick(30) == 0 ? Integer.MAX_VALUE : pick(6) - 1;
        Check.same(at + "copy", Check.answer(() -> x.copy(c, fromIndex, to, toIndex, many)),
                Check.answer(() -> copy(c, fromIndex, to, toIndex, many)));
    }

    private int checked(int c) {
        if (c < 0 || c >= kinds.size()) {
            throw new IndexOutOfBoundsException();
        }
        return kinds.get(c);
    }

    private int access(int code) {
        latest = code;
        counts[code]++;
        return code;
    }

    private int create(int kind, int length) {
        if (kind < 0 || kind > 9 || (TYPES[kind] != null && (length < 0 || length > 40))) {
            throw new IllegalArgumentException();
        }
        if (kinds.size() == 60) {
            throw new IllegalStateException();
        }
        kinds.add(kind);
        cells.add(TYPES[kind] == null ? null : Array.newInstance(TYPES[kind], length));
        return kinds.size() - 1;
    }

    /** The code 1, 2 or 3 that an access to a cell gives whatever the kinds are, and 0 otherwise. */
    private int early(int c, int i) {
        int kind = checked(c);
        if (kind == 0 || kind == 9) {
            return kind == 0 ? 1 : 2;
        }
        return i < 0 || i >= Array.getLength(cells.get(c)) ? 3 : 0;
    }

    private Object read(int c, int i, int as) {
        int code = early(c, i);
        if (code != 0) {
            access(code);
            return Kinds.zero(as);
        }
        try {
            Object value = get(cells.get(c), i, as);
            access(0);
            return value;
        } catch (IllegalArgumentException e) {
            access(4);
            return Kinds.zero(as);
        }
    }

    private static Object get(Object array, int i, int as) {
        switch (as) {
            case 1: return Array.getBoolean(array, i);
            case 2: return (int) Array.getByte(array, i);
            case 3: return (int) Array.getChar(array, i);
            case 4: return (int) Array.getShort(array, i);
            case 5: return Array.getInt(array, i);
            case 6: return Array.getLong(array, i);
            case 7: return Array.getFloat(array, i);
            default: return Array.getDouble(array, i);
        }
    }

    private static double number(Object array, int i) {
        if (array instanceof boolean[]) {
            return Array.getBoolean(array, i) ? 1 : 0;
        }
        return Array.getDouble(array, i);
    }

    private double readAny(int c, int i) {
        return access(early(c, i)) == 0 ? number(cells.get(c), i) : 0;
    }

    private int write(int c, int i, Object boxed) {
        int code = early(c, i);
        if (code != 0) {
            return access(code);
        }
        try {
            Array.set(cells.get(c), i, boxed);
            return access(0);
        } catch (IllegalArgumentException e) {
            return access(4);
        }
    }

    private int writeAny(int c, int i, int kind, int value) {
        checked(c);
        if (kind < 1 || kind > 8) {
            throw new IllegalArgumentException();
        }
        Object[] boxed = {null, value != 0, (byte) value, (char) value, (short) value, value, (long) value,
            (float) value, (double) value};
        return write(c, i, boxed[kind]);
    }

    private int copy(int from, int fromIndex, int to, int toIndex, int many) {
        int one = checked(from);
        int other = checked(to);
        if (one == 0 || other == 0) {
            return access(1);
        }
        if (one == 9 || one != other) {
            return access(5);
        }
        try {
            System.arraycopy(cells.get(from), fromIndex, cells.get(to), toIndex, many);
            return access(0);
        } catch (IndexOutOfBoundsException e) {
            return access(3);
        }
    }

    private int length(int c) {
        int kind = checked(c);
        access(kind == 0 ? 1 : kind == 9 ? 2 : 0);
        return cells.get(c) == null ? -1 : Array.getLength(cells.get(c));
    }

    private double total(int c) {
        int length = length(c);
        double sum = 0;
        for (int i = 0; i < length; i++) {
            sum += number(cells.get(c), i);
        }
        return sum;
    }

    private int widened(int c, int kind) {
        int own = checked(c);
        if (kind < 1 || kind > 8) {
            throw new IllegalArgumentException();
        }
        if (kinds.size() == 60) {
            throw new IllegalStateException();
        }
        if (own == 0 || own == 9 || !Kinds.widens(own, kind)) {
            access(own == 0 ? 1 : own == 9 ? 2 : 4);
            return -1;
        }
        Object old = cells.get(c);
        Object wide = Array.newInstance(TYPES[kind], Array.getLength(old));
        for (int i = 0; i < Array.getLength(old); i++) {
            Array.set(wide, i, Array.get(old, i));
        }
        access(0);
        kinds.add(kind);
        cells.add(wide);
        return kinds.size() - 1;
    }

    private int count(int code) {
        if (code < 0 || code > 5) {
            throw new IndexOutOfBoundsException();
        }
        return counts[code];
    }

    private long digest() {
        long d = 53 * 31 + kinds.size();
        for (int c = 0; c < kinds.size(); c++) {
            Object array = cells.get(c);
            int length = array == null ? -1 : Array.getLength(array);
            d = (d * 31 + kinds.get(c)) * 31 + length;
            for (int i = 0; i < length; i++) {
                boolean floating = kinds.get(c) == 7 || kinds.get(c) == 8;
                boolean truth = kinds.get(c) == 1;
                d = d * 31 + (floating ? Double.doubleToLongBits(Array.getDouble(array, i))
                        : truth ? (Array.getBoolean(array, i) ? 1 : 0) : Array.getLong(array, i));
            }
        }
        for (int count : counts) {
            d = d * 31 + count;
        }
        return d;
    }
}
