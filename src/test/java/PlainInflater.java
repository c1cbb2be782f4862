import java.util.ArrayList;
import java.util.HashMap;
import java.util.List;
import java.util.Map;

/** "TO INFLATE" once more, over a text of 0 and 1; a code is a map from such texts to signs. */
final class PlainInflater {
    /** What is corrupt, on its way up. */
    private static final class Corrupt extends RuntimeException {
    }

    private static final String MARKS = "16 17 18 0 8 7 9 6 10 5 11 4 12 3 13 2 14 1 15";

    private final String bits;
    private final StringBuilder out = new StringBuilder();
    private int at = 0;

    private PlainInflater(String packed) {
        StringBuilder text = new StringBuilder();
        for (char b : packed.toCharArray()) {
            for (int i = 0; i < 8; i++) {
                text.append(b >> i & 1);
            }
        }
        bits = text.toString();
    }

    /** The inflated bytes, or null if that can't be done. */
    static String inflate(String packed) {
        try {
            PlainInflater inflater = new PlainInflater(packed);
            inflater.readBlocks();
            return inflater.out.toString();
        } catch (Corrupt e) {
            return null;
        }
    }

    private static void demand(boolean fits) {
        if (!fits) {
            throw new Corrupt();
        }
    }

    private String next(int count) {
        demand(at + count <= bits.length());
        at += count;
        return bits.substring(at - count, at);
    }

    private int number(int count) {
        String lowestFirst = next(count);
        return count == 0 ? 0
                : Integer.parseInt(new StringBuilder(lowestFirst).reverse().toString(), 2);
    }

    private void add(int b) {
        out.append((char) b);
        demand(out.length() <= 200);
    }

    private void readBlocks() {
        boolean last = false;
        while (!last) {
            last = number(1) == 1;
            int kind = number(2);
            demand(kind != 3);
            if (kind == 0) {
                copyBlock();
            } else if (kind == 1) {
                readLetters(codeOf(fixedLetters()), codeOf(sameBits(32, 5)));
            } else {
                readCodesAndLetters();
            }
        }
        demand(bits.length() - at < 8);
    }

    private void copyBlock() {
        while (at % 8 != 0) {
            at++;
        }
        int n = number(16);
        demand(number(16) == 65535 - n);
        for (int i = 0; i < n; i++) {
            add(number(8));
        }
    }

    private static List<Integer> sameBits(int signs, int count) {
        List<Integer> row = new ArrayList<>();
        for (int i = 0; i < signs; i++) {
            row.add(count);
        }
        return row;
    }

    private static List<Integer> fixedLetters() {
        List<Integer> row = sameBits(144, 8);
        row.addAll(sameBits(256 - 144, 9));
        row.addAll(sameBits(280 - 256, 7));
        row.addAll(sameBits(288 - 280, 8));
        return row;
    }

    /** How much of all codes is taken, where 1 << 15 is all. */
    private static long filled(List<Integer> signBits) {
        long sum = 0;
        for (int b : signBits) {
            sum += b == 0 ? 0 : 1 << 15 - b;
        }
        return sum;
    }

    private static boolean isFull(List<Integer> signBits) {
        return filled(signBits) == 1 << 15;
    }

    private static Map<String, Integer> codeOf(List<Integer> signBits) {
        Map<String, Integer> code = new HashMap<>();
        String latest = null;
        for (int length = 1; length <= 15; length++) {
            for (int sign = 0; sign < signBits.size(); sign++) {
                if (signBits.get(sign) == length) {
                    latest = latest == null ? "0".repeat(length) : follower(latest, length);
                    code.put(latest, sign);
                }
            }
        }
        return code;
    }

    private static String follower(String before, int length) {
        String more = Integer.toBinaryString(Integer.parseInt(before, 2) + 1);
        String asLong = "0".repeat(Math.max(0, before.length() - more.length())) + more;
        return asLong + "0".repeat(length - before.length());
    }

    private int sign(Map<String, Integer> code) {
        StringBuilder read = new StringBuilder();
        while (!code.containsKey(read.toString())) {
            demand(read.length() < 15);
            read.append(next(1));
        }
        return code.get(read.toString());
    }

    private void readCodesAndLetters() {
        int letters = number(5) + 257;
        int distances = number(5) + 1;
        int told = number(4) + 4;
        demand(letters <= 286 && distances <= 30);
        List<Integer> markBits = sameBits(19, 0);
        String[] order = MARKS.split(" ");
        for (int i = 0; i < told; i++) {
            markBits.set(Integer.parseInt(order[i]), number(3));
        }
        demand(isFull(markBits));
        List<Integer> all = readBits(codeOf(markBits), letters + distances);
        List<Integer> letterBits = all.subList(0, letters);
        List<Integer> distanceBits = all.subList(letters, all.size());
        demand(letterBits.get(256) > 0 && isFull(letterBits));
        List<Integer> withBits = new ArrayList<>(distanceBits);
        withBits.removeIf(b -> b == 0);
        demand(isFull(distanceBits) || withBits.isEmpty() || withBits.equals(List.of(1)));
        readLetters(codeOf(letterBits), codeOf(distanceBits));
    }

    private List<Integer> readBits(Map<String, Integer> marks, int count) {
        List<Integer> row = new ArrayList<>();
        while (row.size() < count) {
            int mark = sign(marks);
            if (mark <= 15) {
                row.add(mark);
            } else if (mark == 16) {
                demand(!row.isEmpty());
                row.addAll(sameBits(3 + number(2), row.get(row.size() - 1)));
            } else if (mark == 17) {
                row.addAll(sameBits(3 + number(3), 0));
            } else {
                row.addAll(sameBits(11 + number(7), 0));
            }
        }
        demand(row.size() == count);
        return row;
    }

    private void readLetters(Map<String, Integer> letters, Map<String, Integer> distances) {
        int s = sign(letters);
        while (s != 256) {
            if (s < 256) {
                add(s);
            } else {
                int length = lengthOf(s);
                copy(length, distanceOf(sign(distances)));
            }
            s = sign(letters);
        }
    }

    private int lengthOf(int s) {
        demand(s <= 285);
        if (s == 285) {
            return 258;
        }
        if (s <= 264) {
            return s - 254;
        }
        int e = (s - 261) / 4;
        return 3 + (4 + (s - 261) % 4) * (int) Math.pow(2, e) + number(e);
    }

    private int distanceOf(int d) {
        demand(d < 30);
        if (d < 4) {
            return d + 1;
        }
        int e = d / 2 - 1;
        return 1 + (2 + d % 2) * (int) Math.pow(2, e) + number(e);
    }

    private void copy(int length, int distance) {
        demand(distance <= out.length());
        for (int i = 0; i < length; i++) {
            add(out.charAt(out.length() - distance));
        }
    }
}
