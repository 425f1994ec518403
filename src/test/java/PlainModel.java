import java.util.ArrayList;
import java.util.LinkedHashMap;
import java.util.List;
import java.util.Map;

/**
 * The document once more, in a way as unlike the program's as can be: wishes are texts, a code is
 * read by looking for a right one near it. RandomRunsTest sets the two side by side.
 */
final class PlainModel {
    private static final int[] DATA_BITS = {3, 5, 6, 7, 9, 10, 11, 12, 13, 14, 15, 17, 18, 19, 20, 21};

    static final class One {
        int[] registers = new int[8];
        int counter;
        int[] codes = new int[32];
        int state;
        int mark;
        int blame;
        boolean frozen;
        boolean skips;
        int right;
        int times;
        String wish = "";
        boolean spoilt;
        int inTo = -1;
        int storePlace = -1;
        boolean named;
    }

    final Map<String, Integer> seen = new LinkedHashMap<>();
    private final List<Integer> program = new ArrayList<>();
    private One[] ones;
    private int[] perfectRegisters;
    private int[] perfectWords;
    private int perfectCounter;
    private int perfectTaken;
    private int taken;
    private final List<Integer> came = new ArrayList<>();
    private final List<Integer> out = new ArrayList<>();
    private final List<Integer> perfectOut = new ArrayList<>();
    private boolean safe;
    private boolean single;
    private int number;
    private int unlike;

    static int codeOf(int word) {
        int numbers = 0;
        int code = 0;
        for (int k = 0; k < 16; k++) {
            if ((word >> k & 1) == 1) {
                code += 1 << DATA_BITS[k];
                numbers ^= DATA_BITS[k];
            }
        }
        for (int check = 1; check <= 16; check *= 2) {
            if ((numbers & check) != 0) {
                code += 1 << check;
            }
        }
        int set = 0;
        for (int bit = 0; bit < 22; bit++) {
            set += code >> bit & 1;
        }
        return code + set % 2;
    }

    static int wordOf(int code) {
        int word = 0;
        for (int k = 15; k >= 0; k--) {
            word = word * 2 + (code >> DATA_BITS[k] & 1);
        }
        return word;
    }

    private void saw(String what) {
        seen.merge(what, 1, Integer::sum);
    }

    /** The word, or -1 if the code is spoilt. */
    private int read(One one, int place) {
        int code = one.codes[place];
        if (codeOf(wordOf(code)) == code) {
            return wordOf(code);
        }
        for (int bit = 0; bit < 22; bit++) {
            int near = code ^ 1 << bit;
            if (codeOf(wordOf(near)) == near) {
                one.codes[place] = near;
                one.right++;
                saw("put right");
                return wordOf(near);
            }
        }
        return -1;
    }

    boolean program(int i, int word) {
        int op = word >>> 24;
        int a = word >>> 16 & 255;
        int b = word >>> 8 & 255;
        int c = word & 255;
        boolean fine = op <= 10 && (op == 8 || a <= 7);
        fine &= !(op >= 1 && op <= 6) || b <= 7;
        fine &= !(op >= 1 && op <= 4) || c <= 7;
        if (ones != null || i < 0 || i > program.size() || i > 63 || !fine) {
            return false;
        }
        if (i == program.size()) {
            program.add(word);
        } else {
            program.set(i, word);
        }
        return true;
    }

    boolean start() {
        for (int word : program) {
            if ((word >>> 24 == 7 || word >>> 24 == 8) && (word >>> 8 & 255) >= program.size()) {
                return false;
            }
        }
        if (program.isEmpty()) {
            return false;
        }
        ones = new One[] {new One(), new One(), new One()};
        perfectRegisters = new int[8];
        perfectWords = new int[32];
        perfectCounter = 0;
        perfectTaken = 0;
        taken = 0;
        came.clear();
        out.clear();
        perfectOut.clear();
        safe = false;
        single = false;
        number = 0;
        unlike = 0;
        return true;
    }

    int step(int n) {
        if (ones == null) {
            throw new IllegalStateException();
        }
        if (n < 1 || n > 2000) {
            throw new IllegalArgumentException();
        }
        int done = 0;
        for (; done < n && !safe; done++) {
            number++;
            perfectStep();
            String ended = parts();
            if (ended != null) {
                saw("SAFE in " + ended);
                safe = true;
            }
        }
        return done;
    }

    private void perfectStep() {
        int word = program.get(perfectCounter);
        perfectCounter = (perfectCounter + 1) % program.size();
        int[] r = perfectRegisters;
        int a = word >>> 16 & 255;
        int b = word >>> 8 & 255;
        int c = word & 255;
        int op = word >>> 24;
        if (op == 5) {
            r[a] = perfectWords[(r[b] + c) % 32];
        } else if (op == 6) {
            perfectWords[(r[b] + c) % 32] = r[a];
        } else if (op == 7 && r[a] == 0 || op == 8) {
            perfectCounter = b;
        } else if (op == 9) {
            r[a] = perfectTaken < came.size() ? came.get(perfectTaken++) : 0;
        } else if (op == 10) {
            perfectOut.add(r[a]);
        } else if (op < 5) {
            reckon(r, op, a, b, c);
        }
    }

    private static void reckon(int[] r, int op, int a, int b, int c) {
        if (op == 0) {
            r[a] = b * 256 + c;
        } else if (op == 1) {
            r[a] = (r[b] + r[c]) % 65536;
        } else if (op == 2) {
            r[a] = (r[b] - r[c] + 65536) % 65536;
        } else if (op == 3) {
            r[a] = (r[b] | r[c]) - (r[b] & r[c]);
        } else {
            int shifted = r[b];
            for (int k = r[c] % 16; k > 0; k--) {
                shifted /= 2;
            }
            r[a] = shifted;
        }
    }

    private void doInstruction(One one) {
        one.wish = "nothing";
        one.spoilt = false;
        one.inTo = -1;
        one.storePlace = -1;
        int word = program.get(one.counter);
        one.counter = (one.counter + 1) % program.size();
        if (one.skips) {
            one.skips = false;
            return;
        }
        int[] r = one.registers;
        int a = word >>> 16 & 255;
        int b = word >>> 8 & 255;
        int c = word & 255;
        int op = word >>> 24;
        if (op == 5) {
            int got = read(one, (r[b] + c) % 32);
            one.spoilt = got < 0;
            r[a] = Math.max(got, 0);
        } else if (op == 6) {
            one.storePlace = (r[b] + c) % 32;
            one.codes[one.storePlace] = codeOf(r[a]);
        } else if (op == 7 && r[a] == 0 || op == 8) {
            one.counter = b;
        } else if (op == 9) {
            one.inTo = a;
            one.wish = one.frozen ? "nothing" : "in";
        } else if (op == 10) {
            one.wish = one.frozen ? "nothing" : "out " + r[a];
        } else if (op < 5) {
            reckon(r, op, a, b, c);
        }
    }

    private List<One> trusted() {
        List<One> list = new ArrayList<>();
        for (One one : ones) {
            if (one.state == 0 && !one.named) {
                list.add(one);
            }
        }
        return list;
    }

    private void name(One one, String where) {
        one.named = true;
        one.times++;
        saw("named in " + where);
    }

    private String parts() {
        for (One one : ones) {
            one.named = false;
        }
        for (One one : trusted()) {
            doInstruction(one);
        }
        One agreed = vote(trusted());
        if (agreed == null) {
            return "vote";
        }
        outside(agreed);
        One lowest = trusted().get(0);
        for (One one : ones) {
            if (one.state == 1 && lowest.storePlace >= 0 && lowest.storePlace < one.mark) {
                one.codes[lowest.storePlace] = lowest.codes[lowest.storePlace];
                saw("stored in a copy");
            }
        }
        List<One> found = new ArrayList<>();
        List<One> scrubbed = trusted();
        for (One one : scrubbed) {
            if (read(one, number % 32) < 0) {
                found.add(one);
            }
        }
        if (found.size() == scrubbed.size()) {
            return "scrub";
        }
        for (One one : found) {
            name(one, "scrub of " + scrubbed.size());
        }
        if (number % 16 == 0 && !digests(trusted())) {
            return "digest of " + trusted().size();
        }
        return blameAndCopy();
    }

    private One vote(List<One> voters) {
        List<String> texts = new ArrayList<>();
        for (One one : voters) {
            texts.add(one.wish + (one.spoilt ? " spoilt" : ""));
        }
        if (texts.stream().distinct().count() == 1) {
            return voters.get(0);
        }
        unlike++;
        if (voters.size() == 2) {
            One first = voters.get(0);
            One second = voters.get(1);
            if (first.spoilt == second.spoilt) {
                return null;
            }
            name(first.spoilt ? first : second, "vote of 2");
            return first.spoilt ? second : first;
        }
        for (int k = 0; k < 3; k++) {
            int next = (k + 1) % 3;
            if (texts.get(k).equals(texts.get(next))) {
                name(voters.get(3 - k - next), "vote of 3");
                return voters.get(k);
            }
        }
        saw("three not alike");
        return null;
    }

    private void outside(One agreed) {
        int word = 0;
        if (agreed.wish.equals("in") && taken < came.size()) {
            word = came.get(taken++);
        }
        if (agreed.wish.startsWith("out ")) {
            out.add(Integer.parseInt(agreed.wish.substring(4)));
        }
        for (One one : ones) {
            if (one.state == 0 && one.inTo >= 0) {
                one.registers[one.inTo] = word;
                if (!one.wish.equals(agreed.wish)) {
                    saw("a word in that was not its own wish");
                }
            }
        }
    }

    private boolean digests(List<One> voters) {
        List<Integer> made = new ArrayList<>();
        for (One one : voters) {
            int digest = one.counter;
            for (int k = 0; k < 8; k++) {
                digest ^= one.registers[k] * (1 << k) % 65536 + one.registers[k] * (1 << k) / 65536;
            }
            made.add(digest);
        }
        if (made.stream().distinct().count() == 1) {
            return true;
        }
        if (voters.size() == 2 || made.stream().distinct().count() == 3) {
            return false;
        }
        for (int k = 0; k < 3; k++) {
            if (made.indexOf(made.get(k)) == made.lastIndexOf(made.get(k))) {
                name(voters.get(k), "digest");
            }
        }
        return true;
    }

    private String blameAndCopy() {
        for (One one : ones) {
            if (one.named) {
                one.blame += 20;
                one.state = one.blame >= 50 ? 2 : 1;
                one.mark = 0;
                saw(one.state == 2 ? "out" : "to be copied");
            }
        }
        List<One> left = trusted();
        if (left.isEmpty() || left.size() == 1 && !single) {
            return "blame";
        }
        if (left.size() == 1) {
            saw("alone");
        }
        One source = left.get(0);
        int finished = 0;
        for (One one : ones) {
            if (one.state == 1 && !one.named) {
                one.codes[one.mark] = source.codes[one.mark];
                one.mark++;
                if (one.mark == 32) {
                    one.registers = source.registers.clone();
                    one.counter = source.counter;
                    one.state = 0;
                    finished++;
                }
            }
        }
        saw(finished + " copied");
        for (One one : ones) {
            one.blame -= number % 4 == 0 && one.blame > 0 ? 1 : 0;
        }
        return null;
    }

    boolean input(int word) {
        if (ones == null || came.size() == 64) {
            return false;
        }
        came.add(word & 65535);
        return true;
    }

    int output(int i) {
        return wordOf(out, i);
    }

    int perfect(int i) {
        return wordOf(perfectOut, i);
    }

    private static int wordOf(List<Integer> list, int i) {
        if (i >= 300) {
            throw new IndexOutOfBoundsException();
        }
        return list.get(i);
    }

    void flip(int m, int place, int index, int bit) {
        if (ones == null || m < 0 || m > 2 || bit < 0 || index < 0) {
            throw new IndexOutOfBoundsException();
        }
        if (place == 0 && index < 8 && bit < 16) {
            ones[m].registers[index] ^= 1 << bit;
        } else if (place == 1 && index < 32 && bit < 22) {
            ones[m].codes[index] ^= 1 << bit;
        } else if (place == 2 && index == 0 && bit < 6) {
            ones[m].counter = (ones[m].counter ^ 1 << bit) % program.size();
        } else {
            throw new IndexOutOfBoundsException();
        }
    }

    boolean freeze(int m, boolean on) {
        if (ones == null || m < 0 || m > 2) {
            return false;
        }
        ones[m].frozen = on;
        return true;
    }

    boolean skip(int m) {
        if (ones == null || m < 0 || m > 2) {
            return false;
        }
        ones[m].skips = true;
        return true;
    }

    boolean swap(int m) {
        if (ones == null || m < 0 || m > 2 || safe) {
            return false;
        }
        int others = 0;
        for (int k = 0; k < 3; k++) {
            others += k != m && ones[k].state == 0 ? 1 : 0;
        }
        if (others == 0 || others == 1 && !single) {
            return false;
        }
        ones[m] = new One();
        ones[m].state = 1;
        return true;
    }

    void allow(boolean on) {
        single = on;
    }

    int module(int m, int what) {
        if (ones == null || m < 0 || m > 2 || what < 0 || what > 5) {
            return -1;
        }
        One one = ones[m];
        int mark = one.state == 0 ? 32 : one.state == 1 ? one.mark : 0;
        return new int[] {one.state, mark, one.blame, one.counter, one.right, one.times}[what];
    }

    int register(int m, int k) {
        return ones == null || m < 0 || m > 2 || k < 0 || k > 7 ? -1 : ones[m].registers[k];
    }

    int code(int m, int word) {
        return ones == null || m < 0 || m > 2 || word < 0 || word > 31 ? -1 : ones[m].codes[word];
    }

    int state(int what) {
        if (what < 0 || what > 6 || ones == null && what == 0) {
            return -1;
        }
        int mode = 0;
        for (int m = 0; m < 3 && what == 0 && !safe; m++) {
            mode += ones[m].state == 0 ? 1 : 0;
        }
        int waiting = came.size() - taken;
        return new int[] {mode, number, unlike, out.size(), perfectOut.size(), waiting, single ? 1 : 0}[what];
    }
}
