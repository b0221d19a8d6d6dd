import java.util.NoSuchElementException;

/** Calls of all sorts with all sorts of arguments: nothing but out()'s own exception comes. */
public final class MachineTest {
    private static final int[] NUMBERS = {
        0, 1, 2, 3, 4, 5, 6, 7, 9, 10, 11, 12, 19, 20, 39, 40, 41, 59, 60, 99, 100, 299, 300, 301, 399, 400, 401, 1999, 2000, 2001,
        -1, -2, -3, -10, -11, 65536, 214748364, 214748365, 429496730, Integer.MAX_VALUE, Integer.MIN_VALUE, Integer.MIN_VALUE + 1,
    };
    private static final String[] TEXTS = {
        "a", "A", "b", "a^2", "b^3", "(ab)^5", "[a,b]", "[[a,b],c]", "abC", "", " ", "1", "((((((((a))))))))", "(((((((((a)))))))))",
        "a^99", "a^40", "a^100", "[a^30,b]", "a^-3", "(a", "a^", "\u00ff\u0000", "e^7", "dcbae", "[1,1]", "(ab)^20a^0",
    };
    private static long seed = 11;

    private static int pick(int below) {
        seed = seed * 6364136223846793005L + 1442695040888963407L;
        return (int) ((seed >>> 33) % below);
    }

    private static int any() {
        return pick(3) == 0 ? NUMBERS[pick(NUMBERS.length)] : pick(8) - 1;
    }

    private static int text(CosetHouse x) {
        String text = TEXTS[pick(TEXTS.length)];
        StringBuilder padded = new StringBuilder(text);
        while (padded.length() % 20 != 0) padded.append(' ');
        for (int k = 0; k < padded.length(); k += 20) {
            int[] n = new int[5];
            for (int q = 0; q < 20; q++) n[q / 4] = n[q / 4] << 8 | padded.charAt(k + q);
            x.feed(n[0], n[1], n[2], n[3], n[4]);
        }
        return pick(10) == 0 ? any() : text.length();
    }

    private static void call(CosetHouse x, int what) {
        switch (what) {
            case 0: x.feed(any(), any(), any(), any(), any()); break;
            case 1: if (pick(6) == 0) x.letters(any()); break;
            case 2: x.word(text(x)); break;
            case 3: x.sub(text(x)); break;
            case 4: x.drop(pick(2) == 0); break;
            case 5: x.letter(any(), any(), pick(2) == 0); break;
            case 6: x.ask(text(x)); break;
            case 7: x.fault(); x.trouble(); x.where(); break;
            case 8: case 9: x.begin(any(), any()); break;
            case 10: x.begin(pick(5), 1 + pick(300)); break;
            case 11: x.step(); break;
            case 12: x.run(any()); break;
            case 13: x.run(1 + pick(2000)); break;
            case 14: x.cell(any(), any()); break;
            case 15: x.row(any()); break;
            case 16: x.about(any()); break;
            case 17: x.index(); x.is(); x.within(); x.power(); break;
            case 18: x.rename(); break;
            case 19: x.pack(); break;
            case 20: x.lead(any()); break;
            case 21: x.cycles(any(), any()); break;
            case 22: x.least(any()); break;
            case 23: x.farthest(); break;
            case 24: x.tell(any(), any()); break;
            case 25: x.low(any()); break;
            case 26: x.lowly(any()); x.small(any(), any(), any()); x.size(any()); x.normal(any()); break;
            case 27: x.keep(); break;
            case 28: x.back(); break;
            case 29: x.sheet(any()); break;
            case 30: x.put(any(), any(), any()); break;
            case 31: x.check(); break;
            default:
                try { x.out(any()); } catch (NoSuchElementException e) { return; }
        }
    }

    public static void main(String[] args) {
        int wrong = 0;
        for (int run = 0; run < 400; run++) {
            CosetHouse x = new CosetHouse();
            int what = 0;
            try {
                for (int k = 0; k < 500; k++) {
                    what = pick(33);
                    call(x, what);
                }
            } catch (RuntimeException e) {
                wrong++;
                System.out.println("run " + run + ", call of kind " + what + ": " + e);
                e.printStackTrace(System.out);
            }
        }
        System.out.println(wrong == 0 ? "nothing was thrown" : wrong + " runs threw");
        if (wrong != 0) System.exit(1);
    }
}
