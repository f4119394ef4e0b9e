import java.util.Arrays;
import java.util.Random;

/** Any arguments in any state: no call throws, and a refusal changes nothing (a finding but count() 8). */
public final class RobustTest {
    private static final int[] EDGES = {Integer.MIN_VALUE, Integer.MIN_VALUE + 1, -61, -3, -2, -1, 0, 1, 2, 3, 4, 5, 6,
        7, 8, 9, 10, 15, 16, 17, 29, 30, 31, 55, 56, 59, 60, 61, 255, 256, 32768, Integer.MAX_VALUE - 1,
        Integer.MAX_VALUE};
    private static int wrong = 0;

    public static void main(String[] args) {
        for (int run = 0; run < 60; run++) {
            wild(run);
        }
        for (int run = 0; run < 90; run++) {
            refusals(run);
        }
        System.out.println(wrong == 0 ? "nothing was thrown, nothing changed by refusals" : wrong + " faults");
        if (wrong != 0) {
            System.exit(1);
        }
    }

    private static void fault(String text) {
        wrong++;
        System.out.println(text);
    }

    private static AccentShop filled(Random r) {
        AccentShop x = new AccentShop();
        typeAll(x, 0, things(r, "kyg", 5, 10, 1 + r.nextInt(8)));
        typeAll(x, 1, things(r, "pcl", 1, 8, 1 + r.nextInt(8)));
        for (int k = r.nextInt(9); k > 0; k--) {
            x.hire(r.nextInt(30), r.nextInt(8), r.nextInt(8));
        }
        for (int k = r.nextInt(3); k > 0; k--) {
            x.hear(r.nextInt(30), r.nextInt(8), r.nextInt(5), r.nextInt(10));
        }
        x.sheet(0, 0, 4);
        x.sheet(1, 1, 60);
        x.sheet(2, 2, 0);
        return x;
    }

    private static String things(Random r, String sorts, int figures, int bound, int n) {
        StringBuilder b = new StringBuilder();
        for (int i = 0; i < n; i++) {
            b.append(i == 0 ? "" : ";").append(sorts.charAt(r.nextInt(3)));
            for (int f = 0; f < figures; f++) {
                b.append(r.nextInt(bound));
            }
        }
        return b.toString();
    }

    private static void typeAll(AccentShop x, int text, String bytes) {
        for (int i = 0; i < bytes.length(); i++) {
            x.type(text, bytes.charAt(i));
        }
    }

    private static int any(Random r) {
        int luck = r.nextInt(10);
        return luck == 0 ? r.nextInt() : luck < 4 ? EDGES[r.nextInt(EDGES.length)] : r.nextInt(8);
    }

    /** Runs on far beyond the 512th call, where answers are free but a throw is not. */
    private static void wild(int run) {
        Random r = new Random(77L * run + 5);
        AccentShop x = run % 3 == 0 ? new AccentShop() : filled(r);
        for (int i = 0; i < 700; i++) {
            int which = r.nextInt(33);
            int[] a = {any(r), any(r), any(r), any(r), any(r)};
            try {
                call(x, which, a);
            } catch (Throwable t) {
                fault("run " + run + ": call " + which + Arrays.toString(a) + " threw " + t);
                return;
            }
        }
    }

    /** A twin that is spared the refused calls answers the others alike, to the end (within 512 calls). */
    private static void refusals(int run) {
        AccentShop x = filled(new Random(run));
        AccentShop twin = filled(new Random(run));
        Random r = new Random(131L * run + 9);
        int finding = x.count(8);
        for (int i = 0; i < 110; i++) {
            int which = r.nextInt(33);
            int[] a = {any(r), any(r), any(r), any(r), any(r)};
            long answer = call(x, which, a);
            int findingNow = x.count(8);
            if (!isRefusal(which, answer)) {
                long other = call(twin, which, a);
                if (other != answer && !(which == 31 && a[0] == 8)) {
                    fault("run " + run + ": call " + which + Arrays.toString(a) + " answered " + answer
                            + ", without refusals ahead of it " + other);
                }
            }
            boolean found = answer <= -11 && answer >= -15;
            if (which != 29 && findingNow != (found ? -10 - answer : finding)) {
                fault("run " + run + ": call " + which + " answered " + answer + ", count(8) is " + findingNow);
            }
            finding = findingNow;
        }
        for (int i = 0; i < 60; i++) {
            for (int s = 0; s < 3; s++) {
                if (x.get(s, s, i) != twin.get(s, s, i)) {
                    fault("run " + run + ": sheet " + s + " has another item " + i);
                }
            }
        }
        if (x.digest() != twin.digest()) {
            fault("run " + run + ": another digest");
        }
    }

    private static boolean isRefusal(int which, long answer) {
        if (which == 24) {
            return answer < 0;
        }
        return which == 29 ? answer == Integer.MIN_VALUE : which != 32 && answer <= -2;
    }

    static long call(AccentShop x, int which, int[] a) {
        switch (which) {
            case 0: return x.type(a[0], a[1]);
            case 1: return x.wipe(a[0]);
            case 2: return x.undo(a[0]);
            case 3: return x.fault(a[0]);
            case 4: return x.accent(a[0], a[1]);
            case 5: return x.person(a[0], a[1]);
            case 6: return x.hire(a[0], a[1], a[2]);
            case 7: return x.back();
            case 8: return x.read(a[0]);
            case 9: return x.at(a[0], a[1], a[2]);
            case 10: return x.drawer(a[0], a[1], a[2]);
            case 11: return x.becomes(a[0]);
            case 12: return x.astray();
            case 13: return x.crowd();
            case 14: return x.dress(a[0], a[1], a[2], a[3]);
            case 15: return x.home(a[0]);
            case 16: return x.tray(a[0]);
            case 17: return x.refuse(a[0]);
            case 18: return x.hear(a[0], a[1], a[2], a[3]);
            case 19: return x.forget();
            case 20: return x.never();
            case 21: return x.was(a[0], a[1]);
            case 22: return x.ask(a[0]);
            case 23: return x.year(a[0], a[1], a[2]);
            case 24: return x.custom(a[0], a[1], a[2]);
            case 25: return x.sheet(a[0], a[1], a[2]);
            case 26: return x.lose(a[0]);
            case 27: return x.lay(a[0], a[1], a[2], a[3]);
            case 28: return x.copy(a[0], a[1], a[2], a[3], a[4]);
            case 29: return x.get(a[0], a[1], a[2]);
            case 30: return x.write(a[0], a[1]);
            case 31: return x.count(a[0]);
            default: return x.digest();
        }
    }
}
