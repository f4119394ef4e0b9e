import java.math.BigInteger;
import java.util.ArrayList;
import java.util.Arrays;
import java.util.HashMap;
import java.util.List;
import java.util.Map;
import java.util.Random;
import java.util.TreeMap;
import java.util.regex.Matcher;
import java.util.regex.Pattern;

/** Random runs against a second, slow model of the document that shares nothing with the class. */
public final class ModelTest {
    private static int wrong = 0;

    public static void main(String[] args) {
        long started = System.nanoTime();
        for (int run = 0; run < 120; run++) {
            new Run(run).go();
        }
        System.out.println((wrong == 0 ? "all answers are as the model's" : wrong + " answers are not as the model's")
                + " (" + (System.nanoTime() - started) / 1_000_000 + " ms)");
        if (wrong != 0) {
            System.exit(1);
        }
    }

    /** One object's run of at most 512 calls. */
    private static final class Run {
        final int number;
        final Random random;
        final AccentShop shop = new AccentShop();
        final Model model = new Model();
        final StringBuilder told = new StringBuilder();
        int calls = 0;

        Run(int number) {
            this.number = number;
            this.random = new Random(9001L + number);
        }

        void go() {
            if (random.nextInt(8) != 0) {
                typeText(0, accents());
                typeText(1, people());
                for (int k = random.nextInt(9); k > 0; k--) {
                    call("hire", below(30), below(8), below(8));
                }
            }
            int length = 120 + random.nextInt(120);
            for (int i = 0; i < length && calls < 500; i++) {
                step();
            }
            call("digest");
        }

        void typeText(int text, String bytes) {
            for (int i = 0; i < bytes.length(); i++) {
                call("type", text, bytes.charAt(i));
            }
        }

        String accents() {
            int n = random.nextInt(4) == 0 ? 8 : random.nextInt(9);
            int spread = random.nextBoolean() ? 10 : 3;
            StringBuilder b = new StringBuilder();
            for (int i = 0; i < n; i++) {
                b.append(i == 0 ? "" : ";").append("kyg".charAt(random.nextInt(3)));
                for (int s = 0; s < 5; s++) {
                    b.append((char) ('0' + random.nextInt(spread)));
                }
            }
            return b.toString();
        }

        String people() {
            int n = random.nextInt(4) == 0 ? 8 : random.nextInt(9);
            int spread = random.nextBoolean() ? 8 : 3;
            StringBuilder b = new StringBuilder();
            for (int i = 0; i < n; i++) {
                b.append(i == 0 ? "" : ";").append("pcl".charAt(random.nextInt(3)));
                b.append((char) ('0' + random.nextInt(spread)));
            }
            return b.toString();
        }

        int below(int bound) {
            int luck = random.nextInt(60);
            if (luck == 0) {
                return -1;
            }
            if (luck == 1) {
                return bound;
            }
            if (luck == 2) {
                return random.nextInt();
            }
            return random.nextInt(bound);
        }

        int someByte() {
            String likely = "kygpcl01234567899;;;;";
            return random.nextInt(5) == 0 ? below(256) : likely.charAt(random.nextInt(likely.length()));
        }

        void step() {
            switch (random.nextInt(40)) {
                case 0: call("type", below(2), someByte()); break;
                case 1: call("undo", below(2)); break;
                case 2: mendText(); break;
                case 3: call("fault", below(2)); break;
                case 4: call("accent", below(8), below(6)); break;
                case 5: call("person", below(8), below(2)); break;
                case 6: case 7: call("hire", below(30), below(8), below(8)); break;
                case 8: call("back"); break;
                case 9: call("read", below(4)); break;
                case 10: case 11: case 12: call("at", below(30), below(8), below(8)); break;
                case 13: case 14: call("drawer", below(30), below(8), below(6)); break;
                case 15: call("becomes", below(8)); break;
                case 16: call("astray"); break;
                case 17: call("crowd"); break;
                case 18: call("dress", below(8), below(8), below(30), below(2)); break;
                case 19: call("home", below(8)); break;
                case 20: call("tray", below(3)); break;
                case 21: call("refuse", below(3) - 1); break;
                case 22: case 23: hearTrueOrFalse(); break;
                case 24: if (random.nextInt(3) == 0) call("forget"); break;
                case 25: call("never"); break;
                case 26: call("was", below(8), below(2)); break;
                case 27: call("ask", below(8)); break;
                case 28: call("custom", below(17), below(8), below(2)); break;
                case 29: call("year", random.nextInt(), below(9), below(2)); break;
                case 30: call("sheet", below(4), below(3), sheetSize()); break;
                case 31: if (random.nextInt(3) == 0) call("lose", below(4)); break;
                case 32: case 33: call("lay", below(4), below(3), below(8), layValue()); break;
                case 34: call("get", below(4), below(3), below(8)); break;
                case 35: call("copy", below(4), below(6), below(4), below(6), below(5)); break;
                case 36: call("write", below(8), below(4)); break;
                case 37: case 38: call("count", below(9)); break;
                default: if (random.nextInt(6) == 0) call("digest"); break;
            }
        }

        void mendText() {
            int text = random.nextInt(2);
            String bytes = text == 0 ? accents() : people();
            if (random.nextInt(3) == 0 && calls + bytes.length() < 480) {
                call("wipe", below(2));
                call("wipe", text);
                typeText(text, bytes);
            }
        }

        void hearTrueOrFalse() {
            int day = random.nextInt(30);
            int person = random.nextInt(8);
            int sound = random.nextInt(5);
            int mark = model.call("at", new int[] {day, person, sound}).intValue();
            if (mark < 0 || random.nextInt(4) == 0) {
                call("hear", below(30), below(8), below(5), below(10));
            } else {
                call("hear", day, person, sound, mark);
            }
        }

        int sheetSize() {
            int luck = random.nextInt(10);
            return luck == 0 ? -1 - random.nextInt(3) : luck == 1 ? 58 + random.nextInt(5) : random.nextInt(40);
        }

        int layValue() {
            int luck = random.nextInt(8);
            return luck == 0 ? random.nextInt() : luck == 1 ? 127 + random.nextInt(3) : random.nextInt(9);
        }

        void call(String name, int... a) {
            calls++;
            long due = model.call(name, a);
            long got = answer(name, a);
            told.append(name).append(Arrays.toString(a)).append(' ').append(got).append('\n');
            if (due != got) {
                wrong++;
                if (wrong < 20) {
                    System.out.println("run " + number + " call " + calls + ": " + name + Arrays.toString(a)
                            + " answered " + got + ", the model says " + due);
                }
            }
        }

        long answer(String name, int[] a) {
            switch (name) {
                case "type": return shop.type(a[0], a[1]);
                case "wipe": return shop.wipe(a[0]);
                case "undo": return shop.undo(a[0]);
                case "fault": return shop.fault(a[0]);
                case "accent": return shop.accent(a[0], a[1]);
                case "person": return shop.person(a[0], a[1]);
                case "hire": return shop.hire(a[0], a[1], a[2]);
                case "back": return shop.back();
                case "read": return shop.read(a[0]);
                case "at": return shop.at(a[0], a[1], a[2]);
                case "drawer": return shop.drawer(a[0], a[1], a[2]);
                case "becomes": return shop.becomes(a[0]);
                case "astray": return shop.astray();
                case "crowd": return shop.crowd();
                case "dress": return shop.dress(a[0], a[1], a[2], a[3]);
                case "home": return shop.home(a[0]);
                case "tray": return shop.tray(a[0]);
                case "refuse": return shop.refuse(a[0]);
                case "hear": return shop.hear(a[0], a[1], a[2], a[3]);
                case "forget": return shop.forget();
                case "never": return shop.never();
                case "was": return shop.was(a[0], a[1]);
                case "ask": return shop.ask(a[0]);
                case "custom": return shop.custom(a[0], a[1], a[2]);
                case "year": return shop.year(a[0], a[1], a[2]);
                case "sheet": return shop.sheet(a[0], a[1], a[2]);
                case "lose": return shop.lose(a[0]);
                case "lay": return shop.lay(a[0], a[1], a[2], a[3]);
                case "get": return shop.get(a[0], a[1], a[2]);
                case "copy": return shop.copy(a[0], a[1], a[2], a[3], a[4]);
                case "write": return shop.write(a[0], a[1]);
                case "count": return shop.count(a[0]);
                default: return shop.digest();
            }
        }
    }

    /** A refusal, thrown in the model alone. */
    private static final class Refusal extends RuntimeException {
        private static final long serialVersionUID = 1L;
        final int code;

        Refusal(int code) {
            this.code = code;
        }
    }

    private static final class World {
        List<String> accents = new ArrayList<>();
        List<String> people = new ArrayList<>();
        List<int[]> hirings = new ArrayList<>();

        World twin() {
            World w = new World();
            w.accents.addAll(accents);
            w.people.addAll(people);
            w.hirings.addAll(hirings);
            return w;
        }

        int own(int p) {
            return people.get(p).charAt(1) - '0';
        }

        World without(int... gone) {
            World w = twin();
            w.hirings.clear();
            for (int k = 0; k < hirings.size(); k++) {
                final int hiring = k;
                if (Arrays.stream(gone).noneMatch(g -> g == hiring)) {
                    w.hirings.add(hirings.get(k));
                }
            }
            return w;
        }

        World with(int day, int person, int accent) {
            World w = twin();
            w.hirings.add(new int[] {day, person, accent});
            return w;
        }

        World personAs(int p, String text) {
            World w = twin();
            w.people.set(p, text);
            return w;
        }

        World drawersChanged(int a, int b) {
            World w = new World();
            int[] to = {0, 1, 2, 3, 4, 5, 6, 7};
            to[a] = b;
            to[b] = a;
            for (int i = 0; i < accents.size(); i++) {
                w.accents.add(accents.get(to[i]));
            }
            for (String person : people) {
                w.people.add("" + person.charAt(0) + to[person.charAt(1) - '0']);
            }
            for (int[] h : hirings) {
                w.hirings.add(new int[] {h[0], h[1], to[h[2]]});
            }
            return w;
        }

        State[] thirtyDays() {
            State[] all = new State[30];
            State s = new State(this);
            for (int day = 0; day < 30; day++) {
                s = s.after(day);
                all[day] = s;
            }
            return all;
        }

        int astray() {
            State end = thirtyDays()[29];
            int bits = 0;
            for (int p = 0; p < people.size(); p++) {
                int t = end.taken(p);
                if (t >= 0 && t != own(p)) {
                    bits += 1 << p;
                }
            }
            return bits;
        }

        int becomes(int p) {
            State[] all = thirtyDays();
            for (int day = 0; day < 30; day++) {
                int w = all[day].wears[p];
                if (w != own(p) && w < accents.size() && Arrays.equals(all[day].speech[p], all[day].marks[w])) {
                    return day;
                }
            }
            return -1;
        }

        int becomers() {
            int n = 0;
            for (int p = 0; p < people.size(); p++) {
                n += becomes(p) >= 0 ? 1 : 0;
            }
            return n;
        }
    }

    private static final class State {
        final World world;
        final int[][] marks;
        final int[][] speech;
        final int[] wears;

        State(World world) {
            this.world = world;
            marks = new int[world.accents.size()][5];
            speech = new int[world.people.size()][5];
            wears = new int[world.people.size()];
            for (int a = 0; a < marks.length; a++) {
                for (int s = 0; s < 5; s++) {
                    marks[a][s] = world.accents.get(a).charAt(1 + s) - '0';
                }
            }
            for (int p = 0; p < wears.length; p++) {
                wears[p] = world.own(p);
                speech[p] = wears[p] < marks.length ? marks[wears[p]].clone() : new int[] {5, 5, 5, 5, 5};
            }
        }

        State after(int day) {
            State n = new State(world);
            for (int a = 0; a < marks.length; a++) {
                n.marks[a] = marks[a].clone();
            }
            for (int p = 0; p < wears.length; p++) {
                n.speech[p] = speech[p].clone();
                n.wears[p] = wears[p];
            }
            for (int[] h : world.hirings) {
                if (h[0] == day && h[1] < wears.length) {
                    n.wears[h[1]] = h[2];
                }
            }
            if (Arrays.asList(6, 13, 20, 27).contains(day)) {
                n.talk(day / 7);
            }
            for (int p = 0; p < wears.length; p++) {
                if (n.wears[p] < marks.length) {
                    n.shift(n.speech[p], n.marks[n.wears[p]], world.people.get(p).charAt(0), day);
                }
            }
            return n;
        }

        int wearing(int a) {
            return (int) Arrays.stream(wears).filter(w -> w == a).count();
        }

        void talk(int sound) {
            for (int a = 0; a < marks.length - 1; a++) {
                if (wearing(a) > 0 || wearing(a + 1) > 0) {
                    continue;
                }
                int steps = " yg".indexOf(world.accents.get(a).charAt(0));
                for (int i = 0; i < steps; i++) {
                    marks[a][sound] += Integer.compare(marks[a + 1][sound], marks[a][sound]);
                }
            }
        }

        void shift(int[] mine, int[] goal, char sort, int day) {
            if (sort == 'c') {
                for (int s = 0; s < 5; s++) {
                    mine[s] += Integer.compare(goal[s], mine[s]);
                }
                return;
            }
            if (sort == 'l' && day % 2 == 1) {
                return;
            }
            for (int gap = 9; gap > 0; gap--) {
                for (int s = 0; s < 5; s++) {
                    if (Math.abs(goal[s] - mine[s]) == gap) {
                        mine[s] += Integer.compare(goal[s], mine[s]);
                        return;
                    }
                }
            }
        }

        int far(int p, int a) {
            int sum = 0;
            for (int s = 0; s < 5; s++) {
                sum += Math.abs(speech[p][s] - marks[a][s]);
            }
            return sum;
        }

        int taken(int p) {
            TreeMap<Integer, Integer> byFar = new TreeMap<>();
            for (int a = marks.length - 1; a >= 0; a--) {
                byFar.put(far(p, a), a);
            }
            return byFar.isEmpty() ? -1 : byFar.firstEntry().getValue();
        }
    }

    /** The document, as slowly as it reads. */
    private static final class Model {
        static final Pattern ACCENTS = Pattern.compile("[kyg][0-9]{5}(;[kyg][0-9]{5}){0,7}");
        static final Pattern PEOPLE = Pattern.compile("[pcl][0-7](;[pcl][0-7]){0,7}");
        final StringBuilder[] texts = {new StringBuilder(), new StringBuilder()};
        final List<int[]> hirings = new ArrayList<>();
        final List<int[]> heard = new ArrayList<>();
        final Object[] sheets = new Object[4];
        int finding = 0;

        Long call(String name, int[] a) {
            try {
                return calls(name, a);
            } catch (Refusal r) {
                if (name.equals("get")) {
                    return (long) Integer.MIN_VALUE;
                }
                return name.equals("custom") ? Long.MIN_VALUE - r.code : (long) r.code;
            } catch (NullPointerException e) {
                return found(1, name);
            } catch (ArrayStoreException e) {
                return found(4, name);
            } catch (ClassCastException e) {
                return found(3, name);
            } catch (IndexOutOfBoundsException e) {
                return found(2, name);
            } catch (NegativeArraySizeException e) {
                return found(5, name);
            }
        }

        long found(int number, String name) {
            finding = number;
            return name.equals("get") ? Integer.MIN_VALUE : -10 - number;
        }

        static void must(boolean fits, int code) {
            if (!fits) {
                throw new Refusal(code);
            }
        }

        static void in(int x, int from, int to) {
            must(x >= from && x <= to, -2);
        }

        int fault(int text) {
            Pattern pattern = text == 0 ? ACCENTS : PEOPLE;
            String all = texts[text].toString();
            if (all.isEmpty()) {
                return -1;
            }
            for (int i = 0; i < all.length(); i++) {
                Matcher m = pattern.matcher(all.substring(0, i + 1));
                if (!m.matches() && !m.hitEnd()) {
                    return i;
                }
            }
            return pattern.matcher(all).matches() ? -1 : all.length();
        }

        World world() {
            World w = new World();
            if (fault(0) == -1 && texts[0].length() > 0) {
                w.accents.addAll(Arrays.asList(texts[0].toString().split(";")));
            }
            if (fault(1) == -1 && texts[1].length() > 0) {
                w.people.addAll(Arrays.asList(texts[1].toString().split(";")));
            }
            w.hirings.addAll(hirings);
            return w;
        }

        long calls(String name, int[] a) {
            World w = world();
            int accents = w.accents.size();
            int people = w.people.size();
            switch (name) {
                case "type":
                    in(a[0], 0, 1);
                    in(a[1], 0, 255);
                    must(texts[a[0]].length() < (a[0] == 0 ? 55 : 23), -4);
                    texts[a[0]].append((char) a[1]);
                    return texts[a[0]].length();
                case "wipe": {
                    in(a[0], 0, 1);
                    int had = texts[a[0]].length();
                    texts[a[0]].setLength(0);
                    return had;
                }
                case "undo":
                    in(a[0], 0, 1);
                    must(texts[a[0]].length() > 0, -3);
                    texts[a[0]].setLength(texts[a[0]].length() - 1);
                    return texts[a[0]].length();
                case "fault":
                    in(a[0], 0, 1);
                    return fault(a[0]);
                case "accent": {
                    in(a[0], 0, accents - 1);
                    in(a[1], 0, 5);
                    char c = w.accents.get(a[0]).charAt(a[1]);
                    return a[1] == 0 ? "kyg".indexOf(c) : c - '0';
                }
                case "person": {
                    in(a[0], 0, people - 1);
                    in(a[1], 0, 1);
                    char c = w.people.get(a[0]).charAt(a[1]);
                    return a[1] == 0 ? "pcl".indexOf(c) : c - '0';
                }
                case "hire":
                    in(a[0], 0, 29);
                    in(a[1], 0, 7);
                    in(a[2], 0, 7);
                    must(hirings.size() < 8, -4);
                    hirings.add(a.clone());
                    return hirings.size();
                case "back":
                    must(!hirings.isEmpty(), -3);
                    hirings.remove(hirings.size() - 1);
                    return hirings.size();
                case "read":
                    return read(a[0]);
                case "at":
                    in(a[0], 0, 29);
                    in(a[1], 0, people - 1);
                    in(a[2], 0, 7);
                    return at(w.thirtyDays()[a[0]], a[1], a[2]);
                case "drawer": {
                    in(a[0], 0, 29);
                    in(a[1], 0, accents - 1);
                    in(a[2], 0, 5);
                    State s = w.thirtyDays()[a[0]];
                    return a[2] < 5 ? s.marks[a[1]][a[2]] : s.wearing(a[1]);
                }
                case "becomes":
                    in(a[0], 0, people - 1);
                    return w.becomes(a[0]);
                case "astray":
                    return w.astray();
                case "crowd":
                    return crowd(w);
                default:
                    return moreCalls(w, name, a);
            }
        }

        long moreCalls(World w, String name, int[] a) {
            int people = w.people.size();
            switch (name) {
                case "dress":
                    in(a[0], 0, people - 1);
                    in(a[1], 0, 7);
                    in(a[2], 0, 29);
                    in(a[3], 0, 1);
                    return dress(w, a[0], a[1], a[2])[a[3]];
                case "home":
                    in(a[0], 0, people - 1);
                    return home(w, a[0]);
                case "tray":
                    in(a[0], 0, 2);
                    return tray(w)[a[0]];
                case "refuse":
                    in(a[0], -1, 1);
                    return refuse(w)[a[0] + 1];
                case "hear":
                    in(a[0], 0, 29);
                    in(a[1], 0, 7);
                    in(a[2], 0, 4);
                    in(a[3], 0, 9);
                    must(heard.size() < 8, -4);
                    heard.add(a.clone());
                    return heard.size();
                case "forget": {
                    int had = heard.size();
                    heard.clear();
                    return had;
                }
                case "never": {
                    int bits = 0;
                    for (int k = 0; k < hirings.size(); k++) {
                        bits |= comesOut(w.without(k)) ? 1 << k : 0;
                    }
                    return bits;
                }
                case "was":
                    in(a[0], 0, people - 1);
                    in(a[1], 0, 1);
                    return a[1] == 0 ? whose(w, a[0]) : sort(w, a[0]);
                case "ask":
                    in(a[0], 0, people - 1);
                    return ask(w, a[0]);
                case "custom":
                    in(a[0], 0, 16);
                    in(a[1], 0, people - 1);
                    in(a[2], 0, 1);
                    return custom(w, a[0], a[1])[a[2]].longValueExact();
                case "year":
                    in(a[1], 0, 8);
                    in(a[2], 0, 1);
                    return year(w, a[0], a[1], a[2]);
                case "count":
                    in(a[0], 0, 8);
                    return new int[] {w.accents.size(), people, texts[0].length(), texts[1].length(), hirings.size(),
                        Integer.bitCount(w.astray()), w.becomers(), heard.size(), finding}[a[0]];
                case "digest":
                    return digest(w);
                default:
                    return sheetCalls(w, name, a);
            }
        }

        long sheetCalls(World w, String name, int[] a) {
            switch (name) {
                case "sheet":
                    in(a[0], 0, 3);
                    in(a[1], 0, 2);
                    must(a[2] <= 60, -2);
                    sheets[a[0]] = a[1] == 0 ? new byte[a[2]] : a[1] == 1 ? new short[a[2]] : new int[a[2]];
                    return a[2];
                case "lose": {
                    in(a[0], 0, 3);
                    int had = java.lang.reflect.Array.getLength(sheets[a[0]]);
                    sheets[a[0]] = null;
                    return had;
                }
                case "lay":
                    in(a[0], 0, 3);
                    in(a[1], 0, 2);
                    if (a[1] == 0) {
                        ((byte[]) sheets[a[0]])[a[2]] = (byte) a[3];
                    } else if (a[1] == 1) {
                        ((short[]) sheets[a[0]])[a[2]] = (short) a[3];
                    } else {
                        ((int[]) sheets[a[0]])[a[2]] = a[3];
                    }
                    return 1;
                case "get":
                    in(a[0], 0, 3);
                    in(a[1], 0, 2);
                    return a[1] == 0 ? ((byte[]) sheets[a[0]])[a[2]]
                            : a[1] == 1 ? ((short[]) sheets[a[0]])[a[2]] : ((int[]) sheets[a[0]])[a[2]];
                case "copy":
                    in(a[0], 0, 3);
                    in(a[2], 0, 3);
                    System.arraycopy(sheets[a[0]], a[1], sheets[a[2]], a[3], a[4]);
                    return 1;
                case "write": {
                    in(a[0], 0, w.people.size() - 1);
                    in(a[1], 0, 3);
                    int n = Math.min(30, java.lang.reflect.Array.getLength(sheets[a[1]]));
                    State[] all = w.thirtyDays();
                    for (int day = 0; day < n; day++) {
                        put(sheets[a[1]], day, all[day].taken(a[0]));
                    }
                    return n;
                }
                default:
                    throw new IllegalStateException(name);
            }
        }

        static void put(Object row, int i, int v) {
            if (row instanceof byte[]) {
                ((byte[]) row)[i] = (byte) v;
            } else if (row instanceof short[]) {
                ((short[]) row)[i] = (short) v;
            } else {
                ((int[]) row)[i] = v;
            }
        }

        long read(int s) {
            in(s, 0, 3);
            int n = java.lang.reflect.Array.getLength(sheets[s]);
            int came = 0;
            for (int k = 0; k < n / 3; k++) {
                int[] h = new int[3];
                for (int i = 0; i < 3; i++) {
                    h[i] = java.lang.reflect.Array.getInt(sheets[s], 3 * k + i);
                }
                boolean isOne = h[0] >= 0 && h[0] <= 29 && h[1] >= 0 && h[1] <= 7 && h[2] >= 0 && h[2] <= 7;
                if (!isOne || hirings.size() == 8) {
                    return came;
                }
                hirings.add(h);
                came++;
            }
            return came;
        }

        static int at(State s, int p, int what) {
            int t = s.taken(p);
            return what < 5 ? s.speech[p][what] : what == 5 ? s.wears[p] : what == 6 || t < 0 ? t : s.far(p, t);
        }

        static int crowd(World w) {
            State end = w.thirtyDays()[29];
            int best = -1;
            long most = 0;
            for (int a = w.accents.size() - 1; a >= 0; a--) {
                long n = 0;
                for (int p = 0; p < w.people.size(); p++) {
                    n += end.taken(p) == a ? 1 : 0;
                }
                if (n > 0 && n >= most) {
                    most = n;
                    best = a;
                }
            }
            return best;
        }

        static int[] dress(World w, int p, int accent, int day) {
            if (accent >= w.accents.size()) {
                return new int[] {-1, -1};
            }
            int[] best = null;
            for (int a = w.accents.size() - 1; a >= 0; a--) {
                int far = w.with(day, p, a).thirtyDays()[29].far(p, accent);
                if (best == null || far <= best[1]) {
                    best = new int[] {a, far};
                }
            }
            return best;
        }

        static int home(World w, int p) {
            int latest = -1;
            for (int day = 0; day < 30; day++) {
                if (w.with(day, p, w.own(p)).thirtyDays()[29].taken(p) == w.own(p)) {
                    latest = day;
                }
            }
            return latest;
        }

        static int[] tray(World w) {
            int[] best = {-1, -1, -1};
            for (int a = w.accents.size() - 1; a >= 0; a--) {
                for (int b = w.accents.size() - 1; b > a; b--) {
                    int n = Integer.bitCount(w.drawersChanged(a, b).astray());
                    if (best[0] < 0 || n <= best[2]) {
                        best = new int[] {a, b, n};
                    }
                }
            }
            return best;
        }

        static int[] refuse(World w) {
            List<int[]> rows = new ArrayList<>();
            int n = w.hirings.size();
            for (int set = 0; set < 1 << n; set++) {
                if (Integer.bitCount(set) <= 2) {
                    int[] row = new int[Integer.bitCount(set)];
                    for (int k = 0, i = 0; k < n; k++) {
                        if ((set >> k & 1) == 1) {
                            row[i++] = k;
                        }
                    }
                    rows.add(row);
                }
            }
            rows.sort((x, y) -> x.length != y.length ? x.length - y.length : Arrays.compare(x, y));
            for (int[] row : rows) {
                if (w.without(row).astray() == 0) {
                    return new int[] {row.length, row.length > 0 ? row[0] : -1, row.length > 1 ? row[1] : -1};
                }
            }
            return new int[] {-1, -1, -1};
        }

        boolean comesOut(World w) {
            State[] all = w.thirtyDays();
            return heard.stream().allMatch(
                    h -> h[1] < w.people.size() && all[h[0]].speech[h[1]][h[2]] == h[3]);
        }

        int whose(World w, int p) {
            int bits = 0;
            for (int a = 0; a < 8; a++) {
                bits |= comesOut(w.personAs(p, "" + w.people.get(p).charAt(0) + a)) ? 1 << a : 0;
            }
            return bits;
        }

        int sort(World w, int p) {
            int bits = 0;
            for (int k = 0; k < 3; k++) {
                bits |= comesOut(w.personAs(p, "" + "pcl".charAt(k) + w.own(p))) ? 1 << k : 0;
            }
            return bits;
        }

        int ask(World w, int p) {
            int whose = whose(w, p);
            int best = 0;
            int least = 99;
            for (int day = 0; day < 30; day++) {
                Map<Integer, Integer> groups = new HashMap<>();
                for (int a = 0; a < 8; a++) {
                    if ((whose >> a & 1) == 1) {
                        World as = w.personAs(p, "" + w.people.get(p).charAt(0) + a);
                        groups.merge(as.thirtyDays()[day].taken(p), 1, Integer::sum);
                    }
                }
                int greatest = groups.values().stream().max(Integer::compare).orElse(0);
                if (greatest < least) {
                    least = greatest;
                    best = day;
                }
            }
            return best;
        }

        BigInteger[] custom(World w, int c, int p) {
            int n = w.hirings.size();
            BigInteger above = BigInteger.ZERO;
            for (int set = 0; set < 1 << n; set++) {
                World some = w.twin();
                some.hirings.clear();
                for (int k = 0; k < n; k++) {
                    if ((set >> k & 1) == 1) {
                        some.hirings.add(w.hirings.get(k));
                    }
                }
                int size = some.hirings.size();
                BigInteger weight = BigInteger.valueOf(c).pow(size).multiply(BigInteger.valueOf(16 - c).pow(n - size));
                if (weight.signum() > 0 && (some.astray() >> p & 1) == 1) {
                    above = above.add(weight);
                }
            }
            BigInteger below = BigInteger.valueOf(16).pow(n);
            BigInteger g = above.gcd(below);
            return new BigInteger[] {above.divide(g), below.divide(g)};
        }

        static int year(World told, int seed, int n, int what) {
            World w = told.twin();
            w.hirings.clear();
            int[] s = {seed};
            if (!w.people.isEmpty() && !w.accents.isEmpty()) {
                for (int k = 0; k < n; k++) {
                    w.hirings.add(new int[] {lot(s, 30), lot(s, w.people.size()), lot(s, w.accents.size())});
                }
            }
            return what == 0 ? Integer.bitCount(w.astray()) : w.becomers();
        }

        static int lot(int[] seed, int m) {
            seed[0] = (int) (1103515245L * seed[0] + 12345L);
            return (int) ((seed[0] & 0xffffffffL) / 65536 % m);
        }

        long digest(World w) {
            List<Long> all = new ArrayList<>();
            for (int i = 0; i < 8; i++) {
                all.add(call("count", new int[] {i}));
            }
            all.add((long) fault(0));
            all.add((long) fault(1));
            State[] days = w.thirtyDays();
            for (int a = 0; a < w.accents.size(); a++) {
                for (int i = 0; i < 6; i++) {
                    all.add(call("accent", new int[] {a, i}));
                }
                for (int day : new int[] {6, 20, 29}) {
                    for (int i = 0; i < 5; i++) {
                        all.add((long) days[day].marks[a][i]);
                    }
                    all.add((long) days[day].wearing(a));
                }
            }
            for (int p = 0; p < w.people.size(); p++) {
                all.add(call("person", new int[] {p, 0}));
                all.add(call("person", new int[] {p, 1}));
                for (int day : new int[] {0, 7, 15, 29}) {
                    for (int i = 0; i < 8; i++) {
                        all.add((long) at(days[day], p, i));
                    }
                }
                all.add((long) w.becomes(p));
                int[] dress = dress(w, p, 1, 12);
                all.add((long) dress[0]);
                all.add((long) dress[1]);
                all.add((long) home(w, p));
                all.add((long) whose(w, p));
                all.add((long) sort(w, p));
                all.add((long) ask(w, p));
                BigInteger[] chance = custom(w, 5, p);
                all.add(chance[0].longValueExact());
                all.add(chance[1].longValueExact());
            }
            all.add((long) w.astray());
            all.add((long) crowd(w));
            for (int x : tray(w)) {
                all.add((long) x);
            }
            all.add((long) refuse(w)[0]);
            all.add((long) refuse(w)[1]);
            all.add(call("never", new int[0]));
            all.add((long) year(w, 7, 6, 0));
            all.add((long) year(w, 7, 6, 1));
            long h = 17;
            for (long x : all) {
                h = 31 * h + x;
            }
            return h;
        }
    }
}
