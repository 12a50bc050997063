import java.util.ArrayList;
import java.util.Collections;
import java.util.HashSet;
import java.util.List;
import java.util.Set;
import java.util.regex.Matcher;
import java.util.regex.Pattern;

/**
 * The document once more, told as plainly as the Java library allows, for ModelTest to compare with. It shares no
 * code and no way of holding its state with the program.
 */
final class Model {
    static final int BAD = -1001;
    static final int FULL = -1002;
    static final int NOT_POSSIBLE = -1003;
    static final int NONE = -1004;

    private static final Pattern TEXT =
            Pattern.compile("(?:(?:d\\d{1,4}|[rc]\\d{1,4}\\.\\d{1,4})@\\d{1,4};)*");

    record Coming(char kind, int number, int index, int at) {
    }

    private static final class Saved {
        int n = 8, period = 16, slope = 25, c = 4, r = 4, delay = 16, q = 90, margin = 8;
        boolean adapting = true;
        Set<Integer> arrived = new HashSet<>();
        Set<Integer> known = new HashSet<>();
        Set<String> packets = new HashSet<>();
        List<Integer> transits = new ArrayList<>();
        List<Integer> out = new ArrayList<>();
        List<Integer> pending = new ArrayList<>();
        List<Integer> kinds = new ArrayList<>();
        List<Coming> schedule = new ArrayList<>();
        int time, stretched, compressed, late, duplicates;
        Integer start;

        Saved copy() {
            Saved s = new Saved();
            s.n = n; s.period = period; s.slope = slope; s.c = c; s.r = r;
            s.delay = delay; s.q = q; s.margin = margin; s.adapting = adapting;
            s.arrived.addAll(arrived); s.known.addAll(known); s.packets.addAll(packets);
            s.transits.addAll(transits); s.out.addAll(out); s.pending.addAll(pending);
            s.kinds.addAll(kinds); s.schedule.addAll(schedule);
            s.time = time; s.stretched = stretched; s.compressed = compressed;
            s.late = late; s.duplicates = duplicates; s.start = start;
            return s;
        }
    }

    private Saved s = new Saved();
    private final Saved[] slots = new Saved[2];
    private String text = "";

    // ---- settings

    private static boolean in(int x, int low, int high) {
        return low <= x && x <= high;
    }

    private boolean begun() {
        return s.start != null || !s.schedule.isEmpty();
    }

    int setFrame(int x) {
        if (!in(x, 4, 16)) return BAD;
        if (begun()) return NOT_POSSIBLE;
        int old = s.n;
        s.n = x;
        return old;
    }

    int setWave(int p, int sl) {
        if (!in(p, 2, 32) || !in(sl, 1, 200)) return BAD;
        if (begun()) return NOT_POSSIBLE;
        int old = 1000 * s.period + s.slope;
        s.period = p;
        s.slope = sl;
        return old;
    }

    int setBlock(int c, int r) {
        if (!in(c, 2, 6) || !in(r, 2, 6)) return BAD;
        if (begun()) return NOT_POSSIBLE;
        int old = 10 * s.c + s.r;
        s.c = c;
        s.r = r;
        return old;
    }

    int setInitialDelay(int x) {
        if (!in(x, 0, 200)) return BAD;
        if (begun()) return NOT_POSSIBLE;
        int old = s.delay;
        s.delay = x;
        return old;
    }

    int setQuantile(int x) {
        if (!in(x, 1, 100)) return BAD;
        int old = s.q;
        s.q = x;
        return old;
    }

    int setMargin(int x) {
        if (!in(x, 0, 100)) return BAD;
        int old = s.margin;
        s.margin = x;
        return old;
    }

    int setAdapting(boolean on) {
        int old = s.adapting ? 1 : 0;
        s.adapting = on;
        return old;
    }

    // ---- arrivals and time

    private boolean known(int frame) {
        return frame > 999 || s.known.contains(frame);
    }

    private boolean hasBlock(int block) {
        return block >= 0 && (long) block * s.c * s.r <= 999;
    }

    private boolean hasPacket(boolean row, int block, int index) {
        return hasBlock(block) && in(index, 0, (row ? s.r : s.c) - 1);
    }

    /** Looks at every frame of the block and asks for its row or column, as the document defines them. */
    private List<Integer> covered(boolean row, int block, int index) {
        List<Integer> frames = new ArrayList<>();
        for (int k = block * s.c * s.r; k < (block + 1) * s.c * s.r; k++) {
            int of = row ? k % (s.c * s.r) / s.c : k % s.c;
            if (of == index) frames.add(k);
        }
        return frames;
    }

    private List<Integer> unknown(boolean row, int block, int index) {
        List<Integer> frames = covered(row, block, index);
        frames.removeIf(this::known);
        return frames;
    }

    private static String name(boolean row, int block, int index) {
        return (row ? "r" : "c") + block + "." + index;
    }

    private void restoreAll(int block) {
        boolean again = true;
        while (again) {
            again = false;
            for (int i = 0; i < 12; i++) {
                boolean row = i % 2 == 0;
                if (!s.packets.contains(name(row, block, i / 2))) continue;
                List<Integer> u = unknown(row, block, i / 2);
                if (u.size() == 1) {
                    s.known.add(u.get(0));
                    again = true;
                }
            }
        }
    }

    private void first() {
        if (s.start == null) s.start = s.time + s.delay;
    }

    int arrive(int k) {
        if (!in(k, 0, 999)) return BAD;
        if (known(k)) {
            s.duplicates++;
            return 0;
        }
        first();
        int before = s.known.size();
        s.transits.add(s.time - k * s.n);
        if (k < s.kinds.size()) s.late++;
        s.arrived.add(k);
        s.known.add(k);
        restoreAll(k / (s.c * s.r));
        return s.known.size() - before;
    }

    int arriveParity(boolean row, int block, int index) {
        if (!hasPacket(row, block, index)) return BAD;
        if (!s.packets.add(name(row, block, index))) {
            s.duplicates++;
            return 0;
        }
        first();
        int before = s.known.size();
        restoreAll(block);
        return s.known.size() - before;
    }

    private void tick() {
        List<Coming> due = new ArrayList<>(s.schedule);
        due.removeIf(a -> a.at() != s.time);
        s.schedule.removeAll(due);
        for (Coming a : due) {
            if (a.kind() == 'd') arrive(a.number());
            else arriveParity(a.kind() == 'r', a.number(), a.index());
        }
        if (s.start != null && s.time >= s.start) {
            if (s.pending.isEmpty() && s.kinds.size() <= 999) take(s.kinds.size());
            if (!s.pending.isEmpty()) s.out.add(s.pending.remove(0));
        }
        s.time++;
    }

    private static int lag(int[] x, int longest, boolean exact) {
        int best = 0;
        for (int p = 2; p <= longest; p++) {
            if (best == 0) best = p;
            int a = sum(x, p);
            int b = sum(x, best);
            boolean less = exact ? a * best < b * p : a / p < b / best;
            if (less) best = p;
        }
        return best;
    }

    private static int sum(int[] x, int p) {
        int sum = 0;
        for (int i = 0; i < p; i++) sum += Math.abs(x[i] - x[i + p]);
        return sum;
    }

    private void take(int n) {
        if (!known(n)) {
            s.kinds.add(3);
            conceal();
            return;
        }
        s.kinds.add(s.arrived.contains(n) ? 1 : 2);
        int level = levelFrom(n + 1);
        int[] x = new int[s.n];
        for (int j = 0; j < s.n; j++) x[j] = sample(n, j);
        int p = lag(x, s.n / 2, true);
        if (s.adapting && level > target() + s.n) {
            s.compressed++;
            for (int i = 0; i < p; i++) s.pending.add((x[i] * (p - i) + x[i + p] * i) / p);
            for (int i = 2 * p; i < s.n; i++) s.pending.add(x[i]);
        } else if (s.adapting && level + s.n < target()) {
            s.stretched++;
            for (int i = 0; i < p; i++) s.pending.add(x[i]);
            for (int i = 0; i < p; i++) s.pending.add((x[i + p] * (p - i) + x[i] * i) / p);
            for (int i = p; i < s.n; i++) s.pending.add(x[i]);
        } else {
            for (int v : x) s.pending.add(v);
        }
    }

    private void conceal() {
        int size = s.out.size();
        int gap = 0;
        while (gap < s.kinds.size() && s.kinds.get(s.kinds.size() - 1 - gap) == 3) gap++;
        int[] o = new int[Math.min(size, 32)];
        for (int i = 0; i < o.length; i++) o[i] = s.out.get(size - 1 - i);
        int p = lag(o, o.length / 2, false);
        for (int j = 0; j < s.n; j++) {
            int v = p == 0 ? 0 : o[p - j % p - 1];
            for (int i = 0; i < gap; i++) v = v * 3 / 4;
            s.pending.add(v);
        }
    }

    int advance(int ticks) {
        if (!in(ticks, 1, 500)) return BAD;
        int before = s.out.size();
        for (int i = 0; i < ticks; i++) tick();
        return s.out.size() - before;
    }

    int time() {
        return s.time;
    }

    int start() {
        return s.start == null ? NONE : s.start;
    }

    // ---- output

    private static int last(List<Integer> list, int back) {
        return back > list.size() ? NONE : list.get(list.size() - back);
    }

    int output(int back) {
        return in(back, 1, 256) ? last(s.out, back) : BAD;
    }

    int outputs() {
        return s.out.size();
    }

    int left() {
        return s.pending.size();
    }

    int next() {
        return s.kinds.size() > 999 ? NONE : s.kinds.size();
    }

    int kind(int back) {
        return in(back, 1, 32) ? last(s.kinds, back) : BAD;
    }

    // ---- frames and parity

    int state(int k) {
        if (!in(k, 0, 999)) return BAD;
        return s.arrived.contains(k) ? 2 : s.known.contains(k) ? 1 : 0;
    }

    int sample(int k, int j) {
        if (!in(k, 0, 999) || !in(j, 0, s.n - 1)) return BAD;
        return s.slope * ((k * s.n + j) % s.period) % 201 - 100;
    }

    int missing(boolean row, int block, int index) {
        return hasPacket(row, block, index) ? unknown(row, block, index).size() : BAD;
    }

    int unrestorable(int block) {
        if (!hasBlock(block)) return BAD;
        Saved real = s;
        s = s.copy();
        for (int i = 0; i < 6; i++) {
            s.packets.add(name(true, block, i));
            s.packets.add(name(false, block, i));
        }
        restoreAll(block);
        int count = 0;
        for (int i = 0; i < s.r; i++) count += unknown(true, block, i).size();
        s = real;
        return count;
    }

    int paritySample(boolean row, int block, int index, int place) {
        if (!hasPacket(row, block, index) || !in(place, 0, s.n - 1)) return BAD;
        int parity = 0;
        for (int k : covered(row, block, index)) {
            if (k <= 999) parity ^= sample(k, place) + 128;
        }
        return parity;
    }

    // ---- delay

    private List<Integer> window() {
        int size = s.transits.size();
        List<Integer> w = new ArrayList<>(s.transits.subList(Math.max(0, size - 16), size));
        Collections.sort(w);
        return w;
    }

    int transits() {
        return window().size();
    }

    int transit(int index) {
        List<Integer> w = window();
        return in(index, 0, w.size() - 1) ? Math.max(-999, w.get(index)) : BAD;
    }

    int target() {
        List<Integer> w = window();
        if (w.isEmpty()) return s.margin;
        int i = (s.q * w.size() + 99) / 100;
        return w.get(i - 1) - w.get(0) + s.margin;
    }

    private int levelFrom(int from) {
        int k = from;
        while (k <= 999 && known(k)) k++;
        return s.n * (k - from);
    }

    int level() {
        return levelFrom(s.kinds.size());
    }

    // ---- counters

    int taken(int kind) {
        return in(kind, 1, 3) ? Collections.frequency(s.kinds, kind) : BAD;
    }

    int stretched() {
        return s.stretched;
    }

    int compressed() {
        return s.compressed;
    }

    int late() {
        return s.late;
    }

    int duplicates() {
        return s.duplicates;
    }

    int loss(boolean denominator) {
        int lost = taken(3);
        int all = s.kinds.size();
        if (lost == 0) return denominator ? 1 : 0;
        int d = lost;
        while (lost % d != 0 || all % d != 0) d--;
        return (denominator ? all : lost) / d;
    }

    int longestGap() {
        int longest = 0;
        int gap = 0;
        for (int kind : s.kinds) {
            gap = kind == 3 ? gap + 1 : 0;
            longest = Math.max(longest, gap);
        }
        return longest;
    }

    // ---- predictions

    int ticksToGap() {
        Saved real = s;
        s = s.copy();
        int before = taken(3);
        int answer = NONE;
        for (int i = 0; i < 1000 && answer == NONE; i++) {
            tick();
            if (taken(3) > before) answer = i;
        }
        s = real;
        return answer;
    }

    int gapsIn(int ticks) {
        if (!in(ticks, 1, 1000)) return BAD;
        Saved real = s;
        s = s.copy();
        int before = taken(3);
        for (int i = 0; i < ticks; i++) tick();
        int answer = taken(3) - before;
        s = real;
        return answer;
    }

    int ticksToFrame(int frame) {
        if (!in(frame, 0, 999)) return BAD;
        if (frame < s.kinds.size()) return NOT_POSSIBLE;
        Saved real = s;
        s = s.copy();
        int answer = NONE;
        for (int i = 0; i < 2000 && answer == NONE; i++) {
            tick();
            if (s.kinds.size() == frame + 1) answer = i;
        }
        s = real;
        return answer;
    }

    // ---- texts and schedule

    int append(int c) {
        if (!in(c, 32, 126)) return BAD;
        if (text.length() == 120) return FULL;
        text += (char) c;
        return text.length();
    }

    int clearText() {
        int old = text.length();
        text = "";
        return old;
    }

    int faultPosition() {
        for (int i = 1; i <= text.length(); i++) {
            Matcher m = TEXT.matcher(text.substring(0, i));
            if (!m.matches() && !m.hitEnd()) return i - 1;
        }
        return TEXT.matcher(text).matches() ? NONE : text.length();
    }

    int schedule() {
        if (faultPosition() != NONE) return NOT_POSSIBLE;
        List<Coming> all = new ArrayList<>();
        for (String entry : text.split(";")) {
            if (entry.isEmpty()) continue;
            String[] numbers = entry.substring(1).split("[.@]");
            int index = numbers.length == 3 ? Integer.parseInt(numbers[1]) : 0;
            all.add(new Coming(entry.charAt(0), Integer.parseInt(numbers[0]), index,
                    Integer.parseInt(numbers[numbers.length - 1])));
        }
        for (Coming a : all) {
            boolean exists = a.kind() == 'd' ? a.number() <= 999 : hasPacket(a.kind() == 'r', a.number(), a.index());
            if (!exists || a.at() <= s.time) return BAD;
        }
        if (s.schedule.size() + all.size() > 24) return FULL;
        s.schedule.addAll(all);
        return all.size();
    }

    int scheduled() {
        return s.schedule.size();
    }

    // ---- slots, checksum

    int keep(int slot) {
        if (!in(slot, 0, 1)) return BAD;
        slots[slot] = s.copy();
        return s.time;
    }

    int restore(int slot) {
        if (!in(slot, 0, 1)) return BAD;
        if (slots[slot] == null) return NOT_POSSIBLE;
        s = slots[slot].copy();
        return s.time;
    }

    long checksum() {
        List<Integer> values = new ArrayList<>(List.of(time(), start(), outputs(), left(), next(), target(), level(),
                transits(), taken(1), taken(2), taken(3), stretched(), compressed(), late(), duplicates(),
                longestGap(), scheduled()));
        for (int i = 1; i <= 64; i++) values.add(output(i));
        for (int i = 1; i <= 16; i++) values.add(kind(i));
        for (int i = 0; i <= 99; i++) values.add(state(i));
        long h = 41;
        for (int v : values) h = 31 * h + v;
        return h;
    }
}
