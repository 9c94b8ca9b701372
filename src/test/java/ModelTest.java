import java.util.ArrayDeque;
import java.util.ArrayList;
import java.util.Arrays;
import java.util.List;
import java.util.TreeSet;
import java.util.function.LongSupplier;

/**
 * Long runs of calls on the class and on a plain model beside it: each answer, each exception and each
 * digest must be the same. Then runs far beyond the 512 calls: nothing but the document's exceptions may come.
 */
public final class ModelTest {
    private static int wrong = 0;

    /** A number generator of our own, so that the runs are the same on each machine. */
    private static final class Dice {
        private long seed;

        Dice(long start) {
            seed = start * 2654435761L + 97;
        }

        int below(int limit) {
            seed = seed * 6364136223846793005L + 1442695040888963407L;
            return (int) ((seed >>> 33) % limit);
        }

        boolean oneIn(int many) {
            return below(many) == 0;
        }
    }

    // ---- the model

    private static final class ModelMole {
        List<Integer> plan = new ArrayList<>();
        List<Integer> trail = new ArrayList<>();
        int air;
        int steps;

        int place() {
            return trail.get(trail.size() - 1);
        }

        ModelMole twin() {
            ModelMole other = new ModelMole();
            other.plan = new ArrayList<>(plan);
            other.trail = new ArrayList<>(trail);
            other.air = air;
            other.steps = steps;
            return other;
        }
    }

    private static final class State {
        TreeSet<Integer> mounds = new TreeSet<>();
        TreeSet<Integer> opened = new TreeSet<>();
        int[] root = new int[64];
        int[] trap = new int[64];
        List<List<Integer>> tunnels = new ArrayList<>();
        List<ModelMole> moles = new ArrayList<>();
        int air = 6;
        int beats;
        int caught;
        int gnawed;
        int risen;
        int fallen;

        State() {
            Arrays.fill(trap, -1);
        }

        State twin() {
            State other = new State();
            other.mounds = new TreeSet<>(mounds);
            other.opened = new TreeSet<>(opened);
            other.root = root.clone();
            other.trap = trap.clone();
            for (List<Integer> tunnel : tunnels) {
                other.tunnels.add(new ArrayList<>(tunnel));
            }
            for (ModelMole mole : moles) {
                other.moles.add(mole.twin());
            }
            other.air = air;
            other.beats = beats;
            other.caught = caught;
            other.gnawed = gnawed;
            other.risen = risen;
            other.fallen = fallen;
            return other;
        }

        void newMound(int tuft) {
            mounds.add(tuft);
            risen++;
            for (int i = 0; i < tunnels.size(); i++) {
                List<Integer> tunnel = tunnels.get(i);
                if (tunnel.contains(tuft)) {
                    List<Integer> one = new ArrayList<>(tunnel.subList(0, tunnel.indexOf(tuft) + 1));
                    List<Integer> two = new ArrayList<>(tunnel.subList(tunnel.lastIndexOf(tuft), tunnel.size()));
                    tunnels.set(i, one);
                    tunnels.add(i + 1, two);
                    i++;
                }
            }
            for (ModelMole mole : moles) {
                if (mole.trail != null && mole.trail.contains(tuft)) {
                    tunnels.add(new ArrayList<>(mole.trail.subList(0, mole.trail.indexOf(tuft) + 1)));
                    mole.trail = new ArrayList<>(mole.trail.subList(mole.trail.lastIndexOf(tuft), mole.trail.size()));
                }
            }
        }

        void beat() {
            beats++;
            for (int t = 0; t < 64; t++) {
                trap[t] -= trap[t] > 0 ? 1 : 0;
            }
            for (ModelMole mole : new ArrayList<>(moles)) {
                turn(mole);
            }
        }

        void turn(ModelMole mole) {
            if (mole.plan.isEmpty()) {
                return;
            }
            int row = mole.place() / 8;
            int column = mole.place() % 8;
            switch (mole.plan.get(0)) {
                case 0: row--; break;
                case 1: column++; break;
                case 2: row++; break;
                default: column--; break;
            }
            if (row < 0 || column < 0 || row > 7 || column > 7) {
                mole.plan.remove(0);
                return;
            }
            int there = 8 * row + column;
            mole.air--;
            boolean went = root[there] == 0;
            if (!went) {
                root[there]--;
                gnawed++;
            } else {
                mole.plan.remove(0);
                mole.trail.add(there);
                mole.steps++;
            }
            if (went && trap[there] >= 0) {
                boolean set = trap[there] == 0;
                trap[there] = -1;
                if (set) {
                    moles.remove(mole);
                    caught++;
                    return;
                }
            }
            if (went && mounds.contains(there)) {
                List<Integer> row2 = mole.trail.subList(0, mole.trail.indexOf(there) + 1);
                if (!mole.trail.get(0).equals(there)) {
                    tunnels.add(new ArrayList<>(row2));
                }
                mole.trail = new ArrayList<>(List.of(there));
                mole.air = air;
            } else if (mole.air == 0) {
                if (!mounds.contains(mole.place())) {
                    newMound(mole.place());
                }
                mole.air = air;
            }
        }

        int dig(int tuft) {
            opened.add(tuft);
            root[tuft] = 0;
            trap[tuft] = -1;
            int before = moles.size();
            moles.removeIf(mole -> mole.place() == tuft);
            int now = before - moles.size();
            caught += now;
            mounds.remove(tuft);
            int tunnelsBefore = tunnels.size();
            tunnels.removeIf(tunnel -> tunnel.contains(tuft));
            fallen += tunnelsBefore - tunnels.size();
            int[] places = new int[moles.size()];
            for (int i = 0; i < places.length; i++) {
                places[i] = moles.get(i).place();
                if (moles.get(i).trail.contains(tuft)) {
                    moles.get(i).trail = null;
                }
            }
            for (int i = 0; i < places.length; i++) {
                ModelMole mole = moles.get(i);
                if (mole.trail == null) {
                    if (!mounds.contains(places[i])) {
                        newMound(places[i]);
                    }
                    mole.trail = new ArrayList<>(List.of(places[i]));
                    mole.air = air;
                }
            }
            return now;
        }

        static int first(List<Integer> row) {
            return row.get(0);
        }

        static int last(List<Integer> row) {
            return row.get(row.size() - 1);
        }

        int rake(int tuft) {
            mounds.remove(tuft);
            List<List<Integer>> ended = new ArrayList<>();
            for (List<Integer> tunnel : tunnels) {
                if (first(tunnel) == tuft || last(tunnel) == tuft) {
                    ended.add(tunnel);
                }
            }
            if (ended.size() == 2) {
                List<Integer> whole = new ArrayList<>(ended.get(0));
                List<Integer> second = new ArrayList<>(ended.get(1));
                if (first(whole) == tuft) {
                    java.util.Collections.reverse(whole);
                }
                if (first(second) != tuft) {
                    java.util.Collections.reverse(second);
                }
                if (first(whole) != last(second)) {
                    whole.addAll(second.subList(1, second.size()));
                    for (int i = 0; i < tunnels.size(); i++) {
                        if (tunnels.get(i) == ended.get(0)) {
                            tunnels.set(i, whole);
                        } else if (tunnels.get(i) == ended.get(1)) {
                            tunnels.remove(i);
                            i--;
                        }
                    }
                    return 1;
                }
            }
            for (List<Integer> gone : ended) {
                tunnels.removeIf(tunnel -> tunnel == gone);
            }
            fallen += ended.size();
            return ended.size();
        }

        boolean hollow(int tuft) {
            for (List<Integer> tunnel : tunnels) {
                if (tunnel.contains(tuft)) {
                    return true;
                }
            }
            for (ModelMole mole : moles) {
                if (mole.trail.contains(tuft)) {
                    return true;
                }
            }
            return false;
        }

        int hollows() {
            int found = 0;
            for (int t = 0; t < 64; t++) {
                found += hollow(t) ? 1 : 0;
            }
            return found;
        }

        static List<Integer> beside(int tuft) {
            List<Integer> found = new ArrayList<>();
            for (int t = 0; t < 64; t++) {
                if (t != tuft && Math.abs(t / 8 - tuft / 8) <= 1 && Math.abs(t % 8 - tuft % 8) <= 1) {
                    found.add(t);
                }
            }
            return found;
        }

        int number(int tuft) {
            int found = 0;
            for (int other : beside(tuft)) {
                found += hollow(other) ? 1 : 0;
            }
            return found;
        }

        int[] sure() {
            int[] known = new int[64];
            Arrays.fill(known, -1);
            for (int t : opened) {
                known[t] = hollow(t) ? 1 : 0;
            }
            for (boolean more = true; more;) {
                more = false;
                for (int t : opened) {
                    int yes = 0;
                    List<Integer> open = new ArrayList<>();
                    for (int other : beside(t)) {
                        if (known[other] == 1) {
                            yes++;
                        } else if (known[other] == -1) {
                            open.add(other);
                        }
                    }
                    int mark = yes == number(t) ? 0 : yes + open.size() == number(t) ? 1 : -1;
                    for (int other : open) {
                        if (mark != -1) {
                            known[other] = mark;
                            more = true;
                        }
                    }
                }
            }
            return known;
        }

        int crossings(int tuft) {
            int found = 0;
            for (List<Integer> tunnel : tunnels) {
                found += tunnel.contains(tuft) ? 1 : 0;
            }
            return found;
        }

        int fewest(int from, int to) {
            if (!mounds.contains(from) || !mounds.contains(to)) {
                return -1;
            }
            int[] far = new int[64];
            Arrays.fill(far, -1);
            far[from] = 0;
            ArrayDeque<Integer> open = new ArrayDeque<>(List.of(from));
            while (!open.isEmpty()) {
                int here = open.poll();
                for (List<Integer> tunnel : tunnels) {
                    int a = first(tunnel);
                    int b = last(tunnel);
                    int there = a == here ? b : b == here ? a : -1;
                    if (there >= 0 && far[there] < 0) {
                        far[there] = far[here] + 1;
                        open.add(there);
                    }
                }
            }
            return far[to];
        }

        int groups() {
            int found = 0;
            for (int mound : mounds) {
                boolean lowest = true;
                for (int other : mounds.headSet(mound)) {
                    lowest &= fewest(other, mound) < 0;
                }
                found += lowest ? 1 : 0;
            }
            return found;
        }

        int tuft(int tuft, int what) {
            switch (what) {
                case 0: return mounds.contains(tuft) ? 1 : 0;
                case 1: return root[tuft];
                case 2: return trap[tuft];
                case 3: return hollow(tuft) ? 1 : 0;
                case 4: return number(tuft);
                case 5: return opened.contains(tuft) ? 1 : 0;
                case 6: return sure()[tuft];
                case 7: return crossings(tuft);
                default: return (int) moles.stream().filter(mole -> mole.place() == tuft).count();
            }
        }

        int moleOf(int index, int what) {
            ModelMole mole = moles.get(index);
            switch (what) {
                case 0: return mole.place();
                case 1: return mole.air;
                case 2: return mole.plan.size();
                case 3: return mole.plan.isEmpty() ? -1 : mole.plan.get(0);
                case 4: return mole.trail.get(0);
                case 5: return mole.trail.size();
                default: return mole.steps;
            }
        }

        int tunnel(int index, int what) {
            List<Integer> row = tunnels.get(index);
            return what == 0 ? first(row) : what == 1 ? last(row) : row.size();
        }

        int bestDig() {
            int best = -1;
            for (int t = 63; t >= 0; t--) {
                if (!opened.contains(t) && crossings(t) > 0 && (best < 0 || crossings(t) >= crossings(best))) {
                    best = t;
                }
            }
            return best;
        }
    }

    private static final class Model {
        State now = new State();
        State kept;
        ArrayList<State> saved = new ArrayList<>();
        StringBuilder buffer = new StringBuilder();

        static void index(boolean right) {
            if (!right) {
                throw new IndexOutOfBoundsException();
            }
        }

        static void argument(boolean right) {
            if (!right) {
                throw new IllegalArgumentException();
            }
        }

        static void state(boolean right) {
            if (!right) {
                throw new IllegalStateException();
            }
        }

        static void tuftNumber(int tuft) {
            index(tuft >= 0 && tuft <= 63);
        }

        void save() {
            saved.add(now.twin());
            if (saved.size() > 6) {
                saved.remove(0);
            }
        }

        int mole(int tuft) {
            tuftNumber(tuft);
            state(now.moles.size() < 4 && now.root[tuft] == 0);
            save();
            if (!now.mounds.contains(tuft)) {
                now.newMound(tuft);
            }
            ModelMole mole = new ModelMole();
            mole.trail.add(tuft);
            mole.air = now.air;
            now.moles.add(mole);
            return now.moles.size() - 1;
        }

        int plan(int mole, int direction) {
            index(mole >= 0 && mole < now.moles.size());
            argument(direction >= 0 && direction <= 3);
            state(now.moles.get(mole).plan.size() < 20);
            save();
            now.moles.get(mole).plan.add(direction);
            return now.moles.get(mole).plan.size();
        }

        int rest(int mole) {
            index(mole >= 0 && mole < now.moles.size());
            save();
            int had = now.moles.get(mole).plan.size();
            now.moles.get(mole).plan.clear();
            return had;
        }

        int pass(int beats) {
            argument(beats >= 1 && beats <= 30);
            save();
            int had = now.risen;
            for (int i = 0; i < beats; i++) {
                now.beat();
            }
            return now.risen - had;
        }

        int root(int tuft, int strength) {
            tuftNumber(tuft);
            argument(strength >= 0 && strength <= 9);
            save();
            int had = now.root[tuft];
            now.root[tuft] = strength;
            return had;
        }

        int trap(int tuft, int wait) {
            tuftNumber(tuft);
            argument(wait >= 0 && wait <= 20);
            state(now.trap[tuft] == -1);
            save();
            now.trap[tuft] = wait;
            return count(7);
        }

        int dig(int tuft) {
            tuftNumber(tuft);
            save();
            return now.dig(tuft);
        }

        int rake(int tuft) {
            tuftNumber(tuft);
            state(now.mounds.contains(tuft));
            for (ModelMole mole : now.moles) {
                state(mole.trail.get(0) != tuft);
            }
            save();
            return now.rake(tuft);
        }

        int set(int air) {
            argument(air >= 2 && air <= 20);
            save();
            int had = now.air;
            now.air = air;
            for (ModelMole mole : now.moles) {
                mole.air = Math.min(mole.air, air);
            }
            return had;
        }

        int append(int code) {
            argument(code >= 33 && code <= 126);
            state(buffer.length() < 60);
            buffer.append((char) code);
            return buffer.length();
        }

        int clearBuffer() {
            int had = buffer.length();
            buffer.setLength(0);
            return had;
        }

        int firstError() {
            for (int i = 0; i < buffer.length(); i++) {
                String head = buffer.substring(0, i + 1);
                if (!head.matches("([0-3]:[nesw]+;)*([0-3](:[nesw]*)?)?")) {
                    return i;
                }
            }
            return buffer.length();
        }

        int plans() {
            argument(buffer.toString().matches("[0-3]:[nesw]+(;[0-3]:[nesw]+)*"));
            save();
            int put = 0;
            for (String part : buffer.toString().split(";")) {
                int mole = part.charAt(0) - '0';
                for (char c : part.substring(2).toCharArray()) {
                    if (mole < now.moles.size() && now.moles.get(mole).plan.size() < 20) {
                        now.moles.get(mole).plan.add("nesw".indexOf(c));
                        put++;
                    }
                }
            }
            buffer.setLength(0);
            return put;
        }

        int undo() {
            state(!saved.isEmpty());
            now = saved.remove(saved.size() - 1);
            return saved.size();
        }

        int keep() {
            kept = now.twin();
            return now.tunnels.size();
        }

        int restore() {
            state(kept != null);
            save();
            now = kept.twin();
            return now.tunnels.size();
        }

        int tuft(int tuft, int what) {
            tuftNumber(tuft);
            argument(what >= 0 && what <= 8);
            return now.tuft(tuft, what);
        }

        int moleOf(int mole, int what) {
            index(mole >= 0 && mole < now.moles.size());
            argument(what >= 0 && what <= 6);
            return now.moleOf(mole, what);
        }

        int tunnel(int tunnel, int what) {
            index(tunnel >= 0 && tunnel < now.tunnels.size());
            argument(what >= 0 && what <= 2);
            return now.tunnel(tunnel, what);
        }

        int cell(int tunnel, int place) {
            index(tunnel >= 0 && tunnel < now.tunnels.size());
            argument(place >= 0);
            List<Integer> row = now.tunnels.get(tunnel);
            return place < row.size() ? row.get(place) : -1;
        }

        int count(int what) {
            argument(what >= 0 && what <= 14);
            switch (what) {
                case 0: return now.beats;
                case 1: return now.moles.size();
                case 2: return now.caught;
                case 3: return now.mounds.size();
                case 4: return now.tunnels.size();
                case 5: return now.hollows();
                case 6: return now.opened.size();
                case 7: return (int) Arrays.stream(now.trap).filter(wait -> wait >= 0).count();
                case 8: return (int) Arrays.stream(now.root).filter(strength -> strength > 0).count();
                case 9: return now.gnawed;
                case 10: return now.risen;
                case 11: return now.fallen;
                case 12: return now.groups();
                case 13: return now.air;
                default: return saved.size();
            }
        }

        int joined(int tuft, int other) {
            tuftNumber(tuft);
            tuftNumber(other);
            return now.fewest(tuft, other) >= 0 ? 1 : 0;
        }

        int fewest(int tuft, int other) {
            tuftNumber(tuft);
            tuftNumber(other);
            return now.fewest(tuft, other);
        }

        int ifDug(int tuft, int what) {
            tuftNumber(tuft);
            argument(what >= 0 && what <= 2);
            State then = now.twin();
            int caught = then.dig(tuft);
            return what == 0 ? then.fallen - now.fallen : what == 1 ? caught : then.hollows();
        }

        int bestDig() {
            return now.bestDig();
        }

        int ifPassed(int beats, int what) {
            argument(beats >= 1 && beats <= 30 && what >= 0 && what <= 2);
            State then = now.twin();
            for (int i = 0; i < beats; i++) {
                then.beat();
            }
            return what == 0 ? then.risen - now.risen : what == 1 ? then.tunnels.size() : then.caught - now.caught;
        }

        int nextMound() {
            State then = now.twin();
            for (int i = 1; i <= 100; i++) {
                then.beat();
                if (then.risen > now.risen) {
                    return i;
                }
            }
            return -1;
        }

        double hollowShare() {
            return now.hollows() / 64.0;
        }

        long digest() {
            List<Long> list = new ArrayList<>();
            for (int what = 0; what <= 14; what++) {
                list.add((long) count(what));
            }
            for (int t = 0; t < 64; t++) {
                for (int what = 0; what <= 8; what++) {
                    list.add((long) tuft(t, what));
                }
            }
            for (int i = 0; i < now.moles.size(); i++) {
                for (int what = 0; what <= 6; what++) {
                    list.add((long) moleOf(i, what));
                }
            }
            for (int i = 0; i < now.tunnels.size(); i++) {
                for (int what = 0; what <= 2; what++) {
                    list.add((long) tunnel(i, what));
                }
                for (int tuft : now.tunnels.get(i)) {
                    list.add((long) tuft);
                }
            }
            for (int mound : now.mounds) {
                list.add((long) fewest(mound, now.mounds.first()));
            }
            for (int t = 0; t < 64; t++) {
                list.add((long) ifDug(t, 0));
            }
            list.add((long) bestDig());
            for (int what = 0; what <= 2; what++) {
                list.add((long) ifPassed(5, what));
            }
            list.add((long) nextMound());
            list.add(Double.doubleToLongBits(hollowShare()));
            list.add((long) buffer.length());
            for (int i = 0; i < buffer.length(); i++) {
                list.add((long) buffer.charAt(i));
            }
            long hash = 3631;
            for (long v : list) {
                hash = 31 * hash + v;
            }
            return hash;
        }
    }

    // ---- the runs

    /** One call, made on the class and on the model. */
    private static final class Call {
        final String name;
        final LongSupplier real;
        final LongSupplier model;

        Call(String itsName, LongSupplier itsReal, LongSupplier itsModel) {
            name = itsName;
            real = itsReal;
            model = itsModel;
        }
    }

    private static String answer(LongSupplier call) {
        try {
            return Long.toString(call.getAsLong());
        } catch (RuntimeException e) {
            return "throws." + e.getClass().getSimpleName();
        }
    }

    private static int wildTuft(Dice dice) {
        int[] odd = {-1, 64, Integer.MIN_VALUE, Integer.MAX_VALUE, 1000};
        return dice.oneIn(40) ? odd[dice.below(odd.length)] : dice.below(64);
    }

    private static int within(Dice dice, int low, int high) {
        int[] odd = {low - 1, high + 1, Integer.MIN_VALUE, Integer.MAX_VALUE};
        return dice.oneIn(30) ? odd[dice.below(odd.length)] : low + dice.below(high - low + 1);
    }

    // Prefers tufts where something is, so that digging, raking and traps meet tunnels and trails.
    private static int busyTuft(Dice dice, State now) {
        if (dice.oneIn(4)) {
            return wildTuft(dice);
        }
        int start = dice.below(64);
        boolean mound = dice.oneIn(2);
        for (int i = 0; i < 64; i++) {
            int t = (start + i) % 64;
            if (mound ? now.mounds.contains(t) : now.hollow(t)) {
                return t;
            }
        }
        return start;
    }

    private static int nextChar(Dice dice, Model m) {
        if (dice.oneIn(60)) {
            return within(dice, 33, 126);
        }
        String text = m.buffer.toString();
        if (m.firstError() < text.length()) {
            return '!';
        }
        if (text.isEmpty() || text.endsWith(";")) {
            return '0' + dice.below(4);
        }
        char last = text.charAt(text.length() - 1);
        if (Character.isDigit(last)) {
            return ':';
        }
        return last != ':' && dice.oneIn(8) ? ';' : "nesw".charAt(dice.below(4));
    }

    private static Call change(Dice dice, MolesLawn x, Model m) {
        int mole = dice.oneIn(30) ? within(dice, 0, 3) : dice.below(Math.max(1, m.now.moles.size()));
        int kind = dice.below(100);
        if (kind < 5) {
            int t = dice.oneIn(3) ? busyTuft(dice, m.now) : wildTuft(dice);
            return new Call("mole(" + t + ")", () -> x.mole(t), () -> m.mole(t));
        }
        if (kind < 40) {
            int d = within(dice, 0, 3);
            return new Call("plan(" + mole + ", " + d + ")", () -> x.plan(mole, d), () -> m.plan(mole, d));
        }
        if (kind < 60) {
            int code = nextChar(dice, m);
            return new Call("append(" + code + ")", () -> x.append(code), () -> m.append(code));
        }
        if (kind < 64) {
            return new Call("plans()", x::plans, m::plans);
        }
        if (kind < 74) {
            int b = dice.oneIn(2) ? within(dice, 1, 30) : 1 + dice.below(4);
            return new Call("pass(" + b + ")", () -> x.pass(b), () -> m.pass(b));
        }
        if (kind < 78) {
            int t = wildTuft(dice);
            int s = within(dice, 0, 9);
            return new Call("root(" + t + ", " + s + ")", () -> x.root(t, s), () -> m.root(t, s));
        }
        if (kind < 80) {
            int t = dice.oneIn(2) ? busyTuft(dice, m.now) : wildTuft(dice);
            int w = within(dice, 0, 20);
            return new Call("trap(" + t + ", " + w + ")", () -> x.trap(t, w), () -> m.trap(t, w));
        }
        if (kind < 82) {
            int t = busyTuft(dice, m.now);
            return new Call("dig(" + t + ")", () -> x.dig(t), () -> m.dig(t));
        }
        if (kind < 88) {
            int t = busyTuft(dice, m.now);
            return new Call("rake(" + t + ")", () -> x.rake(t), () -> m.rake(t));
        }
        if (kind < 91) {
            int a = within(dice, 2, 20);
            int b = dice.oneIn(2) ? Math.min(a, 4) : a;
            return new Call("set(" + b + ")", () -> x.set(b), () -> m.set(b));
        }
        if (kind < 95) {
            return new Call("undo()", x::undo, m::undo);
        }
        if (kind < 97) {
            return new Call("keep()", x::keep, m::keep);
        }
        if (kind < 98) {
            return new Call("restore()", x::restore, m::restore);
        }
        return dice.oneIn(3) ? new Call("clearBuffer()", x::clearBuffer, m::clearBuffer)
                : new Call("rest(" + mole + ")", () -> x.rest(mole), () -> m.rest(mole));
    }

    private static Call look(Dice dice, MolesLawn x, Model m) {
        int t = busyTuft(dice, m.now);
        int u = busyTuft(dice, m.now);
        int tunnel = within(dice, 0, Math.max(0, m.now.tunnels.size() - 1));
        switch (dice.below(14)) {
            case 0: return new Call("firstError()", x::firstError, m::firstError);
            case 1: {
                int w = within(dice, 0, 8);
                return new Call("tuft(" + t + ", " + w + ")", () -> x.tuft(t, w), () -> m.tuft(t, w));
            }
            case 2: {
                int w = within(dice, 0, 6);
                int i = within(dice, 0, 3);
                return new Call("moleOf(" + i + ", " + w + ")", () -> x.moleOf(i, w), () -> m.moleOf(i, w));
            }
            case 3: {
                int w = within(dice, 0, 2);
                return new Call("tunnel(" + tunnel + ", " + w + ")",
                        () -> x.tunnel(tunnel, w), () -> m.tunnel(tunnel, w));
            }
            case 4: {
                int p = within(dice, 0, 8);
                return new Call("cell(" + tunnel + ", " + p + ")", () -> x.cell(tunnel, p), () -> m.cell(tunnel, p));
            }
            case 5: {
                int w = within(dice, 0, 14);
                return new Call("count(" + w + ")", () -> x.count(w), () -> m.count(w));
            }
            case 6:
                return new Call("joined(" + t + ", " + u + ")", () -> x.joined(t, u), () -> m.joined(t, u));
            case 7:
                return new Call("fewest(" + t + ", " + u + ")", () -> x.fewest(t, u), () -> m.fewest(t, u));
            case 8: {
                int w = within(dice, 0, 2);
                return new Call("ifDug(" + t + ", " + w + ")", () -> x.ifDug(t, w), () -> m.ifDug(t, w));
            }
            case 9: return new Call("bestDig()", x::bestDig, m::bestDig);
            case 10: {
                int b = within(dice, 1, 30);
                int w = within(dice, 0, 2);
                return new Call("ifPassed(" + b + ", " + w + ")", () -> x.ifPassed(b, w), () -> m.ifPassed(b, w));
            }
            case 11: return new Call("nextMound()", x::nextMound, m::nextMound);
            case 12:
                return new Call("hollowShare()", () -> Double.doubleToLongBits(x.hollowShare()),
                        () -> Double.doubleToLongBits(m.hollowShare()));
            default: return new Call("digest()", x::digest, m::digest);
        }
    }

    private static void run(int seed, int[] reached) {
        Dice dice = new Dice(seed);
        MolesLawn x = new MolesLawn();
        Model m = new Model();
        int looks = 2 + dice.below(6);
        for (int i = 1; i <= 512; i++) {
            Call call = i == 512 ? new Call("digest()", x::digest, m::digest)
                    : dice.oneIn(looks) ? look(dice, x, m) : change(dice, x, m);
            String due = answer(call.model);
            String got = answer(call.real);
            if (!due.equals(got)) {
                wrong++;
                System.out.println("seed " + seed + ", call " + i + ": " + call.name
                        + " answered " + got + ", due is " + due);
                return;
            }
            reached[0] = Math.max(reached[0], m.now.tunnels.size());
            reached[1] = Math.max(reached[1], m.now.caught);
            reached[2] = Math.max(reached[2], m.now.fallen);
            reached[3] = Math.max(reached[3], m.now.gnawed);
        }
    }

    private static void runCalls(String name, List<Call> calls) {
        for (Call call : calls) {
            String due = answer(call.model);
            String got = answer(call.real);
            if (!due.equals(got)) {
                wrong++;
                System.out.println(name + ": " + call.name + " answered " + got + ", due is " + due);
                return;
            }
        }
    }

    // Nearly as many tunnels as 512 calls can bring: each step makes one.
    private static void runCrowd() {
        MolesLawn x = new MolesLawn();
        Model m = new Model();
        List<Call> calls = new ArrayList<>();
        calls.add(new Call("mole", () -> x.mole(0), () -> m.mole(0)));
        calls.add(new Call("mole", () -> x.mole(1), () -> m.mole(1)));
        for (int i = 0; calls.size() < 508; i++) {
            int d = i % 21 % 2 == 0 ? 1 : 3;
            if (i % 21 == 20) {
                calls.add(new Call("pass", () -> x.pass(30), () -> m.pass(30)));
            } else {
                calls.add(new Call("plan", () -> x.plan(0, d), () -> m.plan(0, d)));
            }
        }
        calls.add(new Call("pass", () -> x.pass(30), () -> m.pass(30)));
        calls.add(new Call("count", () -> x.count(4), () -> m.count(4)));
        calls.add(new Call("digest", x::digest, m::digest));
        runCalls("crowd", calls);
        if (m.now.tunnels.size() < 450) {
            wrong++;
            System.out.println("crowd: only " + m.now.tunnels.size() + " tunnels");
        }
    }

    // One tunnel of 300 steps: made of 15 trails of 20 steps, each to a fresh tuft, by raking between them.
    private static void runLong() {
        MolesLawn x = new MolesLawn();
        Model m = new Model();
        List<Call> calls = new ArrayList<>();
        calls.add(new Call("set", () -> x.set(20), () -> m.set(20)));
        calls.add(new Call("mole", () -> x.mole(0), () -> m.mole(0)));
        for (int segment = 0; segment < 15; segment++) {
            boolean down = segment % 4 == 3;
            boolean right = segment / 4 % 2 == 0;
            int along = down ? 2 : right ? 1 : 3;
            int aside = down ? (right ? 3 : 1) : 2;
            for (int i = 0; i < 20; i++) {
                int d = i == 0 || i == 19 ? along : i % 2 == 1 ? aside : (aside + 2) % 4;
                calls.add(new Call("plan", () -> x.plan(0, d), () -> m.plan(0, d)));
            }
            calls.add(new Call("pass", () -> x.pass(20), () -> m.pass(20)));
        }
        int last = 48;
        for (int t = 63; t > 0; t--) {
            int raked = t;
            if (t != last && t / 8 % 2 == 0 && t % 2 == 0) {
                calls.add(new Call("rake(" + t + ")", () -> x.rake(raked), () -> m.rake(raked)));
            }
        }
        calls.add(new Call("tunnel", () -> x.tunnel(0, 2), () -> 301));
        calls.add(new Call("digest", x::digest, m::digest));
        runCalls("long", calls);
    }

    // A way over all tufts, so that the digest holds the bits of each share from 1 / 64 to 1.
    private static void runSnake() {
        MolesLawn x = new MolesLawn();
        Model m = new Model();
        List<Call> calls = new ArrayList<>();
        calls.add(new Call("set", () -> x.set(20), () -> m.set(20)));
        calls.add(new Call("mole", () -> x.mole(0), () -> m.mole(0)));
        for (int i = 1; i < 64; i++) {
            int d = i % 8 == 0 ? 2 : i / 8 % 2 == 0 ? 1 : 3;
            int hollow = i + 1;
            calls.add(new Call("plan", () -> x.plan(0, d), () -> m.plan(0, d)));
            calls.add(new Call("pass", () -> x.pass(1), () -> m.pass(1)));
            calls.add(new Call("digest", x::digest, m::digest));
            calls.add(new Call("count", () -> x.count(5), () -> hollow));
        }
        runCalls("snake", calls);
    }

    // Behind the 512th call the answers are free, but no call may throw by itself.
    private static void runBeyond(int seed) {
        Dice dice = new Dice(seed);
        MolesLawn x = new MolesLawn();
        Model m = new Model();
        for (int i = 0; i < 6000; i++) {
            Call call = dice.oneIn(6) ? look(dice, x, m) : change(dice, x, m);
            if (call.name.startsWith("rake") || call.name.startsWith("dig(") || call.name.startsWith("restore")) {
                continue;
            }
            String got = answer(call.real);
            if (got.startsWith("throws.") && !got.equals("throws.IllegalStateException")
                    && !got.equals("throws.IllegalArgumentException")
                    && !got.equals("throws.IndexOutOfBoundsException")) {
                wrong++;
                System.out.println("seed " + seed + ", far beyond: " + call.name + " answered " + got);
                return;
            }
        }
    }

    private static void runFull(int tuft) {
        MolesLawn x = new MolesLawn();
        x.mole(tuft);
        x.mole(tuft + 1);
        x.mole(tuft + 2);
        for (int i = 0; i < 2500; i++) {
            int t = tuft + i % 3;
            List<LongSupplier> calls = List.of(() -> x.plan(0, 1), () -> x.plan(0, 1), () -> x.plan(0, 3),
                    () -> x.plan(0, 3), () -> x.pass(4), () -> x.cell(x.count(4) - 1, 0), x::digest,
                    () -> x.ifDug(t, 2), x::nextMound);
            for (LongSupplier call : calls) {
                String got = answer(call);
                if (got.startsWith("throws.") && !got.equals("throws.IllegalStateException")
                        && !got.equals("throws.IndexOutOfBoundsException")) {
                    wrong++;
                    System.out.println("full lawn: " + got);
                    return;
                }
            }
        }
        for (int t = 0; t < 64; t++) {
            int raked = t;
            String got = answer(() -> x.rake(raked) + x.mole(raked) + x.dig(raked) + x.digest());
            if (got.startsWith("throws.") && !got.equals("throws.IllegalStateException")) {
                wrong++;
                System.out.println("full lawn, tuft " + t + ": " + got);
            }
        }
    }

    public static void main(String[] args) {
        int seeds = args.length > 0 ? Integer.parseInt(args[0]) : 150;
        int[] reached = new int[4];
        for (int seed = 1; seed <= seeds && wrong < 5; seed++) {
            run(seed, reached);
        }
        System.out.println("at most " + reached[0] + " tunnels, " + reached[1] + " caught, "
                + reached[2] + " fallen in, " + reached[3] + " gnawed");
        runCrowd();
        runLong();
        runSnake();
        for (int seed = 1; seed <= 5; seed++) {
            runBeyond(seed);
        }
        runFull(27);
        System.out.println(wrong == 0 ? "class and model answer alike" : wrong + " runs went apart");
        if (wrong != 0) {
            System.exit(1);
        }
    }
}
