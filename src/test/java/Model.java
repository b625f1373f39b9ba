import java.util.ArrayDeque;
import java.util.ArrayList;
import java.util.Arrays;
import java.util.Deque;
import java.util.List;
import java.util.regex.Matcher;
import java.util.regex.Pattern;

/**
 * The document told a second time, as slowly and plainly as can be: by copies, by all orders, by all
 * sets and by augmenting paths. ModelTest asks it and the class the same questions.
 */
final class Model {
    private static final Pattern TOKEN = Pattern.compile("[0-9]+|[^ ]", Pattern.DOTALL);

    /** Section 2 at one time; never changed once made, but by its maker. */
    private static final class Moment {
        int[] kept = new int[0];
        int[] away = new int[0];
        int days;
        long spilled;
        long river;

        Moment copy() {
            Moment m = new Moment();
            m.kept = kept.clone();
            m.away = away.clone();
            m.days = days;
            m.spilled = spilled;
            m.river = river;
            return m;
        }
    }

    private StringBuilder text = new StringBuilder();
    private boolean stands;
    private int lent;
    private int pipe;
    private List<int[]> houses = new ArrayList<>();
    private Moment now = new Moment();
    private final Deque<Moment> past = new ArrayDeque<>();
    private final Moment[] images = new Moment[2];
    private final long[] imageSeeds = new long[2];
    private final List<int[]> seen = new ArrayList<>();
    private final List<int[]> book = new ArrayList<>();
    private long seed;
    private int faultAt = -1;

    int feed(int letter) {
        if (letter < 0 || letter > 255) {
            return Check.OUTSIDE;
        }
        if (text.length() == 200) {
            return Check.FULL;
        }
        text.append((char) letter);
        return text.length();
    }

    /** {number, letter} of the fault, or null; what is read goes into the lists. */
    private int[] read(String all, List<Integer> first, List<int[]> into) {
        List<String> tokens = new ArrayList<>();
        List<Integer> places = new ArrayList<>();
        Matcher m = TOKEN.matcher(all);
        while (m.find()) {
            tokens.add(m.group());
            places.add(m.start());
        }
        tokens.add("");
        places.add(all.length());
        String clause = "";
        int[] numbers = new int[4];
        int filled = 0;
        for (int i = 0; i < tokens.size(); i++) {
            String token = tokens.get(i);
            int place = places.get(i);
            boolean number = !token.isEmpty() && Character.digit(token.charAt(0), 10) >= 0 && token.charAt(0) < 128;
            int wanted = clause.equals("t") ? 2 : 3;
            if (clause.isEmpty()) {
                if (token.isEmpty()) {
                    return null;
                }
                boolean begins = token.equals("t") || token.equals("h") && !first.isEmpty();
                if (!begins) {
                    return new int[] {1, place};
                }
                if (token.equals("t") && !first.isEmpty() || token.equals("h") && into.size() == 8) {
                    return new int[] {3, place};
                }
                clause = token;
                filled = 0;
            } else if (filled < wanted) {
                if (!number) {
                    return new int[] {1, place};
                }
                if (token.length() > 3 || !fits(clause, filled, Integer.parseInt(token), into.size())) {
                    return new int[] {2, place};
                }
                numbers[filled] = Integer.parseInt(token);
                filled++;
            } else if (!token.equals(";")) {
                return new int[] {1, place};
            } else {
                if (clause.equals("t")) {
                    first.add(numbers[0]);
                    first.add(numbers[1]);
                } else {
                    into.add(new int[] {numbers[0], numbers[1], numbers[2] == 9 ? -1 : numbers[2]});
                }
                clause = "";
            }
        }
        return null;
    }

    private static boolean fits(String clause, int which, int value, int told) {
        if (clause.equals("t")) {
            return value >= 1 && value <= (which == 0 ? 60 : 99);
        }
        if (which == 2) {
            return value == 9 || value < told;
        }
        return value <= (which == 0 ? 999 : 99);
    }

    int town() {
        String all = text.toString();
        text = new StringBuilder();
        List<Integer> first = new ArrayList<>();
        List<int[]> into = new ArrayList<>();
        int[] fault = read(all, first, into);
        faultAt = fault == null ? -1 : fault[1];
        if (fault != null) {
            return -10 - fault[0];
        }
        stands = !first.isEmpty();
        lent = stands ? first.get(0) : 0;
        pipe = stands ? first.get(1) : 0;
        houses = into;
        now = new Moment();
        now.kept = new int[houses.size()];
        now.away = new int[houses.size()];
        past.clear();
        Arrays.fill(images, null);
        seen.clear();
        book.clear();
        return houses.size();
    }

    int fault() {
        return faultAt;
    }

    private int sum(int[] of) {
        return Arrays.stream(of).sum();
    }

    int told(int what) {
        int awaySet = 0;
        for (int h = 0; h < houses.size(); h++) {
            awaySet += now.away[h] > 0 ? 1 << h : 0;
        }
        int[] all = {lent, pipe, houses.size(), text.length(), now.days, stands && now.days <= lent - 1 ? 1 : 0,
            sum(now.kept), (int) now.spilled, (int) now.river, awaySet, seen.size(), book.size(), past.size()};
        return what < 0 || what > 12 ? Check.OUTSIDE : all[what];
    }

    private boolean unknown(int h) {
        return h < 0 || h >= houses.size();
    }

    /** Whether what house a lets go comes by house b. */
    private boolean comesBy(int a, int b) {
        return a == b || houses.get(a)[2] != -1 && comesBy(houses.get(a)[2], b);
    }

    private int last(int h) {
        return houses.get(h)[2] == -1 ? h : last(houses.get(h)[2]);
    }

    private int aboveSet(int h) {
        int set = 0;
        for (int a = 0; a < houses.size(); a++) {
            set += comesBy(a, h) ? 1 << a : 0;
        }
        return set;
    }

    int house(int h, int what) {
        if (unknown(h)) {
            return Check.UNKNOWN;
        }
        switch (what) {
            case 0: case 1: case 2: return houses.get(h)[what];
            case 3: return now.kept[h];
            case 4: return now.away[h];
            case 5: return aboveSet(h);
            default: return Check.OUTSIDE;
        }
    }

    private void deed(Moment next) {
        past.addLast(now);
        if (past.size() > 30) {
            past.removeFirst();
        }
        now = next;
    }

    private Moment behindDay(Moment from, int[] more) {
        Moment m = from.copy();
        for (int h = 0; h < houses.size(); h++) {
            if (from.away[h] > 0) {
                m.away[h] = from.away[h] - 1;
                continue;
            }
            int goes = houses.get(h)[1] + more[h];
            if (from.days >= lent) {
                m.river = Math.min(9999999, m.river + goes);
                continue;
            }
            int stands = from.kept[h] + goes;
            m.kept[h] = Math.min(stands, houses.get(h)[0]);
            m.spilled = Math.min(9999999, m.spilled + stands - m.kept[h]);
        }
        m.days++;
        return m;
    }

    private Moment behindHour(Moment from) {
        Moment m = from.copy();
        for (int h = 0; h < houses.size(); h++) {
            int goes = Math.min(from.kept[h], pipe);
            m.kept[h] -= goes;
            if (houses.get(h)[2] == -1) {
                m.river = Math.min(9999999, m.river + goes);
            } else {
                m.kept[houses.get(h)[2]] += goes;
            }
        }
        for (int h = 0; h < houses.size(); h++) {
            int above = Math.max(0, m.kept[h] - houses.get(h)[0]);
            m.kept[h] -= above;
            m.spilled = Math.min(9999999, m.spilled + above);
        }
        return m;
    }

    int day(int n) {
        if (n < 1 || n > 30) {
            return Check.OUTSIDE;
        }
        if (!stands) {
            return Check.NOT;
        }
        if (now.days > 9000) {
            return Check.FULL;
        }
        for (int i = 0; i < n; i++) {
            deed(behindDay(now, new int[houses.size()]));
        }
        return sum(now.kept);
    }

    int pail(int a, int b, int x) {
        if (unknown(a) || unknown(b) || a == b) {
            return Check.UNKNOWN;
        }
        if (x < 1 || x > 999) {
            return Check.OUTSIDE;
        }
        if (x > now.kept[a] || x > houses.get(b)[0] - now.kept[b]) {
            return Check.NOT;
        }
        Moment m = now.copy();
        m.kept[a] -= x;
        m.kept[b] += x;
        deed(m);
        return m.kept[b];
    }

    int aunt(int h, int n) {
        if (unknown(h)) {
            return Check.UNKNOWN;
        }
        if (n < 0 || n > 60) {
            return Check.OUTSIDE;
        }
        int was = now.away[h];
        Moment m = now.copy();
        m.away[h] = n;
        deed(m);
        return was;
    }

    int hour(int n) {
        if (n < 1 || n > 30) {
            return Check.OUTSIDE;
        }
        if (!stands || now.days < lent) {
            return Check.NOT;
        }
        for (int i = 0; i < n; i++) {
            deed(behindHour(now));
        }
        return sum(now.kept);
    }

    private int draw(int n) {
        seed = (seed * 1103515245L + 12345L) % 2147483648L;
        return (int) (seed / 65536 % n);
    }

    int drift(int n) {
        if (n < 1 || n > 30) {
            return Check.OUTSIDE;
        }
        if (!stands) {
            return Check.NOT;
        }
        if (now.days > 9000) {
            return Check.FULL;
        }
        for (int i = 0; i < n; i++) {
            Moment ahead = now.copy();
            int[] more = new int[houses.size()];
            if (!houses.isEmpty()) {
                int leaves = draw(houses.size());
                if (draw(4) == 0) {
                    ahead.away[leaves] = draw(5);
                }
                int guests = draw(houses.size());
                more[guests] = draw(10);
            }
            deed(behindDay(ahead, more));
        }
        return sum(now.kept);
    }

    int undo(int n) {
        if (n < 1 || n > 30) {
            return Check.OUTSIDE;
        }
        if (n > past.size()) {
            return Check.NOT;
        }
        for (int i = 0; i < n; i++) {
            now = past.removeLast();
        }
        return now.days;
    }

    private Moment tried(int n) {
        Moment m = now.copy();
        m.spilled = 0;
        for (int i = 0; i < n; i++) {
            m = behindDay(m, new int[houses.size()]);
        }
        return m;
    }

    int level(int h, int n) {
        if (unknown(h)) {
            return Check.UNKNOWN;
        }
        return n < 0 || n > 60 ? Check.OUTSIDE : tried(n).kept[h];
    }

    int spills(int n) {
        return n < 0 || n > 60 ? Check.OUTSIDE : (int) tried(n).spilled;
    }

    private int left() {
        return Math.max(0, lent - now.days);
    }

    private boolean bears(int set) {
        for (int root = 0; root < houses.size(); root++) {
            int load = 0;
            int room = 0;
            for (int h = 0; h < houses.size(); h++) {
                if (last(h) == root) {
                    room += houses.get(h)[0];
                    load += now.kept[h] + ((set & 1 << h) != 0 ? 0 : left() * houses.get(h)[1]);
                }
            }
            if (load > room) {
                return false;
            }
        }
        return true;
    }

    int fewest() {
        for (int count = 0; count <= houses.size(); count++) {
            for (int set = 0; set < 1 << houses.size(); set++) {
                if (Integer.bitCount(set) == count && bears(set)) {
                    return set;
                }
            }
        }
        throw new IllegalStateException("no set bears it");
    }

    /** Augmenting paths, one by one: source 8, sink 9. */
    int held() {
        int[][] cap = new int[10][10];
        for (int h = 0; h < houses.size(); h++) {
            int over = now.kept[h] + left() * houses.get(h)[1] - houses.get(h)[0];
            cap[8][h] = Math.max(0, over);
            cap[h][9] = Math.max(0, -over);
        }
        for (int h = 0; h < houses.size(); h++) {
            int to = houses.get(h)[2];
            if (to != -1) {
                cap[h][to] = cap[8][h] > 0 && cap[to][9] > 0 ? 1000000 : 0;
                cap[to][h] = cap[8][to] > 0 && cap[h][9] > 0 ? 1000000 : 0;
            }
        }
        int flow = 0;
        int more = augment(cap, 8, Integer.MAX_VALUE, new boolean[10]);
        while (more > 0) {
            flow += more;
            more = augment(cap, 8, Integer.MAX_VALUE, new boolean[10]);
        }
        return flow;
    }

    private int augment(int[][] cap, int at, int most, boolean[] been) {
        if (at == 9) {
            return most;
        }
        been[at] = true;
        for (int to = 0; to < 10; to++) {
            if (!been[to] && cap[at][to] > 0) {
                int got = augment(cap, to, Math.min(most, cap[at][to]), been);
                if (got > 0) {
                    cap[at][to] -= got;
                    cap[to][at] += got;
                    return got;
                }
            }
        }
        return 0;
    }

    int breath(int what) {
        if (what < 0 || what > 3) {
            return Check.OUTSIDE;
        }
        if (houses.isEmpty()) {
            return -1;
        }
        List<Moment> line = new ArrayList<>();
        Moment m = now.copy();
        m.spilled = 0;
        line.add(m);
        while (sum(m.kept) > 0 && line.size() <= 999) {
            m = behindHour(m);
            line.add(m);
        }
        if (what == 0) {
            return sum(m.kept) > 0 ? -1 : line.size() - 1;
        }
        if (what == 1) {
            return (int) m.spilled;
        }
        int greatest = line.stream().mapToInt(a -> Arrays.stream(a.kept).max().getAsInt()).max().getAsInt();
        if (what == 2) {
            return greatest;
        }
        for (Moment a : line) {
            for (int h = 0; h < houses.size(); h++) {
                if (a.kept[h] == greatest) {
                    return h;
                }
            }
        }
        throw new IllegalStateException("the greatest is nobody's");
    }

    int pulled(int order) {
        String figures = Integer.toString(order);
        char[] sorted = figures.toCharArray();
        Arrays.sort(sorted);
        if (houses.isEmpty() || houses.size() > 6
                || !new String(sorted).equals("123456".substring(0, houses.size()))) {
            return Check.OUTSIDE;
        }
        int[] standing = now.kept.clone();
        boolean[] open = new boolean[houses.size()];
        int greatest = Arrays.stream(standing).max().getAsInt();
        for (char figure : figures.toCharArray()) {
            open[figure - '1'] = true;
            // House by house, till nothing stands above a pulled plug: in between it does not stand.
            boolean moved = true;
            while (moved) {
                moved = false;
                for (int h = 0; h < houses.size(); h++) {
                    if (open[h] && standing[h] > 0) {
                        int to = houses.get(h)[2];
                        if (to != -1) {
                            standing[to] += standing[h];
                        }
                        standing[h] = 0;
                        moved = true;
                    }
                }
            }
            greatest = Math.max(greatest, Arrays.stream(standing).max().getAsInt());
        }
        return greatest;
    }

    int best(int what) {
        if (what < 0 || what > 1) {
            return Check.OUTSIDE;
        }
        if (houses.isEmpty() || houses.size() > 6) {
            return -1;
        }
        int[] found = {-1, Integer.MAX_VALUE};
        tryOrders(0, 0, found);
        return found[what];
    }

    private void tryOrders(int order, int used, int[] found) {
        if (used == (1 << houses.size()) - 1) {
            int stood = pulled(order);
            if (stood < found[1] || stood == found[1] && order < found[0]) {
                found[0] = order;
                found[1] = stood;
            }
            return;
        }
        for (int h = 0; h < houses.size(); h++) {
            if ((used & 1 << h) == 0) {
                tryOrders(order * 10 + h + 1, used | 1 << h, found);
            }
        }
    }

    int dry(int n, int q) {
        if (n < 0 || n > 60 || q < 0 || q > 100) {
            return Check.OUTSIDE;
        }
        return n == 0 ? 1000000000 : (int) ((long) dry(n - 1, q) * q / 100);
    }

    int see(int h, boolean came) {
        if (unknown(h)) {
            return Check.UNKNOWN;
        }
        if (seen.size() == 6) {
            return Check.FULL;
        }
        seen.add(new int[] {h, came ? 1 : 0});
        return seen.size();
    }

    int whence() {
        int set = 0;
        for (int a = 0; a < houses.size(); a++) {
            boolean fits = true;
            for (int[] s : seen) {
                fits &= comesBy(a, s[0]) == (s[1] == 1);
            }
            set += fits ? 1 << a : 0;
        }
        return set;
    }

    int lookAt() {
        int set = whence();
        int found = -1;
        int least = Integer.MAX_VALUE;
        for (int h = 0; h < houses.size(); h++) {
            int by = 0;
            int not = 0;
            for (int a = 0; a < houses.size(); a++) {
                if ((set & 1 << a) != 0) {
                    by += comesBy(a, h) ? 1 : 0;
                    not += comesBy(a, h) ? 0 : 1;
                }
            }
            if (by > 0 && not > 0 && Math.max(by, not) < least) {
                least = Math.max(by, not);
                found = h;
            }
        }
        return found;
    }

    int write(int h, int x) {
        if (unknown(h)) {
            return Check.UNKNOWN;
        }
        if (x < 0 || x > 999) {
            return Check.OUTSIDE;
        }
        if (book.size() == 20) {
            return Check.FULL;
        }
        book.add(new int[] {h, x});
        return book.size();
    }

    int judge() {
        for (int i = 0; i < book.size(); i++) {
            if (now.kept[book.get(i)[0]] != book.get(i)[1]) {
                return i;
            }
        }
        return -1;
    }

    int tear() {
        int both = seen.size() + book.size();
        seen.clear();
        book.clear();
        return both;
    }

    int seed(int v) {
        if (v < 0) {
            return Check.OUTSIDE;
        }
        int was = (int) seed;
        seed = v;
        return was;
    }

    int keep(int i) {
        if (i != 0 && i != 1) {
            return Check.UNKNOWN;
        }
        images[i] = now.copy();
        imageSeeds[i] = seed;
        past.clear();
        return 1;
    }

    int goBack(int i) {
        if (i != 0 && i != 1) {
            return Check.UNKNOWN;
        }
        if (images[i] == null) {
            return Check.NOT;
        }
        now = images[i].copy();
        seed = imageSeeds[i];
        past.clear();
        return 1;
    }
}
