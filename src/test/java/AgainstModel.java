import java.util.ArrayList;
import java.util.Arrays;
import java.util.List;
import java.util.Random;
import java.util.regex.Matcher;
import java.util.regex.Pattern;

/** Random runs of calls, each answer held against a model that looks through all ways one by one. */
public final class AgainstModel {

    /** What the document says, by brute force and with no thought of speed. */
    private static final class Model {
        List<int[]> boxes = new ArrayList<>();
        List<int[]> lids = new ArrayList<>();
        List<int[]> sorts = new ArrayList<>();
        List<int[]> tales = new ArrayList<>();
        List<int[]> hints = new ArrayList<>();
        List<int[]> undos = new ArrayList<>();
        int[] lidOn = {-1, -1, -1, -1, -1, -1, -1};
        StringBuilder text = new StringBuilder();
        long above = 0;
        long below = 1;
        int[] status = new int[3];
        Model[] images = new Model[2];

        private static List<int[]> copy(List<int[]> rows) {
            List<int[]> copied = new ArrayList<>();
            for (int[] row : rows) {
                copied.add(row.clone());
            }
            return copied;
        }

        void takeKept(Model other) {
            boxes = copy(other.boxes);
            lids = copy(other.lids);
            sorts = copy(other.sorts);
            tales = copy(other.tales);
            hints = copy(other.hints);
            undos = copy(other.undos);
            lidOn = other.lidOn.clone();
        }

        long bad() {
            status[0]++;
            return -2;
        }

        long bad10() {
            status[0]++;
            return -10;
        }

        long no() {
            status[1]++;
            return -3;
        }

        long full() {
            status[2]++;
            return -4;
        }

        static boolean in(int v, int low, int high) {
            return v >= low && v <= high;
        }

        boolean isBox(int b) {
            return in(b, 0, boxes.size() - 1);
        }

        boolean isLid(int l) {
            return in(l, 0, lids.size() - 1);
        }

        static boolean fits(int[] lid, int[] box) {
            boolean plain = lid[1] == box[0] && lid[2] == box[1];
            boolean wide = plain || lid[1] == box[0] && box[1] == lid[2] - 1;
            boolean soft = wide || box[1] == lid[2];
            switch (lid[0]) {
                case 0: return plain;
                case 1: return wide;
                case 2: return soft;
                case 3: return plain && !(box[2] > 9);
                case 4: return plain || box[0] == 0 && box[1] == lid[2] - 1;
                default: return soft || box[1] < lid[2];
            }
        }

        static boolean nests(int[] inner, int[] outer) {
            return inner[1] < outer[1] && (inner[0] == outer[0] || inner[0] == 0 && outer[0] == 2);
        }

        long call(String name, int[] a) {
            switch (name) {
                case "box": return box(a);
                case "lid": return lid(a);
                case "put": return put(a[0], a[1]);
                case "off": return off(a[0]);
                case "undo": return undo();
                case "on": return isBox(a[0]) ? lidOn[a[0]] : bad10();
                case "grasp": return grasp(a[0], a[1]);
                case "sort": return sort(a);
                case "eye": return eye(a[0], a[1]);
                case "type": return type(a[0]);
                case "clear": return clear();
                case "read": return read();
                case "fits": return isBox(a[0]) ? fitBits(a[0]) : bad();
                case "most": return most(a[0]);
                case "lacking": return lacking();
                case "soup": return soup(a[0], a[1]);
                case "much": return much(lids);
                case "worth": return isLid(a[0]) ? much(lids) - much(without(a[0])) : bad();
                case "spare": return spare();
                case "piles": return piles(a[0]);
                case "shelf": return shelf(a[0]);
                case "buy": return buy(a[0]);
                case "tries": return tries(a[0]);
                case "nuts": return nuts(a[0], a[1]);
                case "lend": return lend(a);
                case "has": return isLid(a[0]) ? holders(tales.size())[a[0]] : bad();
                case "wrong": return wrong();
                case "hint": return hint(a);
                case "forget": return forget(a[0]);
                case "labels": return labels(a[0], a[1]);
                case "evening": return evening(a[0], a[1]);
                case "part": return a[0] == 0 ? above : a[0] == 1 ? below : bad();
                case "image": return image(a[0]);
                case "from": return from(a[0]);
                case "status": return status(a[0]);
                case "count": return in(a[0], 0, 7) ? count(a[0]) : bad();
                case "digest": return digest();
                default: throw new IllegalStateException(name);
            }
        }

        long box(int[] a) {
            if (!in(a[0], 0, 2) || !in(a[1], 1, 9) || !in(a[2], 0, 20)) {
                return bad();
            }
            if (boxes.size() == 7) {
                return full();
            }
            boxes.add(new int[] {a[0], a[1], a[2], 1});
            undos.clear();
            return boxes.size() - 1;
        }

        long lid(int[] a) {
            if (!in(a[0], 0, 5) || !in(a[1], 0, 2) || !in(a[2], 1, 9)) {
                return bad();
            }
            if (lids.size() == 7) {
                return full();
            }
            lids.add(new int[] {a[0], a[1], a[2], 5});
            undos.clear();
            return lids.size() - 1;
        }

        int boxOf(int lid) {
            for (int b = 0; b < 7; b++) {
                if (lidOn[b] == lid) {
                    return b;
                }
            }
            return -1;
        }

        void keepUndo() {
            undos.add(lidOn.clone());
            if (undos.size() > 12) {
                undos.remove(0);
            }
        }

        long put(int l, int b) {
            if (!isLid(l) || !isBox(b)) {
                return bad();
            }
            if (!fits(lids.get(l), boxes.get(b)) || boxOf(l) >= 0 || lidOn[b] >= 0) {
                return no();
            }
            keepUndo();
            lidOn[b] = l;
            return 1;
        }

        long off(int l) {
            if (!isLid(l)) {
                return bad();
            }
            int b = boxOf(l);
            if (b < 0) {
                return no();
            }
            keepUndo();
            lidOn[b] = -1;
            return b;
        }

        long undo() {
            if (undos.isEmpty()) {
                return no();
            }
            lidOn = undos.remove(undos.size() - 1);
            return 1;
        }

        long grasp(int b, int n) {
            if (!isBox(b) || !in(n, 0, 9)) {
                return bad();
            }
            int was = boxes.get(b)[3];
            boxes.get(b)[3] = n;
            return was;
        }

        long sort(int[] a) {
            if (!in(a[0], 0, 5) || !in(a[1], 0, 2) || !in(a[2], 1, 9) || !in(a[3], 1, 50)) {
                return bad();
            }
            if (sorts.size() == 4) {
                return full();
            }
            sorts.add(a.clone());
            return sorts.size() - 1;
        }

        long eye(int l, int c) {
            if (!isLid(l) || !in(c, 0, 10)) {
                return bad();
            }
            int was = lids.get(l)[3];
            lids.get(l)[3] = c;
            return was;
        }

        long type(int c) {
            if (!in(c, 0, 127)) {
                return bad();
            }
            if (text.length() == 150) {
                return full();
            }
            text.append((char) c);
            return text.length();
        }

        long clear() {
            int had = text.length();
            text.setLength(0);
            return had;
        }

        private static final Pattern ITEM = Pattern.compile(
            " *(?:(box|lid) *([0-9]{1,2}) +([0-9]{1,2}) +([0-9]{1,2}) *;"
            + "|(on|grasp) *([0-9]{1,2}) +([0-9]{1,2}) *;"
            + "|(sort) *([0-9]{1,2}) +([0-9]{1,2}) +([0-9]{1,2}) +([0-9]{1,2}) *;)");

        long read() {
            String t = text.toString();
            Model told = new Model();
            int refused = -1;
            int items = 0;
            int at = 0;
            Matcher m = ITEM.matcher(t);
            while (m.find(at) && m.start() == at) {
                if (refused < 0 && told.tell(m.group().replace(";", " ").trim()) < 0) {
                    refused = items;
                }
                items++;
                at = m.end();
            }
            if (!t.substring(at).replace(" ", "").isEmpty()) {
                return -10 - fault(t, at);
            }
            if (refused >= 0) {
                return -1000 - refused;
            }
            takeKept(told);
            return items;
        }

        long tell(String item) {
            List<Integer> numbers = new ArrayList<>();
            Matcher m = Pattern.compile("[0-9]+").matcher(item);
            while (m.find()) {
                numbers.add(Integer.parseInt(m.group()));
            }
            int[] a = numbers.stream().mapToInt(i -> i).toArray();
            String word = item.replaceAll("[^a-z]", "");
            return call(word.equals("on") ? "put" : word, a);
        }

        // The longest run of whole tokens that an item may begin with; the fault is the token behind it.
        static int fault(String t, int at) {
            Matcher m = Pattern.compile("[a-z]+|[0-9]+|[^ ]").matcher(t);
            String begun = "";
            while (m.find(at)) {
                String token = m.group();
                if (token.matches("[0-9]+")) {
                    token = token.length() > 2 ? "?" : "N";
                } else if (!token.matches("[a-z]+|;")) {
                    token = "?";
                }
                begun += token + " ";
                boolean may = false;
                for (String whole : new String[] {"box N N N ; ", "lid N N N ; ", "on N N ; ", "grasp N N ; ", "sort N N N N ; "}) {
                    may |= whole.startsWith(begun);
                }
                if (!may) {
                    return m.start();
                }
                at = m.end();
                if (at >= t.length()) {
                    break;
                }
            }
            return t.length();
        }

        int fitBits(int b) {
            int bits = 0;
            for (int l = 0; l < lids.size(); l++) {
                if (fits(lids.get(l), boxes.get(b))) {
                    bits |= 1 << l;
                }
            }
            return bits;
        }

        int[] bestRow;
        int bestPairs;

        /** All rows in their order: least partner ahead, none behind all; the first with most pairs stays. */
        void allRows(int[] options, int[] row, int at, int used) {
            if (at == options.length) {
                int pairs = Integer.bitCount(used);
                if (pairs > bestPairs) {
                    bestPairs = pairs;
                    bestRow = row.clone();
                }
                return;
            }
            if (Integer.bitCount(used) + options.length - at <= bestPairs) {
                return;
            }
            for (int c = 0; c < 7; c++) {
                if ((options[at] >> c & 1) == 1 && (used >> c & 1) == 0) {
                    row[at] = c;
                    allRows(options, row, at + 1, used | 1 << c);
                }
            }
            row[at] = -1;
            allRows(options, row, at + 1, used);
        }

        int pairUp(int[] options) {
            bestPairs = -1;
            bestRow = new int[options.length];
            allRows(options, new int[options.length], 0, 0);
            return bestPairs;
        }

        int[] fitOptions() {
            int[] options = new int[boxes.size()];
            for (int b = 0; b < options.length; b++) {
                options[b] = fitBits(b);
            }
            return options;
        }

        long most(int b) {
            if (b != -1 && !isBox(b)) {
                return bad10();
            }
            int pairs = pairUp(fitOptions());
            return b == -1 ? pairs : bestRow[b];
        }

        long lacking() {
            int found = 0;
            int lack = 0;
            for (int set = 1; set < 1 << boxes.size(); set++) {
                int any = 0;
                for (int b = 0; b < boxes.size(); b++) {
                    any |= (set >> b & 1) == 1 ? fitBits(b) : 0;
                }
                int l = Integer.bitCount(set) - Integer.bitCount(any);
                boolean fewer = l == lack && found != 0 && Integer.bitCount(set) < Integer.bitCount(found);
                if (l > lack || fewer) {
                    found = set;
                    lack = l;
                }
            }
            return found;
        }

        static boolean canLid(List<int[]> some, List<int[]> lids, int at, long used) {
            if (at == some.size()) {
                return true;
            }
            for (int l = 0; l < lids.size(); l++) {
                if ((used >> l & 1) == 0 && fits(lids.get(l), some.get(at)) && canLid(some, lids, at + 1, used | 1L << l)) {
                    return true;
                }
            }
            return false;
        }

        List<int[]> boxesOf(int set) {
            List<int[]> some = new ArrayList<>();
            for (int b = 0; b < boxes.size(); b++) {
                if ((set >> b & 1) == 1) {
                    some.add(boxes.get(b));
                }
            }
            return some;
        }

        static int sum(List<int[]> rows, int column) {
            int sum = 0;
            for (int[] row : rows) {
                sum += row[column];
            }
            return sum;
        }

        long soup(int amount, int what) {
            if (!in(amount, 0, 99) || !in(what, 0, 1)) {
                return bad10();
            }
            int found = -1;
            int least = 1000;
            for (int set = 0; set < 1 << boxes.size(); set++) {
                List<int[]> some = boxesOf(set);
                if (sum(some, 2) >= amount && sum(some, 1) < least && canLid(some, lids, 0, 0)) {
                    found = set;
                    least = sum(some, 1);
                }
            }
            return found < 0 ? -1 : what == 0 ? least : found;
        }

        long much(List<int[]> someLids) {
            int most = 0;
            for (int set = 0; set < 1 << boxes.size(); set++) {
                List<int[]> some = boxesOf(set);
                if (sum(some, 2) > most && canLid(some, someLids, 0, 0)) {
                    most = sum(some, 2);
                }
            }
            return most;
        }

        List<int[]> without(int lid) {
            List<int[]> others = new ArrayList<>(lids);
            others.remove(lid);
            return others;
        }

        long spare() {
            int bits = 0;
            int all = pairUp(fitOptions());
            for (int l = 0; l < lids.size(); l++) {
                int[] options = fitOptions();
                for (int b = 0; b < options.length; b++) {
                    options[b] &= ~(1 << l);
                }
                bits |= pairUp(options) == all ? 1 << l : 0;
            }
            return bits;
        }

        long piles(int b) {
            if (b != -1 && !isBox(b)) {
                return bad10();
            }
            int[] options = new int[boxes.size()];
            for (int i = 0; i < options.length; i++) {
                for (int o = 0; o < options.length; o++) {
                    options[i] |= nests(boxes.get(i), boxes.get(o)) ? 1 << o : 0;
                }
            }
            int pairs = pairUp(options);
            return b == -1 ? boxes.size() - pairs : bestRow[b];
        }

        static List<int[]> orders(int n) {
            List<int[]> all = new ArrayList<>();
            order(all, new int[n], 0, 0);
            return all;
        }

        private static void order(List<int[]> all, int[] row, int at, int used) {
            if (at == row.length) {
                all.add(row.clone());
                return;
            }
            for (int i = 0; i < row.length; i++) {
                if ((used >> i & 1) == 0) {
                    row[at] = i;
                    order(all, row, at + 1, used | 1 << i);
                }
            }
        }

        long shelf(int place) {
            if (place < -1) {
                return bad10();
            }
            if (place >= boxes.size()) {
                return -5;
            }
            int[] best = null;
            int least = Integer.MAX_VALUE;
            for (int[] o : orders(boxes.size())) {
                int cost = 0;
                for (int p = 0; p < o.length; p++) {
                    cost += boxes.get(o[p])[3] * (p + 1);
                }
                if (cost < least) {
                    least = cost;
                    best = o;
                }
            }
            return place == -1 ? least : best[place];
        }

        long buy(int sort) {
            if (sort != -1 && !in(sort, 0, sorts.size() - 1)) {
                return bad10();
            }
            int[] best = null;
            int least = Integer.MAX_VALUE;
            int n = boxes.size();
            for (int code = 0; code < 4096; code++) {
                int[] counts = {code >> 9, code >> 6 & 7, code >> 3 & 7, code & 7};
                int total = 0;
                int cost = 0;
                boolean known = true;
                List<int[]> all = new ArrayList<>(lids);
                for (int s = 0; s < 4; s++) {
                    total += counts[s];
                    known &= counts[s] == 0 || s < sorts.size();
                    for (int i = 0; known && i < counts[s]; i++) {
                        cost += sorts.get(s)[3];
                        all.add(sorts.get(s));
                    }
                }
                if (known && total <= n && cost < least && canLid(boxes, all, 0, 0)) {
                    least = cost;
                    best = counts;
                }
            }
            return best == null ? -1 : sort == -1 ? least : best[sort];
        }

        void setFraction(long a, long b) {
            long g = 1;
            for (long d = 2; d <= b; d++) {
                if (a % d == 0 && b % d == 0) {
                    g = d;
                }
            }
            above = a / g;
            below = b / g;
        }

        long tries(int i) {
            int n = lids.size();
            if (i < -1) {
                return bad10();
            }
            if (i >= n) {
                return -5;
            }
            int[] best = null;
            long least = Long.MAX_VALUE;
            for (int[] o : orders(n)) {
                // by all of the 2 to the n ways in which lids fit or not: how many tries, by 10 to the n
                long mean = 0;
                long none = 10_000_000;
                for (int p = 0; p < n; p++) {
                    mean += none;
                    none = none / 10 * (10 - lids.get(o[p])[3]);
                }
                if (mean < least) {
                    least = mean;
                    best = o;
                }
            }
            if (i != -1) {
                return best[i];
            }
            setFraction(least / 10, 1_000_000);
            return 1;
        }

        long nuts(int n, int what) {
            if (!in(n, 1, 6) || !in(what, 0, 2)) {
                return bad();
            }
            List<int[]> ways = orders(n);
            int worst = 0;
            int sum = 0;
            for (int[] way : ways) {
                int tried = 0;
                List<Integer> free = new ArrayList<>();
                for (int bolt = 0; bolt < n; bolt++) {
                    free.add(bolt);
                }
                for (int nut = 0; nut < n; nut++) {
                    for (int k = 0; k < free.size() - 1; k++) {
                        tried++;
                        if (free.get(k) == way[nut]) {
                            break;
                        }
                    }
                    free.remove(Integer.valueOf(way[nut]));
                }
                worst = Math.max(worst, tried);
                sum += tried;
            }
            if (what == 2) {
                setFraction(sum, ways.size());
            }
            return what == 0 ? ways.size() : what == 1 ? worst : 1;
        }

        long lend(int[] a) {
            if (!in(a[0], 0, 4) || !isLid(a[1]) || !in(a[2], 0, 4) || a[0] == a[2]) {
                return bad();
            }
            if (tales.size() == 8) {
                return full();
            }
            tales.add(a.clone());
            return tales.size() - 1;
        }

        int[] holders(int told) {
            int[] at = new int[7];
            for (int[] t : tales.subList(0, told)) {
                if (at[t[1]] == t[0]) {
                    at[t[1]] = t[2];
                }
            }
            return at;
        }

        long wrong() {
            for (int t = 0; t < tales.size(); t++) {
                if (holders(t)[tales.get(t)[1]] != tales.get(t)[0]) {
                    return t;
                }
            }
            return -1;
        }

        long hint(int[] a) {
            if (!in(a[0], 0, 3) || !isBox(a[1]) || !isBox(a[2])) {
                return bad();
            }
            if (hints.size() == 8) {
                return full();
            }
            hints.add(a.clone());
            return hints.size() - 1;
        }

        long forget(int what) {
            if (!in(what, 0, 2)) {
                return bad();
            }
            List<int[]> rows = what == 0 ? tales : what == 1 ? hints : sorts;
            int had = rows.size();
            rows.clear();
            return had;
        }

        boolean agrees(int[] boxOfFood) {
            for (int[] h : hints) {
                int at = boxOfFood[h[1]];
                boolean holds = h[0] == 0 ? at == h[2] : h[0] == 1 ? at != h[2]
                    : h[0] == 2 ? at < boxOfFood[h[2]] : boxes.get(at)[1] < boxes.get(boxOfFood[h[2]])[1];
                if (!holds) {
                    return false;
                }
            }
            return true;
        }

        long labels(int f, int what) {
            if (!in(what, 0, 2) || what == 1 && !isBox(f) || what != 1 && f != 0) {
                return bad10();
            }
            int n = boxes.size();
            int ways = 0;
            int[][] seen = new int[n][n];
            for (int[] way : orders(n)) {
                if (agrees(way)) {
                    ways++;
                    for (int food = 0; food < n; food++) {
                        seen[way[food]][food]++;
                    }
                }
            }
            if (what == 0) {
                return ways;
            }
            int bits = 0;
            int look = -1;
            int fewest = Integer.MAX_VALUE;
            for (int b = 0; b < n; b++) {
                bits |= what == 1 && seen[b][f] > 0 ? 1 << b : 0;
                int worst = Arrays.stream(seen[b]).max().getAsInt();
                if (ways > 0 && worst < fewest) {
                    fewest = worst;
                    look = b;
                }
            }
            return what == 1 ? bits : look;
        }

        long evening(int n, int seed) {
            if (!in(n, 0, 60) || !in(seed, 0, 999999)) {
                return bad();
            }
            if (boxes.isEmpty()) {
                return no();
            }
            java.math.BigInteger x = java.math.BigInteger.valueOf(seed);
            List<Integer> filled = new ArrayList<>();
            List<Integer> used = new ArrayList<>();
            int open = 0;
            for (int i = 0; i < n; i++) {
                x = x.multiply(java.math.BigInteger.valueOf(1103515245)).add(java.math.BigInteger.valueOf(12345))
                    .mod(java.math.BigInteger.valueOf(2147483648L));
                int b = (int) (x.longValue() / 65536 % boxes.size());
                if (filled.contains(b)) {
                    continue;
                }
                filled.add(b);
                int lid = -1;
                for (int l = lids.size() - 1; l >= 0; l--) {
                    lid = fits(lids.get(l), boxes.get(b)) && !used.contains(l) ? l : lid;
                }
                if (lid < 0) {
                    open++;
                } else {
                    used.add(lid);
                }
            }
            return open;
        }

        long image(int i) {
            if (!in(i, 0, 1)) {
                return bad();
            }
            images[i] = new Model();
            images[i].takeKept(this);
            return 1;
        }

        long from(int i) {
            if (!in(i, 0, 1)) {
                return bad();
            }
            if (images[i] == null) {
                return no();
            }
            takeKept(images[i]);
            return 1;
        }

        long status(int what) {
            if (!in(what, 0, 2)) {
                bad();
                return -1;
            }
            return status[what];
        }

        long count(int what) {
            int on = 0;
            for (int l : lidOn) {
                on += l >= 0 ? 1 : 0;
            }
            return new int[] {boxes.size(), lids.size(), on, sorts.size(), tales.size(), hints.size(), undos.size(),
                text.length()}[what];
        }

        long digest() {
            List<Long> v = new ArrayList<>();
            for (int what = 0; what < 8; what++) {
                v.add(count(what));
            }
            for (int b = 0; b < boxes.size(); b++) {
                for (int n : boxes.get(b)) {
                    v.add((long) n);
                }
                v.add((long) lidOn[b]);
            }
            for (List<int[]> rows : List.of(lids, sorts, tales, hints)) {
                for (int[] row : rows) {
                    for (int n : row) {
                        v.add((long) n);
                    }
                }
            }
            v.add(above);
            v.add(below);
            long h = 857;
            for (long n : v) {
                h = 31 * h + n;
            }
            return h;
        }
    }

    private static long ask(LidForEach x, String name, int[] a) {
        switch (name) {
            case "box": return x.box(a[0], a[1], a[2]);
            case "lid": return x.lid(a[0], a[1], a[2]);
            case "put": return x.put(a[0], a[1]);
            case "off": return x.off(a[0]);
            case "undo": return x.undo();
            case "on": return x.on(a[0]);
            case "grasp": return x.grasp(a[0], a[1]);
            case "sort": return x.sort(a[0], a[1], a[2], a[3]);
            case "eye": return x.eye(a[0], a[1]);
            case "type": return x.type(a[0]);
            case "clear": return x.clear();
            case "read": return x.read();
            case "fits": return x.fits(a[0]);
            case "most": return x.most(a[0]);
            case "lacking": return x.lacking();
            case "soup": return x.soup(a[0], a[1]);
            case "much": return x.much();
            case "worth": return x.worth(a[0]);
            case "spare": return x.spare();
            case "piles": return x.piles(a[0]);
            case "shelf": return x.shelf(a[0]);
            case "buy": return x.buy(a[0]);
            case "tries": return x.tries(a[0]);
            case "nuts": return x.nuts(a[0], a[1]);
            case "lend": return x.lend(a[0], a[1], a[2]);
            case "has": return x.has(a[0]);
            case "wrong": return x.wrong();
            case "hint": return x.hint(a[0], a[1], a[2]);
            case "forget": return x.forget(a[0]);
            case "labels": return x.labels(a[0], a[1]);
            case "evening": return x.evening(a[0], a[1]);
            case "part": return x.part(a[0]);
            case "image": return x.image(a[0]);
            case "from": return x.from(a[0]);
            case "status": return x.status(a[0]);
            case "count": return x.count(a[0]);
            case "digest": return x.digest();
            default: throw new IllegalStateException(name);
        }
    }

    private static final String[] CALLS = {"box", "lid", "put", "off", "undo", "on", "grasp", "sort", "eye", "clear", "read",
        "fits", "most", "lacking", "soup", "much", "worth", "spare", "piles", "shelf", "buy", "tries", "nuts", "lend",
        "has", "wrong", "hint", "forget", "labels", "evening", "part", "image", "from", "status", "count", "digest"};

    private final Random random;
    private final LidForEach x = new LidForEach();
    private final Model model = new Model();
    private final List<String> told = new ArrayList<>();
    private final int sizes;
    private final int most;
    private int calls = 0;

    private AgainstModel(long seed) {
        random = new Random(seed);
        sizes = 2 + random.nextInt(8);
        most = seed % 8 == 0 ? 7 : 5;
    }

    private int upTo(int low, int high) {
        return low + random.nextInt(high - low + 1);
    }

    /** Mostly a number as told, now and then one beside it or far from it. */
    private int number(int low, int high) {
        int dice = random.nextInt(60);
        if (dice == 0) {
            return low - 1;
        }
        if (dice == 1) {
            return high + 1;
        }
        if (dice == 2) {
            return random.nextBoolean() ? random.nextInt() : random.nextBoolean() ? Integer.MAX_VALUE : Integer.MIN_VALUE;
        }
        return upTo(low, Math.max(low, high));
    }

    private int aBox() {
        return number(0, model.boxes.size() - 1);
    }

    private int aLid() {
        return number(0, model.lids.size() - 1);
    }

    private int[] arguments(String name) {
        switch (name) {
            case "box": return new int[] {number(0, 2), number(1, sizes), number(0, 20)};
            case "lid": return new int[] {number(0, 5), number(0, 2), number(1, sizes)};
            case "sort": return new int[] {number(0, 5), number(0, 2), number(1, sizes), random.nextBoolean() ? number(1, 3) : number(1, 50)};
            case "put": return new int[] {aLid(), aBox()};
            case "off": case "worth": case "has": return new int[] {aLid()};
            case "on": case "fits": return new int[] {aBox()};
            case "most": case "piles": return new int[] {random.nextInt(4) == 0 ? -1 : aBox()};
            case "shelf": return new int[] {number(-1, model.boxes.size())};
            case "tries": return new int[] {number(-1, model.lids.size())};
            case "grasp": return new int[] {aBox(), random.nextBoolean() ? number(0, 2) : number(0, 9)};
            case "eye": return new int[] {aLid(), random.nextInt(6) == 0 ? 10 : number(0, 10)};
            case "soup": return new int[] {number(0, random.nextBoolean() ? 30 : 99), number(0, 1)};
            case "buy": return new int[] {number(-1, model.sorts.size() - 1)};
            case "nuts": return new int[] {number(1, 6), number(0, 2)};
            case "lend": return new int[] {number(0, random.nextBoolean() ? 1 : 4), aLid(), number(0, 4)};
            case "hint": return new int[] {number(0, 3), aBox(), aBox()};
            case "labels": return random.nextBoolean() ? new int[] {number(0, 0), number(0, 2)} : new int[] {aBox(), 1};
            case "evening": return new int[] {number(0, 60), number(0, 999999)};
            case "forget": case "status": return new int[] {number(0, 2)};
            case "part": case "image": case "from": return new int[] {number(0, 1)};
            case "count": return new int[] {number(0, 7)};
            default: return new int[0];
        }
    }

    private boolean agreesOn(String name, int... a) {
        calls++;
        long want = model.call(name, a);
        long got = ask(x, name, a);
        told.add(name + Arrays.toString(a) + " " + got);
        if (want != got) {
            System.out.println(String.join("\n", told));
            System.out.println("due was " + want);
        }
        return want == got;
    }

    private String someText() {
        StringBuilder t = new StringBuilder();
        String[] words = {"box", "lid", "on", "grasp", "sort"};
        int[] due = {3, 3, 2, 2, 4};
        int items = random.nextInt(10);
        for (int i = 0; i < items; i++) {
            int w = i < 2 ? i : random.nextInt(5);
            t.append(words[w]);
            for (int k = 0; k < due[w]; k++) {
                boolean second = w < 2 && k > 0;
                t.append(random.nextInt(12) == 0 && k == 0 ? "" : " ").append(second ? upTo(1, 2) : random.nextInt(w < 2 ? 3 : 2));
            }
            t.append(random.nextInt(9) == 0 ? " ; " : ";");
        }
        for (int flaws = random.nextInt(4) - 1; flaws > 0 && t.length() > 0; flaws--) {
            int at = random.nextInt(t.length());
            String flaw = "bxlidongraspt0123456789;;;    A{`:/\t\0";
            char c = flaw.charAt(random.nextInt(flaw.length()));
            switch (random.nextInt(3)) {
                case 0: t.setCharAt(at, c); break;
                case 1: t.insert(at, c); break;
                default: t.deleteCharAt(at); break;
            }
        }
        if (random.nextInt(6) == 0) {
            t.setLength(random.nextInt(t.length() + 1));
        }
        return t.toString();
    }

    private boolean readsAlike() {
        boolean alike = agreesOn("clear");
        String t = someText();
        for (int i = 0; i < t.length() && alike; i++) {
            alike = agreesOn("type", t.charAt(i));
        }
        return alike && agreesOn("read") && agreesOn("digest");
    }

    private boolean run(int length, boolean mostlyTexts) {
        for (int i = 0; i < length; i++) {
            boolean alike;
            if (random.nextInt(mostlyTexts ? 4 : 150) == 0) {
                alike = readsAlike();
            } else {
                String name = CALLS[i < 12 ? random.nextInt(2) : random.nextInt(CALLS.length)];
                boolean tooMany = name.equals("box") && model.boxes.size() >= most && random.nextInt(20) != 0;
                boolean wouldEmpty = name.equals("read") && random.nextInt(8) != 0;
                alike = tooMany || wouldEmpty || agreesOn(name, arguments(name));
            }
            if (!alike) {
                return false;
            }
        }
        return agreesOn("digest") && agreesOn("status", 0) && agreesOn("status", 1) && agreesOn("status", 2);
    }

    public static void main(String[] args) {
        long runs = args.length > 0 ? Long.parseLong(args[0]) : 400;
        long calls = 0;
        int wrong = 0;
        for (long seed = 0; seed < runs && wrong < 3; seed++) {
            AgainstModel test = new AgainstModel(seed);
            if (!test.run(seed % 4 == 3 ? 40 : 250, seed % 4 == 3)) {
                System.out.println("in the run by seed " + seed);
                wrong++;
            }
            calls += test.calls;
        }
        System.out.println(calls + " calls held against the model, " + wrong + " runs went apart");
        if (wrong != 0) {
            System.exit(1);
        }
    }
}
