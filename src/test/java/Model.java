import java.math.BigInteger;
import java.util.ArrayDeque;
import java.util.ArrayList;
import java.util.Deque;
import java.util.List;
import java.util.Map;
import java.util.TreeMap;
import java.util.TreeSet;
import java.util.regex.Matcher;
import java.util.regex.Pattern;

/**
 * The document once more, written otherwise: chances by all that can happen, order by order, with
 * the leaders looked for anew each time; fractions of any size; the text by a regular expression.
 */
final class Model {
    private static final Pattern TOKEN = Pattern.compile("[a-z]+|[0-9]+|;");
    private static final BigInteger TEN = BigInteger.TEN;

    private static final class Kid {
        int slip;
        int late;
        int copies;
        boolean little;
    }

    /** Who is in, and the streak. */
    private record Standing(TreeSet<Integer> in, int streak) { }

    private record Kept(Standing standing, int lot) { }

    private record Fraction(BigInteger upper, BigInteger lower) {
        long asked(int what) {
            BigInteger divisor = upper.gcd(lower);
            return (what == 0 ? upper : lower).divide(divisor).longValueExact();
        }
    }

    private StringBuilder text = new StringBuilder();
    private List<Kid> kids = new ArrayList<>();
    private Standing standing = new Standing(new TreeSet<>(), 0);
    private int lot = 1;
    private long trace = 0;
    private final Deque<Standing> before = new ArrayDeque<>();
    private final Map<Integer, Kept> images = new TreeMap<>();

    int type(long v, int n) {
        if (n < 1 || n > 8) {
            return -1;
        }
        if (text.length() + n > 200) {
            return -3;
        }
        byte[] all = new byte[8];
        for (int place = 7; place >= 0; place--) {
            all[place] = (byte) v;
            v >>= 8;
        }
        for (int place = 8 - n; place < 8; place++) {
            text.append((char) (all[place] & 0xff));
        }
        return text.length();
    }

    int clear() {
        int had = text.length();
        text = new StringBuilder();
        return had;
    }

    int children() {
        List<Kid> found = new ArrayList<>();
        List<Integer> item = new ArrayList<>();
        String word = "";
        int items = 0;
        int at = 0;
        while (true) {
            while (at < text.length() && text.charAt(at) == ' ') {
                at++;
            }
            if (at == text.length()) {
                break;
            }
            Matcher matcher = TOKEN.matcher(text);
            if (!matcher.find(at) || matcher.start() != at) {
                return -10 - at;
            }
            String token = matcher.group();
            int wanted = word.equals("child") ? 3 : 1;
            if (word.isEmpty()) {
                boolean fits = token.equals("child") && found.size() < 6 || token.equals("little");
                if (!fits) {
                    return -10 - at;
                }
                word = token;
            } else if (item.size() < wanted) {
                if (!token.matches("0|[1-9][0-9]?")) {
                    return -10 - at;
                }
                int number = Integer.parseInt(token);
                boolean toldOne = number < found.size();
                boolean fits = word.equals("little") ? toldOne
                        : item.size() < 2 ? number <= 9 : toldOne || number == 9;
                if (!fits) {
                    return -10 - at;
                }
                item.add(number);
            } else {
                if (!token.equals(";")) {
                    return -10 - at;
                }
                if (word.equals("child")) {
                    Kid kid = new Kid();
                    kid.slip = item.get(0);
                    kid.late = item.get(1);
                    kid.copies = item.get(2);
                    found.add(kid);
                } else {
                    found.get(item.get(0)).little = true;
                }
                items++;
                word = "";
                item.clear();
            }
            at = matcher.end();
        }
        if (!word.isEmpty()) {
            return -10 - text.length();
        }
        kids = found;
        TreeSet<Integer> all = new TreeSet<>();
        for (int k = 0; k < kids.size(); k++) {
            all.add(k);
        }
        standing = new Standing(all, 0);
        before.clear();
        images.clear();
        text = new StringBuilder();
        return items;
    }

    private boolean isKid(int k) {
        return k >= 0 && k < kids.size();
    }

    private static boolean isOrder(int order) {
        return order >= 1 && order <= 4;
    }

    private int leader(int k, TreeSet<Integer> in) {
        int copies = kids.get(k).copies;
        return copies == 9 || !in.contains(copies) ? k : leader(copies, in);
    }

    private int errs(int k, int order, int streak) {
        Kid kid = kids.get(k);
        int errs = order == 1 ? 0 : order == 4 ? kid.late : kid.slip + streak + (order == 3 ? 2 : 0);
        return Math.min(10, errs);
    }

    private static int streakBehind(int order, int streak) {
        return order == 2 || order == 3 ? 0 : Math.min(9, streak + 1);
    }

    private static int bits(TreeSet<Integer> set) {
        int bits = 0;
        for (int k : set) {
            bits |= 1 << k;
        }
        return bits;
    }

    int child(int k, int what) {
        if (!isKid(k) || what < 0 || what > 5) {
            return -1;
        }
        Kid kid = kids.get(k);
        boolean isIn = standing.in.contains(k);
        return new int[] {kid.slip, kid.late, kid.copies, kid.little ? 1 : 0, isIn ? 1 : 0,
            isIn ? leader(k, standing.in) : -9}[what];
    }

    private boolean fair() {
        for (int small = 0; small < kids.size(); small++) {
            for (int big = 0; big < kids.size(); big++) {
                if (kids.get(small).little && !standing.in.contains(small)
                        && !kids.get(big).little && standing.in.contains(big)) {
                    return false;
                }
            }
        }
        return true;
    }

    int now(int what) {
        if (what < 0 || what > 3) {
            return -1;
        }
        return new int[] {bits(standing.in), standing.streak, fair() ? 1 : 0, before.size()}[what];
    }

    int errs(int k, int order) {
        if (!isKid(k) || !isOrder(order)) {
            return -1;
        }
        return standing.in.contains(k) ? errs(k, order, standing.streak) : -2;
    }

    private void remember() {
        before.push(new Standing(new TreeSet<>(standing.in), standing.streak));
        if (before.size() > 12) {
            before.removeLast();
        }
    }

    int call(int order) {
        if (!isOrder(order)) {
            return -1;
        }
        if (standing.in.isEmpty()) {
            return -2;
        }
        remember();
        TreeSet<Integer> erring = new TreeSet<>();
        for (int k : standing.in) {
            if (leader(k, standing.in) == k) {
                long next = (Integer.toUnsignedLong(lot) * 1103515245L + 12345L) & 0xffffffffL;
                lot = (int) next;
                if (next / 65536 % 10 < errs(k, order, standing.streak)) {
                    erring.add(k);
                }
            }
        }
        TreeSet<Integer> fallen = new TreeSet<>();
        for (int k : standing.in) {
            if (erring.contains(leader(k, standing.in))) {
                fallen.add(k);
            }
        }
        TreeSet<Integer> in = new TreeSet<>(standing.in);
        in.removeAll(fallen);
        standing = new Standing(in, streakBehind(order, standing.streak));
        return bits(fallen);
    }

    int comesBack(int k) {
        if (!isKid(k)) {
            return -1;
        }
        if (standing.in.contains(k)) {
            return -2;
        }
        remember();
        TreeSet<Integer> in = new TreeSet<>(standing.in);
        in.add(k);
        standing = new Standing(in, standing.streak);
        return in.size();
    }

    int undo() {
        if (before.isEmpty()) {
            return -2;
        }
        standing = before.pop();
        return before.size();
    }

    int lot(int v) {
        int was = lot;
        lot = v;
        return was;
    }

    /** Each set that can be in behind the order, with its weight in 10^6. */
    private Map<Integer, BigInteger> behind(int in, int order, int streak) {
        TreeSet<Integer> set = new TreeSet<>();
        for (int k = 0; k < kids.size(); k++) {
            if ((in >> k & 1) == 1) {
                set.add(k);
            }
        }
        Map<Integer, BigInteger> weights = new TreeMap<>();
        for (int erring = 0; erring < 64; erring++) {
            BigInteger weight = BigInteger.ONE;
            int fallen = 0;
            for (int k = 0; k < 6; k++) {
                boolean errsNow = (erring >> k & 1) == 1;
                // who leads nobody, not even itself, does not draw: all of its ten on one side
                int errs = set.contains(k) && leader(k, set) == k ? errs(k, order, streak) : 0;
                weight = weight.multiply(BigInteger.valueOf(errsNow ? errs : 10 - errs));
            }
            if (weight.signum() == 0) {
                continue;
            }
            for (int k : set) {
                if ((erring >> leader(k, set) & 1) == 1) {
                    fallen |= 1 << k;
                }
            }
            weights.merge(in & ~fallen, weight, BigInteger::add);
        }
        return weights;
    }

    private static final BigInteger MILLION = TEN.pow(6);

    private Fraction chanceBehind(String row, java.util.function.IntPredicate counts) {
        Map<Integer, BigInteger> now = new TreeMap<>();
        now.put(bits(standing.in), BigInteger.ONE);
        int streak = standing.streak;
        for (char figure : row.toCharArray()) {
            int order = figure - '0';
            Map<Integer, BigInteger> then = new TreeMap<>();
            for (Map.Entry<Integer, BigInteger> from : now.entrySet()) {
                for (Map.Entry<Integer, BigInteger> to : behind(from.getKey(), order, streak).entrySet()) {
                    then.merge(to.getKey(), from.getValue().multiply(to.getValue()), BigInteger::add);
                }
            }
            now = then;
            streak = streakBehind(order, streak);
        }
        BigInteger upper = BigInteger.ZERO;
        for (Map.Entry<Integer, BigInteger> one : now.entrySet()) {
            if (counts.test(one.getKey())) {
                upper = upper.add(one.getValue());
            }
        }
        return new Fraction(upper, MILLION.pow(row.length()));
    }

    private Fraction falling(int order, int set) {
        int in = bits(standing.in);
        if ((set & ~in) != 0) {
            return new Fraction(BigInteger.ZERO, BigInteger.ONE);
        }
        return chanceBehind("" + order, left -> left == (in & ~set));
    }

    private boolean isSet(int set) {
        return set >= 0 && set < 1 << kids.size();
    }

    long falls(int order, int set, int what) {
        if (!isOrder(order) || !isSet(set) || what < 0 || what > 1) {
            return -1;
        }
        return falling(order, set).asked(what);
    }

    long many(int order, int n, int what) {
        if (!isOrder(order) || n < 0 || n > 6 || what < 0 || what > 1) {
            return -1;
        }
        int in = standing.in.size();
        return chanceBehind("" + order, left -> in - Integer.bitCount(left) == n).asked(what);
    }

    private static String row(int row) {
        return row == 0 ? "" : "" + row;
    }

    long stays(int k, int row, int what) {
        if (!isKid(k) || !row(row).matches("[1-4]{0,9}") || what < 0 || what > 1) {
            return -1;
        }
        return chanceBehind(row(row), left -> (left >> k & 1) == 1).asked(what);
    }

    long left(int row, int what) {
        if (!row(row).matches("[1-4]{0,3}") || what < 0 || what > 1) {
            return -1;
        }
        return chanceBehind(row(row), left -> Integer.bitCount(left) == 1).asked(what);
    }

    int best(int n) {
        if (n < 0 || n > 3) {
            return -1;
        }
        int best = -1;
        BigInteger most = null;
        for (int row = 0; row < 445; row++) {
            if (!row(row).matches("[1-4]{" + n + "}")) {
                continue;
            }
            BigInteger upper = chanceBehind(row(row), left -> Integer.bitCount(left) == 1).upper;
            if (most == null || upper.compareTo(most) > 0) {
                most = upper;
                best = row;
            }
        }
        return best;
    }

    int lure(int k, int c) {
        if (!isKid(k) || c < 0 || c > 10) {
            return -1;
        }
        if (!standing.in.contains(k)) {
            return -9;
        }
        for (int ahead = 0; ahead < 10; ahead++) {
            int streak = Math.min(9, standing.streak + ahead);
            if (errs(leader(k, standing.in), 2, streak) >= c) {
                return ahead;
            }
        }
        return -9;
    }

    int could(int set) {
        if (!isSet(set)) {
            return -1;
        }
        int orders = 0;
        for (int order = 1; order <= 4; order++) {
            orders |= falling(order, set).upper.signum() > 0 ? 1 << order : 0;
        }
        return orders;
    }

    int likeliest(int set) {
        if (!isSet(set)) {
            return -1;
        }
        int likeliest = -9;
        for (int order = 4; order >= 1; order--) {
            Fraction chance = falling(order, set);
            Fraction most = likeliest < 0 ? new Fraction(BigInteger.ZERO, BigInteger.ONE) : falling(likeliest, set);
            int than = chance.upper.multiply(most.lower).compareTo(most.upper.multiply(chance.lower));
            if (chance.upper.signum() > 0 && than >= 0) {
                likeliest = order;
            }
        }
        return likeliest;
    }

    int rate(int kind, int k) {
        if (kind < 0 || kind > 5 || !isKid(k)) {
            return -1000000;
        }
        Kid kid = kids.get(k);
        trace += new int[] {1, 11, 101, 1011, 10101, 100001}[kind];
        switch (kind) {
            case 0: return kid.slip;
            case 1: return kid.slip + standing.streak;
            case 2: return kid.slip - kid.late;
            case 3: return kid.slip + standing.streak + kid.slip + standing.streak;
            case 4: return kid.slip - kid.late + (int) kids.stream().filter(other -> other.copies == k).count();
            default: return kid.slip + standing.in.size();
        }
    }

    int keep(int image) {
        if (image < 0 || image > 1) {
            return -1;
        }
        images.put(image, new Kept(new Standing(new TreeSet<>(standing.in), standing.streak), lot));
        return standing.in.size();
    }

    int back(int image) {
        if (image < 0 || image > 1) {
            return -1;
        }
        if (!images.containsKey(image)) {
            return -2;
        }
        standing = images.get(image).standing;
        lot = images.get(image).lot;
        before.clear();
        return standing.in.size();
    }

    int count(int what) {
        if (what < 0 || what > 3) {
            return -1;
        }
        int little = (int) kids.stream().filter(kid -> kid.little).count();
        return new int[] {kids.size(), little, standing.in.size(), text.length()}[what];
    }

    long trace() {
        return trace;
    }
}
