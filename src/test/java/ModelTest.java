import java.util.ArrayList;
import java.util.Comparator;
import java.util.List;

/**
 * Long runs of calls on a desk and on a second program, which is written from the document alone in
 * the slowest and plainest way. Both must answer the same, exceptions included. The runs come from
 * a counter, so that they are the same each time.
 */
public final class ModelTest {
    private static final int RUNS = 300;
    private static final int CALLS = 511;

    static final class Article {
        int price;
        int category;
        int pieces;
    }

    static final class Coupon {
        int kind;
        int value;
        int categories;
        int minimum;
        int group;
        int uses = 9;
    }

    static final class Piece {
        int article;
        int category;
        int price;
        int rest;
    }

    static final class Order {
        List<Piece> pieces;
        int coupons;
        int fee;
        int paid;
    }

    /** The desk as the document tells it. */
    static final class Model {
        final List<Article> articles = new ArrayList<>();
        final List<Coupon> coupons = new ArrayList<>();
        final List<Order> orders = new ArrayList<>();
        int fee = 0;
        int limit = 1000000;

        int addArticle(int price, int category) {
            argument(1 <= price && price <= 10000 && 0 <= category && category <= 7);
            state(articles.size() < 10);
            Article a = new Article();
            a.price = price;
            a.category = category;
            articles.add(a);
            return articles.size() - 1;
        }

        int setPrice(int article, int price) {
            index(article, articles);
            argument(1 <= price && price <= 10000);
            int before = articles.get(article).price;
            articles.get(article).price = price;
            return before;
        }

        int put(int article, int pieces) {
            index(article, articles);
            argument(0 <= pieces && pieces <= 6);
            int before = articles.get(article).pieces;
            articles.get(article).pieces = pieces;
            return before;
        }

        int setShipping(int fee, int limit) {
            argument(0 <= fee && fee <= 10000 && 0 <= limit && limit <= 1000000);
            int before = this.fee;
            this.fee = fee;
            this.limit = limit;
            return before;
        }

        int addCoupon(int kind, int value, int categories, int minimum, int group) {
            argument(0 <= kind && kind <= 3);
            int[] least = {1, 1, 2, 0};
            int[] most = {100, 100000, 9, 0};
            argument(least[kind] <= value && value <= most[kind]);
            argument(1 <= categories && categories <= 255);
            argument(0 <= minimum && minimum <= 1000000);
            argument(0 <= group && group <= 3);
            state(coupons.size() < 8);
            Coupon c = new Coupon();
            c.kind = kind;
            c.value = value;
            c.categories = categories;
            c.minimum = minimum;
            c.group = group;
            coupons.add(c);
            return coupons.size() - 1;
        }

        int setUses(int coupon, int uses) {
            index(coupon, coupons);
            argument(0 <= uses && uses <= 9);
            int before = coupons.get(coupon).uses;
            coupons.get(coupon).uses = uses;
            return before;
        }

        List<Piece> basket() {
            List<Piece> pieces = new ArrayList<>();
            for (int k = 0; k < articles.size(); k++) {
                for (int n = 0; n < articles.get(k).pieces; n++) {
                    Piece p = new Piece();
                    p.article = k;
                    p.category = articles.get(k).category;
                    p.price = articles.get(k).price;
                    pieces.add(p);
                }
            }
            return pieces;
        }

        static List<Piece> matched(Coupon c, List<Piece> pieces) {
            List<Piece> those = new ArrayList<>();
            for (Piece p : pieces) {
                if ((c.categories & (1 << p.category)) != 0) {
                    those.add(p);
                }
            }
            return those;
        }

        static int prices(List<Piece> pieces) {
            return pieces.stream().mapToInt(p -> p.price).sum();
        }

        static int rests(List<Piece> pieces) {
            return pieces.stream().mapToInt(p -> p.rest).sum();
        }

        static boolean reached(Coupon c, List<Piece> pieces) {
            List<Piece> those = matched(c, pieces);
            return !those.isEmpty() && prices(those) >= c.minimum;
        }

        boolean fits(int coupon) {
            index(coupon, coupons);
            return coupons.get(coupon).uses > 0 && reached(coupons.get(coupon), basket());
        }

        int matching(int coupon) {
            index(coupon, coupons);
            return prices(matched(coupons.get(coupon), basket()));
        }

        int missing(int coupon) {
            int there = matching(coupon);
            int minimum = coupons.get(coupon).minimum;
            return there < minimum ? minimum - there : 0;
        }

        List<Integer> members(int set) {
            List<Integer> members = new ArrayList<>();
            for (int k = 0; k < 32; k++) {
                if ((set & (1 << k)) != 0) {
                    argument(k < coupons.size());
                    members.add(k);
                }
            }
            return members;
        }

        boolean isAllowed(int set) {
            List<Integer> members = members(set);
            for (int a : members) {
                if (!fits(a)) {
                    return false;
                }
                for (int b : members) {
                    int group = coupons.get(a).group;
                    if (a != b && group != 0 && group == coupons.get(b).group) {
                        return false;
                    }
                }
            }
            return true;
        }

        List<Piece> applied(int set, List<Piece> pieces) {
            for (Piece p : pieces) {
                p.rest = p.price;
            }
            for (int k : members(set)) {
                Coupon c = coupons.get(k);
                List<Piece> those = matched(c, pieces);
                if (c.kind == 0) {
                    those.forEach(p -> p.rest = p.rest - p.rest * c.value / 100);
                } else if (c.kind == 1) {
                    amount(c, those);
                } else if (c.kind == 2) {
                    those.sort(Comparator.comparing((Piece p) -> -p.rest));
                    for (int place = 1; place <= those.size(); place++) {
                        if (place % c.value == 0) {
                            those.get(place - 1).rest = 0;
                        }
                    }
                }
            }
            return pieces;
        }

        static void amount(Coupon c, List<Piece> those) {
            long sum = rests(those);
            long amount = Math.min(sum, c.value);
            if (sum == 0) {
                return;
            }
            those.forEach(p -> p.rest = (int) (p.rest - p.rest * amount / sum));
            for (Piece p : those) {
                if (p.rest > 0 && sum - rests(those) < amount) {
                    p.rest--;
                }
            }
        }

        int goods(int set) {
            state(isAllowed(set));
            return rests(applied(set, basket()));
        }

        int feeOf(int set) {
            boolean freight = members(set).stream().anyMatch(k -> coupons.get(k).kind == 3);
            return freight || goods(set) >= limit || basket().isEmpty() ? 0 : fee;
        }

        int total(int set) {
            return goods(set) + feeOf(set);
        }

        int rest(int set, int article) {
            members(set);
            index(article, articles);
            state(isAllowed(set));
            return applied(set, basket()).stream().filter(p -> p.article == article).mapToInt(p -> p.rest).sum();
        }

        int best() {
            int best = 0;
            for (int set = 1; set < 1 << coupons.size(); set++) {
                if (isAllowed(set)) {
                    int less = total(best) - total(set);
                    int fewer = members(best).size() - members(set).size();
                    if (less > 0 || less == 0 && fewer > 0) {
                        best = set;
                    }
                }
            }
            return best;
        }

        int worth(int coupon) {
            index(coupon, coupons);
            int least = total(best());
            int uses = setUses(coupon, 0);
            int without = total(best());
            setUses(coupon, uses);
            return without - least;
        }

        int buy(int set) {
            state(isAllowed(set) && !basket().isEmpty() && orders.size() < 12);
            Order o = new Order();
            o.pieces = basket();
            o.coupons = set;
            o.fee = feeOf(set);
            o.paid = goods(set);
            orders.add(o);
            members(set).forEach(k -> coupons.get(k).uses--);
            articles.forEach(a -> a.pieces = 0);
            return orders.size() - 1;
        }

        int giveBack(int order, int article, int pieces) {
            argument(pieces(order, article) >= pieces && pieces >= 1);
            Order o = orders.get(order);
            for (int n = 0; n < pieces; n++) {
                o.pieces.remove(o.pieces.stream().filter(p -> p.article == article).findFirst().get());
            }
            for (int k : members(o.coupons)) {
                if (!reached(coupons.get(k), o.pieces)) {
                    o.coupons -= 1 << k;
                }
            }
            int back = Math.max(0, o.paid - rests(applied(o.coupons, o.pieces)));
            o.paid -= back;
            return back;
        }

        int order(int order, int what) {
            index(order, orders);
            if (what < 0 || what > 4) {
                throw new IndexOutOfBoundsException();
            }
            Order o = orders.get(order);
            return new int[] {o.paid, o.fee, o.coupons, o.pieces.size(), prices(o.pieces)}[what];
        }

        int pieces(int order, int article) {
            index(order, orders);
            index(article, articles);
            return (int) orders.get(order).pieces.stream().filter(p -> p.article == article).count();
        }

        double level() {
            int prices = orders.stream().mapToInt(o -> prices(o.pieces)).sum();
            return prices == 0 ? 1 : orders.stream().mapToInt(o -> o.paid).sum() / (double) prices;
        }

        long digest() {
            List<Integer> numbers = new ArrayList<>();
            numbers.add(articles.size());
            articles.forEach(a -> numbers.addAll(List.of(a.price, a.category, a.pieces)));
            numbers.addAll(List.of(fee, limit, coupons.size()));
            coupons.forEach(c -> numbers.addAll(List.of(c.kind, c.value, c.categories, c.minimum, c.group, c.uses)));
            numbers.add(orders.size());
            for (int k = 0; k < orders.size(); k++) {
                for (int what = 0; what < 5; what++) {
                    numbers.add(order(k, what));
                }
            }
            long d = 199;
            for (int x : numbers) {
                d = d * 31 + x;
            }
            return d;
        }

        static void argument(boolean right) {
            if (!right) {
                throw new IllegalArgumentException();
            }
        }

        static void state(boolean right) {
            if (!right) {
                throw new IllegalStateException();
            }
        }

        static void index(int k, List<?> list) {
            if (k < 0 || k >= list.size()) {
                throw new IndexOutOfBoundsException();
            }
        }
    }

    /** Numbers that look mixed, from a counter alone. */
    static final class Numbers {
        private long counter;

        Numbers(long start) {
            counter = start * 1000003L;
        }

        int below(int bound) {
            counter++;
            long z = counter * 0x9E3779B97F4A7C15L;
            z = (z ^ (z >>> 30)) * 0xBF58476D1CE4E5B9L;
            z = (z ^ (z >>> 27)) * 0x94D049BB133111EBL;
            return (int) Math.floorMod(z ^ (z >>> 31), (long) bound);
        }

        boolean oneIn(int bound) {
            return below(bound) == 0;
        }

        int from(int least, int most) {
            return least + below(most - least + 1);
        }

        /** Mostly inside the bounds, often at their ends, now and then outside. */
        int near(int least, int most) {
            if (oneIn(40)) {
                int[] wild = {least - 1, most + 1, Integer.MIN_VALUE, Integer.MAX_VALUE, -1};
                return wild[below(wild.length)];
            }
            if (oneIn(12)) {
                return oneIn(2) ? least : most;
            }
            return from(least, most);
        }
    }

    /** The style of a run says how great its prices, amounts and minimums are. */
    static final class Style {
        final int price;
        final int amount;
        final int minimum;
        final int categories;
        final int pieces;
        final boolean manyCoupons;

        Style(Numbers n) {
            price = new int[] {3, 20, 400, 10000}[n.below(4)];
            amount = new int[] {3, 30, 2000, 100000}[n.below(4)];
            minimum = new int[] {1, 50, 3000, 100000}[n.below(4)];
            categories = new int[] {0, 1, 3, 7}[n.below(4)];
            pieces = n.oneIn(3) ? 6 : 3;
            manyCoupons = n.oneIn(3);
        }
    }

    static final String[] NAMES = {"addArticle", "setPrice", "put", "value", "setShipping", "addCoupon", "setUses",
        "matching", "fits", "missing", "isAllowed", "goods", "total", "rest", "best", "worth", "buy", "giveBack",
        "orderCount", "order", "pieces", "level", "digest"};

    static final int[] WEIGHTS = {3, 2, 14, 1, 2, 3, 3, 2, 2, 2, 4, 5, 5, 9, 4, 3, 2, 9, 1, 4, 3, 2, 4};

    static int choose(Numbers n) {
        int sum = 0;
        for (int w : WEIGHTS) {
            sum += w;
        }
        int at = n.below(sum);
        int call = 0;
        while (at >= WEIGHTS[call]) {
            at -= WEIGHTS[call];
            call++;
        }
        return call;
    }

    static int anySet(Numbers n, Model m) {
        if (n.oneIn(25)) {
            return new int[] {256, -1, 1 << m.coupons.size(), Integer.MIN_VALUE, Integer.MAX_VALUE}[n.below(5)];
        }
        int set = n.below(1 << m.coupons.size());
        if (n.oneIn(6)) {
            return set;
        }
        // Mostly a set that is allowed: others say nothing of what coupons do.
        int allowed = 0;
        for (int k : m.members(set)) {
            if (m.isAllowed(allowed | 1 << k)) {
                allowed |= 1 << k;
            }
        }
        return allowed;
    }

    static int[] arguments(int call, Numbers n, Model m, Style s) {
        int article = n.near(0, Math.max(0, m.articles.size() - 1));
        int coupon = n.near(0, Math.max(0, m.coupons.size() - 1));
        int order = n.near(0, Math.max(0, m.orders.size() - 1));
        switch (NAMES[call]) {
            case "addArticle":
                return new int[] {n.oneIn(20) ? n.near(1, 10000) : n.from(1, s.price),
                    n.oneIn(20) ? n.near(0, 7) : n.from(0, s.categories)};
            case "setPrice":
                return new int[] {article, n.oneIn(9) ? n.near(1, 10000) : n.from(1, s.price)};
            case "put":
                return new int[] {article, n.oneIn(3) ? n.near(0, 6) : n.from(0, s.pieces)};
            case "setShipping":
                return new int[] {n.near(0, n.oneIn(2) ? 10000 : s.price),
                    n.near(0, n.oneIn(4) ? 1000000 : s.price * 8)};
            case "addCoupon":
                return couponOf(n, s);
            case "setUses":
                return new int[] {coupon, n.near(0, n.oneIn(2) ? 9 : 1)};
            case "matching": case "fits": case "missing": case "worth":
                return new int[] {coupon};
            case "isAllowed": case "goods": case "total": case "buy":
                return new int[] {anySet(n, m)};
            case "rest":
                return new int[] {anySet(n, m), article};
            case "giveBack":
                return new int[] {order, article, n.near(1, n.oneIn(3) ? 6 : 1)};
            case "order":
                return new int[] {order, n.near(0, 4)};
            case "pieces":
                return new int[] {order, article};
            default:
                return new int[0];
        }
    }

    static int[] couponOf(Numbers n, Style s) {
        int kind = n.oneIn(30) ? n.near(0, 3) : n.below(4);
        int value = kind == 0 ? n.near(1, 100) : kind == 1 ? n.near(1, n.oneIn(4) ? 100000 : s.amount)
            : kind == 2 ? n.near(2, n.oneIn(2) ? 9 : 3) : n.near(0, 0);
        int categories = n.oneIn(2) ? n.near(1, 255) : n.near(1, (2 << s.categories) - 1);
        return new int[] {kind, value, categories, n.oneIn(2) ? 0 : n.near(0, s.minimum),
            n.oneIn(2) ? 0 : n.near(0, 3)};
    }

    static Object ask(Model m, int call, int[] a) {
        switch (NAMES[call]) {
            case "addArticle": return m.addArticle(a[0], a[1]);
            case "setPrice": return m.setPrice(a[0], a[1]);
            case "put": return m.put(a[0], a[1]);
            case "value": return Model.prices(m.basket());
            case "setShipping": return m.setShipping(a[0], a[1]);
            case "addCoupon": return m.addCoupon(a[0], a[1], a[2], a[3], a[4]);
            case "setUses": return m.setUses(a[0], a[1]);
            case "matching": return m.matching(a[0]);
            case "fits": return m.fits(a[0]);
            case "missing": return m.missing(a[0]);
            case "isAllowed": return m.isAllowed(a[0]);
            case "goods": return m.goods(a[0]);
            case "total": return m.total(a[0]);
            case "rest": return m.rest(a[0], a[1]);
            case "best": return m.best();
            case "worth": return m.worth(a[0]);
            case "buy": return m.buy(a[0]);
            case "giveBack": return m.giveBack(a[0], a[1], a[2]);
            case "orderCount": return m.orders.size();
            case "order": return m.order(a[0], a[1]);
            case "pieces": return m.pieces(a[0], a[1]);
            case "level": return m.level();
            default: return m.digest();
        }
    }

    static Object ask(CouponDesk x, int call, int[] a) {
        switch (NAMES[call]) {
            case "addArticle": return x.addArticle(a[0], a[1]);
            case "setPrice": return x.setPrice(a[0], a[1]);
            case "put": return x.put(a[0], a[1]);
            case "value": return x.value();
            case "setShipping": return x.setShipping(a[0], a[1]);
            case "addCoupon": return x.addCoupon(a[0], a[1], a[2], a[3], a[4]);
            case "setUses": return x.setUses(a[0], a[1]);
            case "matching": return x.matching(a[0]);
            case "fits": return x.fits(a[0]);
            case "missing": return x.missing(a[0]);
            case "isAllowed": return x.isAllowed(a[0]);
            case "goods": return x.goods(a[0]);
            case "total": return x.total(a[0]);
            case "rest": return x.rest(a[0], a[1]);
            case "best": return x.best();
            case "worth": return x.worth(a[0]);
            case "buy": return x.buy(a[0]);
            case "giveBack": return x.giveBack(a[0], a[1], a[2]);
            case "orderCount": return x.orderCount();
            case "order": return x.order(a[0], a[1]);
            case "pieces": return x.pieces(a[0], a[1]);
            case "level": return x.level();
            default: return x.digest();
        }
    }

    static Object answer(Model m, int call, int[] a) {
        try {
            return ask(m, call, a);
        } catch (IllegalArgumentException | IllegalStateException | IndexOutOfBoundsException e) {
            return "throws." + e.getClass().getSimpleName();
        }
    }

    static Object answer(CouponDesk x, int call, int[] a) {
        try {
            return ask(x, call, a);
        } catch (RuntimeException e) {
            return "throws." + e.getClass().getSimpleName();
        }
    }

    private final CouponDesk desk = new CouponDesk();
    private final Model model = new Model();
    private final List<String> log = new ArrayList<>();
    private final int[] answered = new int[NAMES.length];
    private final int[] thrown = new int[NAMES.length];

    /** Whether desk and model agree; if not, the whole run so far is printed. */
    private boolean agree(int run, int call, int[] a) {
        Object want = answer(model, call, a);
        Object got = answer(desk, call, a);
        StringBuilder row = new StringBuilder(NAMES[call]).append('(');
        for (int k = 0; k < a.length; k++) {
            row.append(k == 0 ? "" : ", ").append(a[k]);
        }
        log.add(row.append(") = ").append(got).toString());
        if (want.toString().startsWith("throws.")) {
            thrown[call]++;
        } else {
            answered[call]++;
        }
        if (want.equals(got)) {
            return true;
        }
        log.forEach(System.out::println);
        System.out.println("run " + run + ": the last answer is wrong, due is " + want);
        return false;
    }

    private boolean run(int run) {
        Numbers n = new Numbers(run);
        Style s = new Style(n);
        boolean right = true;
        for (int k = 0; k < 4 && right; k++) {
            right = agree(run, 0, arguments(0, n, model, s));
        }
        for (int k = 0; k < (s.manyCoupons ? 8 : 3) && right; k++) {
            right = agree(run, 5, arguments(5, n, model, s));
        }
        while (right && log.size() < CALLS) {
            int call = choose(n);
            right = agree(run, call, arguments(call, n, model, s));
        }
        return right && agree(run, NAMES.length - 1, new int[0]);
    }

    public static void main(String[] args) {
        int[] answered = new int[NAMES.length];
        int[] thrown = new int[NAMES.length];
        int runs = args.length == 0 ? RUNS : Integer.parseInt(args[0]);
        for (int run = 1; run <= runs; run++) {
            ModelTest test = new ModelTest();
            if (!test.run(run)) {
                System.exit(1);
            }
            for (int k = 0; k < NAMES.length; k++) {
                answered[k] += test.answered[k];
                thrown[k] += test.thrown[k];
            }
        }
        if (args.length > 0) {
            for (int k = 0; k < NAMES.length; k++) {
                System.out.println(NAMES[k] + ": " + answered[k] + " answers, " + thrown[k] + " exceptions");
            }
        }
        System.out.println(runs + " runs agree");
    }
}
