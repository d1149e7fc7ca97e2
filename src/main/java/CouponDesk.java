import java.util.Arrays;

/** A desk where coupons are stacked. */
public final class CouponDesk {
    private static final int ARTICLES = 10;
    private static final int PIECES_OF_ARTICLE = 6;
    private static final int PIECES_IN_ALL = ARTICLES * PIECES_OF_ARTICLE;
    private static final int COUPONS = 8;
    private static final int ORDERS = 12;

    private static final int TOP_PRICE = 10000;
    private static final int TOP_CATEGORY = 7;
    private static final int ALL_CATEGORIES = 255;
    private static final int TOP_FEE = 10000;
    private static final int TOP_LIMIT = 1000000;
    private static final int TOP_MINIMUM = 1000000;
    private static final int TOP_GROUP = 3;
    private static final int TOP_USES = 9;
    private static final int ABOVE_EVERY_TOTAL = PIECES_IN_ALL * TOP_PRICE + TOP_FEE + 1;

    private static final int PERCENT = 0;
    private static final int AMOUNT = 1;
    private static final int BUNDLE = 2;
    private static final int FREIGHT = 3;

    private static final int ORDER_NUMBERS = 5;
    private static final long DIGEST_START = 199L;
    private static final long DIGEST_FACTOR = 31L;

    // Every coupon and order that there can be is made here, so that no call makes an object.
    private final Lot basket = new Lot();
    private final Coupon[] coupons = new Coupon[COUPONS];
    private final Order[] orders = new Order[ORDERS];
    private final Tray tray = new Tray();
    private final Search search = new Search();
    private int articleCount = 0;
    private int couponCount = 0;
    private int orderCount = 0;
    private int fee = 0;
    private int limit = TOP_LIMIT;

    public CouponDesk() {
        for (int k = 0; k < COUPONS; k++) {
            coupons[k] = new Coupon();
        }
        for (int k = 0; k < ORDERS; k++) {
            orders[k] = new Order();
        }
    }

    // ---- articles and the basket

    public int addArticle(int price, int category) throws IllegalArgumentException, IllegalStateException {
        needPrice(price);
        if (category < 0 || category > TOP_CATEGORY) {
            throw new IllegalArgumentException("a category is 0 to 7");
        }
        if (articleCount >= ARTICLES) {
            throw new IllegalStateException("there are 10 articles");
        }
        int article = articleCount;
        basket.prices[article] = price;
        basket.categories[article] = category;
        articleCount++;
        return article;
    }

    public int setPrice(int article, int price) throws IndexOutOfBoundsException, IllegalArgumentException {
        needArticle(article);
        needPrice(price);
        int before = basket.prices[article];
        basket.prices[article] = price;
        return before;
    }

    public int put(int article, int pieces) throws IndexOutOfBoundsException, IllegalArgumentException {
        needArticle(article);
        if (pieces < 0 || pieces > PIECES_OF_ARTICLE) {
            throw new IllegalArgumentException("a basket has 0 to 6 pieces of an article");
        }
        int before = basket.counts[article];
        basket.counts[article] = pieces;
        return before;
    }

    public int value() {
        return basket.pricesIn(ALL_CATEGORIES);
    }

    public int setShipping(int fee, int limit) throws IllegalArgumentException {
        if (fee < 0 || fee > TOP_FEE) {
            throw new IllegalArgumentException("a fee is 0 to 10000");
        }
        if (limit < 0 || limit > TOP_LIMIT) {
            throw new IllegalArgumentException("a limit is 0 to 1000000");
        }
        int before = this.fee;
        this.fee = fee;
        this.limit = limit;
        return before;
    }

    // ---- coupons

    public int addCoupon(int kind, int value, int categories, int minimum, int group)
            throws IllegalArgumentException, IllegalStateException {
        if (!isValueOfKind(kind, value)) {
            throw new IllegalArgumentException("no kind, or no value for this kind");
        }
        if (categories < 1 || categories > ALL_CATEGORIES) {
            throw new IllegalArgumentException("a set of categories is 1 to 255");
        }
        if (minimum < 0 || minimum > TOP_MINIMUM) {
            throw new IllegalArgumentException("a minimum is 0 to 1000000");
        }
        if (group < 0 || group > TOP_GROUP) {
            throw new IllegalArgumentException("a group is 0 to 3");
        }
        if (couponCount >= COUPONS) {
            throw new IllegalStateException("there are 8 coupons");
        }
        int coupon = couponCount;
        coupons[coupon].become(kind, value, categories, minimum, group);
        couponCount++;
        return coupon;
    }

    public int setUses(int coupon, int uses) throws IndexOutOfBoundsException, IllegalArgumentException {
        needCoupon(coupon);
        if (uses < 0 || uses > TOP_USES) {
            throw new IllegalArgumentException("a coupon has 0 to 9 uses");
        }
        int before = coupons[coupon].uses;
        coupons[coupon].uses = uses;
        return before;
    }

    public int matching(int coupon) throws IndexOutOfBoundsException {
        needCoupon(coupon);
        return basket.pricesIn(coupons[coupon].categories);
    }

    public boolean fits(int coupon) throws IndexOutOfBoundsException {
        needCoupon(coupon);
        return coupons[coupon].isUsableFor(basket);
    }

    public int missing(int coupon) throws IndexOutOfBoundsException {
        needCoupon(coupon);
        int less = coupons[coupon].minimum - basket.pricesIn(coupons[coupon].categories);
        return Math.max(less, 0);
    }

    public boolean isAllowed(int coupons) throws IllegalArgumentException {
        needCoupons(coupons);
        return isSetAllowed(coupons);
    }

    // ---- what the basket costs

    public int goods(int coupons) throws IllegalArgumentException, IllegalStateException {
        needCoupons(coupons);
        needAllowed(coupons);
        return goodsOf(basket, coupons);
    }

    public int total(int coupons) throws IllegalArgumentException, IllegalStateException {
        needCoupons(coupons);
        needAllowed(coupons);
        int goods = goodsOf(basket, coupons);
        return goods + feeFor(coupons, goods);
    }

    public int rest(int coupons, int article)
            throws IllegalArgumentException, IndexOutOfBoundsException, IllegalStateException {
        needCoupons(coupons);
        needArticle(article);
        needAllowed(coupons);
        layAndApply(basket, coupons);
        return tray.restsOfArticle(article);
    }

    public int best() {
        searchSets(0);
        return search.bestSet;
    }

    public int worth(int coupon) throws IndexOutOfBoundsException {
        needCoupon(coupon);
        searchSets(1 << coupon);
        return search.leastWithout - search.leastTotal;
    }

    // ---- orders

    public int buy(int coupons) throws IllegalArgumentException, IllegalStateException {
        needCoupons(coupons);
        needAllowed(coupons);
        if (basket.countOfPieces() == 0) {
            throw new IllegalStateException("the basket is empty");
        }
        if (orderCount >= ORDERS) {
            throw new IllegalStateException("there are 12 orders");
        }
        int number = orderCount;
        int goods = goodsOf(basket, coupons);
        orders[number].become(basket, coupons, feeFor(coupons, goods), goods);
        orderCount++;
        useUp(coupons);
        basket.removeAllPieces();
        return number;
    }

    public int giveBack(int order, int article, int pieces)
            throws IndexOutOfBoundsException, IllegalArgumentException {
        needOrder(order);
        needArticle(article);
        Order from = orders[order];
        if (pieces < 1 || pieces > from.lot.counts[article]) {
            throw new IllegalArgumentException("the order has not so many pieces, or less than 1 is told");
        }
        from.lot.counts[article] -= pieces;
        from.acting = stillReached(from);
        int goods = goodsOf(from.lot, from.acting);
        if (goods >= from.paid) {
            return 0;
        }
        int back = from.paid - goods;
        from.paid = goods;
        return back;
    }

    public int orderCount() {
        return orderCount;
    }

    public int order(int order, int what) throws IndexOutOfBoundsException {
        needOrder(order);
        if (what < 0 || what >= ORDER_NUMBERS) {
            throw new IndexOutOfBoundsException("an order tells the numbers 0 to 4");
        }
        return orders[order].tell(what);
    }

    public int pieces(int order, int article) throws IndexOutOfBoundsException {
        needOrder(order);
        needArticle(article);
        return orders[order].lot.counts[article];
    }

    public double level() {
        int paid = 0;
        int prices = 0;
        for (int k = 0; k < orderCount; k++) {
            paid += orders[k].paid;
            prices += orders[k].lot.pricesIn(ALL_CATEGORIES);
        }
        if (prices == 0) {
            return 1.0;
        }
        return (double) paid / (double) prices;
    }

    public long digest() {
        long d = digestArticles(DIGEST_START);
        d = mix(mix(d, fee), limit);
        d = digestCoupons(d);
        return digestOrders(d);
    }

    // ---- what the calls ask of their arguments

    private void needArticle(int article) {
        if (article < 0 || article >= articleCount) {
            throw new IndexOutOfBoundsException("no such article");
        }
    }

    private void needCoupon(int coupon) {
        if (coupon < 0 || coupon >= couponCount) {
            throw new IndexOutOfBoundsException("no such coupon");
        }
    }

    private void needOrder(int order) {
        if (order < 0 || order >= orderCount) {
            throw new IndexOutOfBoundsException("no such order");
        }
    }

    private static void needPrice(int price) {
        if (price < 1 || price > TOP_PRICE) {
            throw new IllegalArgumentException("a price is 1 to 10000");
        }
    }

    private void needCoupons(int set) {
        // A negative number has the highest bit, and there is no coupon of that number.
        if (set < 0 || set >= 1 << couponCount) {
            throw new IllegalArgumentException("the set contains something that is no coupon");
        }
    }

    private void needAllowed(int set) {
        if (!isSetAllowed(set)) {
            throw new IllegalStateException("the set is not allowed for the basket");
        }
    }

    private static boolean isValueOfKind(int kind, int value) {
        switch (kind) {
            case PERCENT:
                return value >= 1 && value <= 100;
            case AMOUNT:
                return value >= 1 && value <= 100000;
            case BUNDLE:
                return value >= 2 && value <= 9;
            case FREIGHT:
                return value == 0;
            default:
                return false;
        }
    }

    // ---- sets of coupons

    private static boolean contains(int set, int coupon) {
        return ((set >> coupon) & 1) != 0;
    }

    private boolean isSetAllowed(int set) {
        for (int k = 0; k < couponCount; k++) {
            if (contains(set, k)) {
                int earlier = set & ((1 << k) - 1);
                if (!coupons[k].isUsableFor(basket) || !isGroupFree(k, earlier)) {
                    return false;
                }
            }
        }
        return true;
    }

    private boolean isGroupFree(int coupon, int set) {
        int group = coupons[coupon].group;
        if (group == 0) {
            return true;
        }
        for (int k = 0; k < couponCount; k++) {
            if (contains(set, k) && coupons[k].group == group) {
                return false;
            }
        }
        return true;
    }

    private int usableForBasket() {
        int set = 0;
        for (int k = 0; k < couponCount; k++) {
            if (coupons[k].isUsableFor(basket)) {
                set |= 1 << k;
            }
        }
        return set;
    }

    private int stillReached(Order order) {
        int set = 0;
        for (int k = 0; k < couponCount; k++) {
            if (contains(order.acting, k) && coupons[k].isReachedBy(order.lot)) {
                set |= 1 << k;
            }
        }
        return set;
    }

    private void useUp(int set) {
        for (int k = 0; k < couponCount; k++) {
            if (contains(set, k)) {
                coupons[k].uses--;
            }
        }
    }

    // ---- goods and fee

    private void layAndApply(Lot lot, int set) {
        tray.lay(lot);
        for (int k = 0; k < couponCount; k++) {
            if (contains(set, k)) {
                tray.apply(coupons[k], 0);
            }
        }
    }

    private int goodsOf(Lot lot, int set) {
        layAndApply(lot, set);
        return tray.restsInRow(0);
    }

    private int feeFor(int set, int goods) {
        if (goods >= limit || basket.countOfPieces() == 0 || hasFreight(set)) {
            return 0;
        }
        return fee;
    }

    private boolean hasFreight(int set) {
        for (int k = 0; k < couponCount; k++) {
            if (contains(set, k) && coupons[k].kind == FREIGHT) {
                return true;
            }
        }
        return false;
    }

    // ---- the search for the best set

    private void searchSets(int leftOut) {
        search.begin(leftOut, usableForBasket());
        tray.lay(basket);
        extend(this, 0, 0, 0);
    }

    /**
     * Offers the set, whose rests stand in the row of this depth, and all allowed sets that have
     * some coupons from next on in addition. A row for each depth saves applying the coupons that
     * many sets have in common again and again.
     */
    private static void extend(CouponDesk desk, int set, int next, int depth) {
        int goods = desk.tray.restsInRow(depth);
        desk.search.offer(set, goods + desk.feeFor(set, goods));
        if (depth >= COUPONS) {
            return;
        }
        for (int k = next; k < desk.couponCount; k++) {
            if (contains(desk.search.usable, k) && desk.isGroupFree(k, set)) {
                desk.tray.copyRow(depth, depth + 1);
                desk.tray.apply(desk.coupons[k], depth + 1);
                extend(desk, set | (1 << k), k + 1, depth + 1);
            }
        }
    }

    // ---- the checksum

    private static long mix(long d, int x) {
        return d * DIGEST_FACTOR + x;
    }

    private long digestArticles(long start) {
        long d = mix(start, articleCount);
        for (int k = 0; k < articleCount; k++) {
            d = mix(d, basket.prices[k]);
            d = mix(d, basket.categories[k]);
            d = mix(d, basket.counts[k]);
        }
        return d;
    }

    private long digestCoupons(long start) {
        long d = mix(start, couponCount);
        for (int k = 0; k < couponCount; k++) {
            d = mix(d, coupons[k].kind);
            d = mix(d, coupons[k].value);
            d = mix(d, coupons[k].categories);
            d = mix(d, coupons[k].minimum);
            d = mix(d, coupons[k].group);
            d = mix(d, coupons[k].uses);
        }
        return d;
    }

    private long digestOrders(long start) {
        long d = mix(start, orderCount);
        for (int k = 0; k < orderCount; k++) {
            for (int what = 0; what < ORDER_NUMBERS; what++) {
                d = mix(d, orders[k].tell(what));
            }
        }
        return d;
    }

    /** Pieces of articles with their prices: the basket, or what an order has. */
    private static final class Lot {
        private final int[] prices = new int[ARTICLES];
        private final int[] categories = new int[ARTICLES];
        private final int[] counts = new int[ARTICLES];

        private int pricesIn(int categorySet) {
            int sum = 0;
            // Articles that do not exist yet have no pieces, so they need no test of their own.
            for (int a = 0; a < ARTICLES; a++) {
                if (((categorySet >> categories[a]) & 1) != 0) {
                    sum += prices[a] * counts[a];
                }
            }
            return sum;
        }

        private int countOfPieces() {
            int sum = 0;
            for (int a = 0; a < ARTICLES; a++) {
                sum += counts[a];
            }
            return sum;
        }

        private void copyFrom(Lot other) {
            System.arraycopy(other.prices, 0, prices, 0, ARTICLES);
            System.arraycopy(other.categories, 0, categories, 0, ARTICLES);
            System.arraycopy(other.counts, 0, counts, 0, ARTICLES);
        }

        private void removeAllPieces() {
            Arrays.fill(counts, 0);
        }
    }

    /** A coupon; nothing of it but its uses changes once it has been added. */
    private static final class Coupon {
        private int kind = PERCENT;
        private int value = 0;
        private int categories = 0;
        private int minimum = 0;
        private int group = 0;
        private int uses = 0;

        private void become(int newKind, int newValue, int newCategories, int newMinimum, int newGroup) {
            kind = newKind;
            value = newValue;
            categories = newCategories;
            minimum = newMinimum;
            group = newGroup;
            uses = TOP_USES;
        }

        private boolean isMatchedBy(int category) {
            return ((categories >> category) & 1) != 0;
        }

        private boolean isReachedBy(Lot lot) {
            int prices = lot.pricesIn(categories);
            // A price is at least 1, so a sum above 0 says that at least one piece matches.
            return prices > 0 && prices >= minimum;
        }

        private boolean isUsableFor(Lot lot) {
            return uses > 0 && isReachedBy(lot);
        }
    }

    /** A basket that was bought, less what came back. */
    private static final class Order {
        private final Lot lot = new Lot();
        private int acting = 0;
        private int fee = 0;
        private int paid = 0;

        private void become(Lot bought, int coupons, int feePaid, int goodsPaid) {
            lot.copyFrom(bought);
            acting = coupons;
            fee = feePaid;
            paid = goodsPaid;
        }

        private int tell(int what) {
            switch (what) {
                case 0:
                    return paid;
                case 1:
                    return fee;
                case 2:
                    return acting;
                case 3:
                    return lot.countOfPieces();
                default:
                    return lot.pricesIn(ALL_CATEGORIES);
            }
        }
    }

    /**
     * The pieces of a lot laid out one by one, in their order, with their rests. There are several
     * rows of rests for the same pieces, so that the search can go back to an earlier one.
     */
    private static final class Tray {
        private final int[] articles = new int[PIECES_IN_ALL];
        private final int[] categories = new int[PIECES_IN_ALL];
        private final int[][] rests = new int[COUPONS + 1][PIECES_IN_ALL];
        private final int[] ranking = new int[PIECES_IN_ALL];
        private int count = 0;

        private void lay(Lot lot) {
            int laid = 0;
            for (int a = 0; a < ARTICLES; a++) {
                for (int p = 0; p < lot.counts[a] && laid < PIECES_IN_ALL; p++) {
                    articles[laid] = a;
                    categories[laid] = lot.categories[a];
                    rests[0][laid] = lot.prices[a];
                    laid++;
                }
            }
            count = laid;
        }

        private void copyRow(int from, int to) {
            System.arraycopy(rests[from], 0, rests[to], 0, count);
        }

        private int restsInRow(int row) {
            int[] rest = rests[row];
            int sum = 0;
            for (int i = 0; i < count; i++) {
                sum += rest[i];
            }
            return sum;
        }

        private int restsOfArticle(int article) {
            int sum = 0;
            for (int i = 0; i < count; i++) {
                if (articles[i] == article) {
                    sum += rests[0][i];
                }
            }
            return sum;
        }

        private void apply(Coupon coupon, int row) {
            switch (coupon.kind) {
                case PERCENT:
                    takePercent(coupon, rests[row]);
                    break;
                case AMOUNT:
                    takeAmount(coupon, rests[row]);
                    break;
                case BUNDLE:
                    takeBundles(coupon, rests[row]);
                    break;
                default:
                    // FREIGHT leaves the rests as they are: it acts on the fee alone.
                    break;
            }
        }

        private void takePercent(Coupon coupon, int[] rest) {
            for (int i = 0; i < count; i++) {
                if (coupon.isMatchedBy(categories[i])) {
                    rest[i] -= rest[i] * coupon.value / 100;
                }
            }
        }

        private void takeAmount(Coupon coupon, int[] rest) {
            int sum = matchedRests(coupon, rest);
            if (sum <= 0) {
                return;
            }
            int amount = Math.min(sum, coupon.value);
            int left = amount;
            for (int i = 0; i < count; i++) {
                if (coupon.isMatchedBy(categories[i])) {
                    int share = (int) ((long) rest[i] * amount / sum);
                    rest[i] -= share;
                    left -= share;
                }
            }
            takeOnes(coupon, rest, left);
        }

        private int matchedRests(Coupon coupon, int[] rest) {
            int sum = 0;
            for (int i = 0; i < count; i++) {
                if (coupon.isMatchedBy(categories[i])) {
                    sum += rest[i];
                }
            }
            return sum;
        }

        // One round is enough: what the cuts leave is less than the number of pieces with a rest.
        private void takeOnes(Coupon coupon, int[] rest, int amount) {
            int left = amount;
            for (int i = 0; i < count && left > 0; i++) {
                if (rest[i] > 0 && coupon.isMatchedBy(categories[i])) {
                    rest[i]--;
                    left--;
                }
            }
        }

        private void takeBundles(Coupon coupon, int[] rest) {
            int ranked = rankMatched(coupon, rest);
            int place = 0;
            for (int r = 0; r < ranked; r++) {
                place++;
                if (place == coupon.value) {
                    rest[ranking[r]] = 0;
                    place = 0;
                }
            }
        }

        /** Ranks the pieces that match, the greatest rest first; equal ones keep their order. */
        private int rankMatched(Coupon coupon, int[] rest) {
            int ranked = 0;
            for (int i = 0; i < count; i++) {
                if (coupon.isMatchedBy(categories[i])) {
                    int r = ranked;
                    while (r > 0 && rest[ranking[r - 1]] < rest[i]) {
                        ranking[r] = ranking[r - 1];
                        r--;
                    }
                    ranking[r] = i;
                    ranked++;
                }
            }
            return ranked;
        }
    }

    /** What a search looks at, and the best that it has been offered so far. */
    private static final class Search {
        private int leftOut = 0;
        private int usable = 0;
        private int bestSet = 0;
        private int leastTotal = ABOVE_EVERY_TOTAL;
        private int leastWithout = ABOVE_EVERY_TOTAL;

        private void begin(int couponsLeftOut, int usableCoupons) {
            leftOut = couponsLeftOut;
            usable = usableCoupons;
            bestSet = 0;
            leastTotal = ABOVE_EVERY_TOTAL;
            leastWithout = ABOVE_EVERY_TOTAL;
        }

        private void offer(int set, int price) {
            if ((set & leftOut) == 0) {
                leastWithout = Math.min(leastWithout, price);
            }
            if (isBetter(set, price)) {
                bestSet = set;
                leastTotal = price;
            }
        }

        private boolean isBetter(int set, int price) {
            if (price != leastTotal) {
                return price < leastTotal;
            }
            int more = Integer.bitCount(set) - Integer.bitCount(bestSet);
            return more < 0 || (more == 0 && set < bestSet);
        }
    }
}
