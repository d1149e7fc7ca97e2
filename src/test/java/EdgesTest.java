import java.math.BigInteger;
import java.util.ArrayList;
import java.util.List;

/**
 * Each sentence of the document that names a boundary (too small, too large, empty, full, a
 * wrap-around, a refused call) has a test of its own here, on both sides of the boundary. After a
 * refused call, everything that a desk can tell is compared with a desk that did not get the call.
 */
public final class EdgesTest {
    private static final String ARGUMENT = "throws.IllegalArgumentException";
    private static final String STATE = "throws.IllegalStateException";
    private static final String INDEX = "throws.IndexOutOfBoundsException";
    private static final int MIN = Integer.MIN_VALUE;
    private static final int MAX = Integer.MAX_VALUE;

    private static int wrong = 0;
    private static String sentence = "";

    private interface Build {
        CouponDesk make();
    }

    private interface Call {
        Object on(CouponDesk x);
    }

    private interface CallWith {
        Object on(CouponDesk x, int argument);
    }

    // ---- what is due

    private static Object answerOf(CouponDesk x, Call call) {
        try {
            return call.on(x);
        } catch (RuntimeException e) {
            return "throws." + e.getClass().getSimpleName();
        }
    }

    private static void due(String what, Object want, Object got) {
        if (!want.equals(got)) {
            wrong++;
            System.out.println(sentence + "\n    " + what + " answered " + got + ", due is " + want);
        }
    }

    private static void due(String what, Object want, CouponDesk x, Call call) {
        due(what, want, answerOf(x, call));
    }

    private static void refused(String what, String want, Build build, Call call) {
        CouponDesk x = build.make();
        due(what, want, x, call);
        due("what the desk tells after " + what, told(build.make()), told(x));
    }

    private static void taken(String what, Build build, Call call) {
        Object got = answerOf(build.make(), call);
        if (got.toString().startsWith("throws.")) {
            due(what, "an answer", got);
        }
    }

    /** From least to most the argument is taken; outside it the call is refused. */
    private static void bounds(String what, String want, int least, int most, Build build, CallWith call) {
        for (int in : new int[] {least, least + (most - least) / 2, most}) {
            taken(what + " " + in, build, x -> call.on(x, in));
        }
        for (int out : new int[] {least - 1, most + 1, -1 - most, 256 + most, MIN, MAX}) {
            if (out < least || out > most) {
                refused(what + " " + out, want, build, x -> call.on(x, out));
            }
        }
    }

    private static void outside(String what, String want, int[] outs, Build build, CallWith call) {
        for (int out : outs) {
            refused(what + " " + out, want, build, x -> call.on(x, out));
        }
    }

    /** Everything that a desk with a few articles, coupons and orders tells, in less than 300 calls. */
    private static List<Object> told(CouponDesk x) {
        List<Object> told = new ArrayList<>();
        told.add(x.digest());
        told.add(x.value());
        told.add(x.best());
        told.add(x.level());
        told.add(x.orderCount());
        for (int k = 0; k < 8; k++) {
            int n = k;
            told.add(answerOf(x, d -> d.matching(n)));
            told.add(answerOf(x, d -> d.fits(n)));
            told.add(answerOf(x, d -> d.missing(n)));
            told.add(answerOf(x, d -> d.worth(n)));
            told.add(answerOf(x, d -> d.isAllowed(n)));
            told.add(answerOf(x, d -> d.goods(n)));
            told.add(answerOf(x, d -> d.total(n)));
            for (int a = 0; a < 4; a++) {
                int article = a;
                told.add(answerOf(x, d -> d.rest(n, article)));
            }
        }
        for (int o = 0; o < 12; o++) {
            int order = o;
            for (int k = 0; k < 5; k++) {
                int n = k;
                told.add(answerOf(x, d -> d.order(order, n)));
                told.add(answerOf(x, d -> d.pieces(order, n)));
            }
        }
        return told;
    }

    // ---- desks

    private static CouponDesk with(int[]... pricesCategoriesPieces) {
        CouponDesk x = new CouponDesk();
        for (int[] a : pricesCategoriesPieces) {
            x.put(x.addArticle(a[0], a[1]), a[2]);
        }
        return x;
    }

    private static CouponDesk one(int price, int pieces) {
        return with(new int[] {price, 0, pieces});
    }

    /** Three articles, three coupons, two orders of which a part came back, and a basket. */
    private static CouponDesk busy() {
        CouponDesk x = with(new int[] {100, 0, 3}, new int[] {40, 1, 2}, new int[] {7, 2, 0});
        x.setShipping(20, 500);
        x.addCoupon(0, 10, 1, 200, 1);
        x.addCoupon(1, 33, 3, 0, 0);
        x.addCoupon(3, 0, 2, 80, 1);
        x.buy(3);
        x.giveBack(0, 0, 2);
        x.put(1, 2);
        x.buy(4);
        x.put(0, 2);
        x.put(1, 1);
        x.put(2, 6);
        x.setUses(2, 1);
        return x;
    }

    private static CouponDesk fullOfArticles() {
        CouponDesk x = new CouponDesk();
        for (int k = 0; k < 10; k++) {
            x.put(x.addArticle(10000, k % 8), 6);
        }
        return x;
    }

    private static CouponDesk fullOfCoupons() {
        CouponDesk x = one(100, 2);
        for (int k = 0; k < 8; k++) {
            x.addCoupon(1, 1 + k, 1, 0, 0);
        }
        return x;
    }

    private static CouponDesk fullOfOrders() {
        CouponDesk x = one(100, 1);
        x.addCoupon(1, 5, 1, 0, 0);
        for (int k = 0; k < 12; k++) {
            x.put(0, 1);
            x.buy(0);
        }
        x.put(0, 1);
        return x;
    }

    private static int[] setsFrom(int first) {
        return new int[] {first, first + 1, first | 1 << 30, 256, 1 << 8 | 1, 1 << 30, -1, MIN, MIN | 1, MAX};
    }

    // ---- articles and the basket

    private static void atMostTenArticles() {
        CouponDesk x = new CouponDesk();
        for (int k = 0; k < 10; k++) {
            due("article " + k, k, x, d -> d.addArticle(1, 0));
        }
        due("the tenth exists", 0, x, d -> d.put(9, 6));
        due("its price", 6, x.value());
    }

    private static void priceOfAnArticle() {
        bounds("addArticle, price", ARGUMENT, 1, 10000, EdgesTest::busy, (x, price) -> x.addArticle(price, 0));
        CouponDesk least = one(1, 1);
        CouponDesk most = one(10000, 1);
        due("the least price", 1, least.value());
        due("the greatest price", 10000, most.value());
    }

    private static void categoryOfAnArticle() {
        bounds("addArticle, category", ARGUMENT, 0, 7, EdgesTest::busy, (x, category) -> x.addArticle(5, category));
        for (int category = 0; category < 8; category++) {
            CouponDesk x = with(new int[] {5, category, 1});
            x.addCoupon(3, 0, 1 << category, 0, 0);
            x.addCoupon(3, 0, 255, 0, 0);
            due("its own category " + category, 5, x, d -> d.matching(0));
            due("all categories, " + category, 5, x, d -> d.matching(1));
            if (category != 3) {
                x.addCoupon(3, 0, 255 - (1 << category), 0, 0);
                due("all but category " + category, 0, x, d -> d.matching(2));
            }
        }
    }

    private static void tenArticlesAreFull() {
        refused("the eleventh", STATE, EdgesTest::fullOfArticles, x -> x.addArticle(1, 0));
        refused("the eleventh again", STATE, EdgesTest::fullOfArticles, x -> x.addArticle(10000, 7));
    }

    private static void noSuchArticle() {
        bounds("setPrice, article", INDEX, 0, 2, EdgesTest::busy, (x, article) -> x.setPrice(article, 5));
        bounds("put, article", INDEX, 0, 2, EdgesTest::busy, (x, article) -> x.put(article, 5));
        bounds("rest, article", INDEX, 0, 2, EdgesTest::busy, (x, article) -> x.rest(0, article));
        bounds("pieces, article", INDEX, 0, 2, EdgesTest::busy, (x, article) -> x.pieces(0, article));
        bounds("setPrice, article of ten", INDEX, 0, 9, EdgesTest::fullOfArticles, (x, a) -> x.setPrice(a, 5));
        bounds("put, article of ten", INDEX, 0, 9, EdgesTest::fullOfArticles, (x, a) -> x.put(a, 5));
        bounds("rest, article of ten", INDEX, 0, 9, EdgesTest::fullOfArticles, (x, a) -> x.rest(0, a));
        int[] all = {0, 1, 9, 10, -1, MIN, MAX};
        outside("setPrice, no articles", INDEX, all, CouponDesk::new, (x, article) -> x.setPrice(article, 5));
        outside("put, no articles", INDEX, all, CouponDesk::new, (x, article) -> x.put(article, 0));
        outside("rest, no articles", INDEX, all, CouponDesk::new, (x, article) -> x.rest(0, article));
    }

    private static void priceThatIsSet() {
        bounds("setPrice, price", ARGUMENT, 1, 10000, EdgesTest::busy, (x, price) -> x.setPrice(0, price));
        CouponDesk x = one(10000, 6);
        due("the greatest price before", 10000, x, d -> d.setPrice(0, 1));
        due("with the least price", 6, x.value());
        due("the least price before", 1, x, d -> d.setPrice(0, 10000));
        due("with the greatest price", 60000, x.value());
    }

    private static void piecesInTheBasket() {
        bounds("put, pieces", ARGUMENT, 0, 6, EdgesTest::busy, (x, pieces) -> x.put(0, pieces));
        CouponDesk x = new CouponDesk();
        x.addArticle(5, 0);
        due("0 at first", 0, x, d -> d.put(0, 6));
        due("all six", 6, x, d -> d.put(0, 0));
        due("none again", 0, x, d -> d.put(0, 0));
    }

    private static void emptyAndFullValue() {
        due("a new desk", 0, new CouponDesk().value());
        due("articles without pieces", 0, one(10000, 0).value());
        due("60 pieces of 10000", 600000, fullOfArticles().value());
        CouponDesk x = fullOfArticles();
        x.buy(0);
        due("after it was bought", 0, x.value());
        due("its 60 pieces", 60, x, d -> d.order(0, 3));
        due("their prices", 600000, x, d -> d.order(0, 4));
        due("what was paid", 600000, x, d -> d.order(0, 0));
    }

    private static void fee() {
        bounds("setShipping, fee", ARGUMENT, 0, 10000, EdgesTest::busy, (x, fee) -> x.setShipping(fee, 7));
        CouponDesk x = one(5, 1);
        due("0 at first", 0, x, d -> d.setShipping(10000, 1000000));
        due("the greatest fee", 10005, x, d -> d.total(0));
        due("it is told", 10000, x, d -> d.setShipping(0, 1000000));
        due("no fee", 5, x, d -> d.total(0));
    }

    private static void limit() {
        bounds("setShipping, limit", ARGUMENT, 0, 1000000, EdgesTest::busy, (x, limit) -> x.setShipping(7, limit));
        CouponDesk x = fullOfArticles();
        x.setShipping(9, 600000);
        due("the goods are the limit", 600000, x, d -> d.total(0));
        x.setShipping(9, 600001);
        due("the goods are 1 less", 600009, x, d -> d.total(0));
        x.setShipping(9, 1000000);
        due("the greatest limit is never reached", 600009, x, d -> d.total(0));
        x.setShipping(9, 599999);
        due("the goods are 1 more", 600000, x, d -> d.total(0));
        CouponDesk free = one(5, 1);
        free.addCoupon(0, 100, 1, 0, 0);
        free.setShipping(9, 0);
        due("goods of 0 are at least a limit of 0", 0, free, d -> d.total(1));
        free.setShipping(9, 1);
        due("goods of 0 are less than a limit of 1", 9, free, d -> d.total(1));
    }

    private static void feeOfNothing() {
        CouponDesk x = one(5, 0);
        x.setShipping(9, 1000000);
        due("an empty basket", 0, x, d -> d.total(0));
        x.put(0, 1);
        due("one piece", 14, x, d -> d.total(0));
        x.addCoupon(3, 0, 1, 0, 0);
        due("freight", 5, x, d -> d.total(1));
        due("freight takes nothing off", 5, x, d -> d.goods(1));
        x.addCoupon(0, 100, 1, 0, 0);
        due("a basket of no cost is not empty", 9, x, d -> d.total(2));
        x.buy(2);
        due("nor is it when it is bought", 9, x, d -> d.order(0, 1));
        due("a desk without articles", 0, new CouponDesk().total(0));
    }

    // ---- coupons

    private static void atMostEightCoupons() {
        CouponDesk x = one(100, 1);
        for (int k = 0; k < 8; k++) {
            due("coupon " + k, k, x, d -> d.addCoupon(3, 0, 1, 0, 0));
        }
        due("the eighth exists", true, x, d -> d.fits(7));
        due("a set of it alone", true, x, d -> d.isAllowed(128));
    }

    private static void eightCouponsAreFull() {
        refused("the ninth", STATE, EdgesTest::fullOfCoupons, x -> x.addCoupon(0, 1, 1, 0, 0));
        refused("the ninth again", STATE, EdgesTest::fullOfCoupons, x -> x.addCoupon(3, 0, 255, 1000000, 3));
    }

    private static void kind() {
        int[] valueOf = {5, 5, 5, 0};
        for (int k = 0; k < 4; k++) {
            int n = k;
            taken("addCoupon, kind " + k, EdgesTest::busy, x -> x.addCoupon(n, valueOf[n], 1, 0, 0));
        }
        int[] outs = {-1, 4, 5, 8, MIN, MAX};
        outside("addCoupon, kind", ARGUMENT, outs, EdgesTest::busy, (x, kind) -> x.addCoupon(kind, 0, 1, 0, 0));
        outside("addCoupon, kind", ARGUMENT, outs, EdgesTest::busy, (x, kind) -> x.addCoupon(kind, 5, 1, 0, 0));
    }

    private static void valueOfPercent() {
        bounds("PERCENT", ARGUMENT, 1, 100, EdgesTest::busy, (x, value) -> x.addCoupon(0, value, 1, 0, 0));
    }

    private static void valueOfAmount() {
        bounds("AMOUNT", ARGUMENT, 1, 100000, EdgesTest::busy, (x, value) -> x.addCoupon(1, value, 1, 0, 0));
    }

    private static void valueOfBundle() {
        bounds("BUNDLE", ARGUMENT, 2, 9, EdgesTest::busy, (x, value) -> x.addCoupon(2, value, 1, 0, 0));
    }

    private static void valueOfFreight() {
        bounds("FREIGHT", ARGUMENT, 0, 0, EdgesTest::busy, (x, value) -> x.addCoupon(3, value, 1, 0, 0));
    }

    private static void categoriesOfACoupon() {
        bounds("addCoupon, categories", ARGUMENT, 1, 255, EdgesTest::busy, (x, set) -> x.addCoupon(3, 0, set, 0, 0));
    }

    private static void minimum() {
        bounds("addCoupon, minimum", ARGUMENT, 0, 1000000, EdgesTest::busy, (x, min) -> x.addCoupon(3, 0, 1, min, 0));
    }

    private static void group() {
        bounds("addCoupon, group", ARGUMENT, 0, 3, EdgesTest::busy, (x, group) -> x.addCoupon(3, 0, 1, 0, group));
    }

    private static void uses() {
        bounds("setUses, uses", ARGUMENT, 0, 9, EdgesTest::busy, (x, uses) -> x.setUses(0, uses));
        CouponDesk x = one(100, 1);
        x.addCoupon(1, 5, 1, 0, 0);
        due("9 at first", 9, x, d -> d.setUses(0, 9));
        for (int k = 0; k < 9; k++) {
            x.put(0, 1);
            due("use " + k, k, x, d -> d.buy(1));
        }
        x.put(0, 1);
        due("after nine uses", false, x, d -> d.fits(0));
        due("a tenth use", STATE, x, d -> d.buy(1));
        due("none is left", 0, x, d -> d.setUses(0, 9));
    }

    private static void noSuchCoupon() {
        bounds("setUses, coupon", INDEX, 0, 2, EdgesTest::busy, (x, coupon) -> x.setUses(coupon, 5));
        bounds("matching, coupon", INDEX, 0, 2, EdgesTest::busy, (x, coupon) -> x.matching(coupon));
        bounds("fits, coupon", INDEX, 0, 2, EdgesTest::busy, (x, coupon) -> x.fits(coupon));
        bounds("missing, coupon", INDEX, 0, 2, EdgesTest::busy, (x, coupon) -> x.missing(coupon));
        bounds("worth, coupon", INDEX, 0, 2, EdgesTest::busy, (x, coupon) -> x.worth(coupon));
        bounds("setUses, coupon of eight", INDEX, 0, 7, EdgesTest::fullOfCoupons, (x, c) -> x.setUses(c, 5));
        bounds("matching, coupon of eight", INDEX, 0, 7, EdgesTest::fullOfCoupons, (x, c) -> x.matching(c));
        bounds("fits, coupon of eight", INDEX, 0, 7, EdgesTest::fullOfCoupons, (x, c) -> x.fits(c));
        bounds("missing, coupon of eight", INDEX, 0, 7, EdgesTest::fullOfCoupons, (x, c) -> x.missing(c));
        bounds("worth, coupon of eight", INDEX, 0, 7, EdgesTest::fullOfCoupons, (x, c) -> x.worth(c));
        int[] all = {0, 1, 7, 8, 32, -1, MIN, MAX};
        outside("setUses, no coupons", INDEX, all, CouponDesk::new, (x, coupon) -> x.setUses(coupon, 5));
        outside("matching, no coupons", INDEX, all, CouponDesk::new, (x, coupon) -> x.matching(coupon));
        outside("fits, no coupons", INDEX, all, CouponDesk::new, (x, coupon) -> x.fits(coupon));
        outside("missing, no coupons", INDEX, all, CouponDesk::new, (x, coupon) -> x.missing(coupon));
        outside("worth, no coupons", INDEX, all, CouponDesk::new, (x, coupon) -> x.worth(coupon));
    }

    private static void matchingNothingAndAll() {
        CouponDesk x = fullOfArticles();
        x.addCoupon(3, 0, 255, 0, 0);
        x.addCoupon(3, 0, 128, 0, 0);
        due("all 60 pieces", 600000, x, d -> d.matching(0));
        due("the six of one article", 60000, x, d -> d.matching(1));
        x.put(7, 0);
        due("none", 0, x, d -> d.matching(1));
        x.put(7, 1);
        due("one", 10000, x, d -> d.matching(1));
    }

    private static void fitsAtTheEdge() {
        CouponDesk x = with(new int[] {50, 0, 2}, new int[] {9, 1, 6});
        x.addCoupon(3, 0, 1, 100, 0);
        x.addCoupon(3, 0, 1, 101, 0);
        x.addCoupon(3, 0, 1, 99, 0);
        x.addCoupon(3, 0, 4, 0, 0);
        x.addCoupon(3, 0, 1, 0, 0);
        due("the prices are its minimum", true, x, d -> d.fits(0));
        due("the prices are 1 less", false, x, d -> d.fits(1));
        due("the prices are 1 more", true, x, d -> d.fits(2));
        due("no piece matches a minimum of 0", false, x, d -> d.fits(3));
        x.setUses(0, 1);
        due("one use is left", true, x, d -> d.fits(0));
        x.setUses(0, 0);
        due("no use is left", false, x, d -> d.fits(0));
        x.setPrice(0, 1);
        x.put(0, 1);
        due("one piece of the least price", true, x, d -> d.fits(4));
        x.put(0, 0);
        due("no piece", false, x, d -> d.fits(4));
        CouponDesk full = fullOfArticles();
        full.addCoupon(3, 0, 255, 600000, 0);
        full.addCoupon(3, 0, 255, 600001, 0);
        due("the fullest basket", true, full, d -> d.fits(0));
        due("more than the fullest basket", false, full, d -> d.fits(1));
    }

    private static void missingAtTheEdge() {
        CouponDesk x = with(new int[] {50, 0, 2}, new int[] {9, 1, 6});
        x.addCoupon(3, 0, 1, 100, 0);
        x.addCoupon(3, 0, 1, 101, 0);
        x.addCoupon(3, 0, 1, 99, 0);
        x.addCoupon(3, 0, 4, 0, 0);
        x.addCoupon(3, 0, 4, 1, 0);
        x.addCoupon(3, 0, 4, 1000000, 0);
        due("the prices are its minimum", 0, x, d -> d.missing(0));
        due("the prices are 1 less", 1, x, d -> d.missing(1));
        due("the prices are 1 more", 0, x, d -> d.missing(2));
        due("no piece, a minimum of 0", 0, x, d -> d.missing(3));
        due("no piece, a minimum of 1", 1, x, d -> d.missing(4));
        due("no piece, the greatest minimum", 1000000, x, d -> d.missing(5));
        x.setUses(1, 0);
        due("uses do not matter", 1, x, d -> d.missing(1));
        CouponDesk full = fullOfArticles();
        full.addCoupon(3, 0, 255, 1000000, 0);
        full.addCoupon(3, 0, 255, 0, 0);
        due("the fullest basket, the greatest minimum", 400000, full, d -> d.missing(0));
        due("the fullest basket, a minimum of 0", 0, full, d -> d.missing(1));
    }

    private static void somethingThatIsNoCoupon() {
        outside("isAllowed, set", ARGUMENT, setsFrom(8), EdgesTest::busy, (x, set) -> x.isAllowed(set));
        outside("goods, set", ARGUMENT, setsFrom(8), EdgesTest::busy, (x, set) -> x.goods(set));
        outside("total, set", ARGUMENT, setsFrom(8), EdgesTest::busy, (x, set) -> x.total(set));
        outside("rest, set", ARGUMENT, setsFrom(8), EdgesTest::busy, (x, set) -> x.rest(set, 0));
        outside("buy, set", ARGUMENT, setsFrom(8), EdgesTest::busy, (x, set) -> x.buy(set));
        outside("isAllowed, no coupons", ARGUMENT, setsFrom(1), CouponDesk::new, (x, set) -> x.isAllowed(set));
        outside("goods, no coupons", ARGUMENT, setsFrom(1), CouponDesk::new, (x, set) -> x.goods(set));
        outside("total, no coupons", ARGUMENT, setsFrom(1), CouponDesk::new, (x, set) -> x.total(set));
        outside("rest, no coupons", ARGUMENT, setsFrom(1), CouponDesk::new, (x, set) -> x.rest(set, 0));
        outside("buy, no coupons", ARGUMENT, setsFrom(1), CouponDesk::new, (x, set) -> x.buy(set));
        Build eight = EdgesTest::fullOfCoupons;
        bounds("isAllowed, set of eight", ARGUMENT, 0, 255, eight, (x, set) -> x.isAllowed(set));
        bounds("goods, set of eight", ARGUMENT, 0, 255, eight, (x, set) -> x.goods(set));
        bounds("total, set of eight", ARGUMENT, 0, 255, eight, (x, set) -> x.total(set));
        bounds("rest, set of eight", ARGUMENT, 0, 255, eight, (x, set) -> x.rest(set, 0));
        bounds("buy, set of eight", ARGUMENT, 0, 255, eight, (x, set) -> x.buy(set));
    }

    private static void allowedSets() {
        CouponDesk x = one(100, 1);
        x.addCoupon(3, 0, 1, 0, 0);
        x.addCoupon(3, 0, 1, 0, 3);
        x.addCoupon(3, 0, 1, 0, 0);
        x.addCoupon(3, 0, 1, 0, 1);
        x.addCoupon(3, 0, 1, 0, 2);
        x.addCoupon(3, 0, 1, 101, 0);
        x.addCoupon(3, 0, 1, 0, 0);
        x.addCoupon(3, 0, 1, 0, 3);
        due("one of each group, and all of group 0", true, x, d -> d.isAllowed(1 + 2 + 4 + 8 + 16 + 64));
        due("group 0 alone", true, x, d -> d.isAllowed(1 + 4 + 64));
        due("the first and the last of group 3", false, x, d -> d.isAllowed(2 + 128));
        due("each of them alone", true, x, d -> d.isAllowed(2) && d.isAllowed(128));
        due("all of them", false, x, d -> d.isAllowed(255));
        due("one that does not fit", false, x, d -> d.isAllowed(32));
        due("one that does not fit among others", false, x, d -> d.isAllowed(1 + 32 + 64));
        x.setUses(6, 0);
        due("the last has no use left", false, x, d -> d.isAllowed(1 + 64));
    }

    private static void setWithoutCoupons() {
        due("a new desk", true, new CouponDesk().isAllowed(0));
        due("an empty basket", true, one(100, 0).isAllowed(0));
        due("eight coupons", true, fullOfCoupons().isAllowed(0));
        CouponDesk x = one(100, 1);
        x.addCoupon(3, 0, 1, 1000000, 0);
        due("no coupon fits", true, x, d -> d.isAllowed(0));
        due("its goods", 100, x, d -> d.goods(0));
        due("a new desk's goods", 0, new CouponDesk().goods(0));
        due("a new desk's total", 0, new CouponDesk().total(0));
    }

    private static void notAllowed() {
        // Of the coupons of busy(), 0 and 2 share a group, and 2 does not reach its minimum.
        outside("goods, set", STATE, new int[] {4, 5, 6, 7}, EdgesTest::busy, (x, set) -> x.goods(set));
        outside("total, set", STATE, new int[] {4, 5, 6, 7}, EdgesTest::busy, (x, set) -> x.total(set));
        outside("rest, set", STATE, new int[] {4, 5, 6, 7}, EdgesTest::busy, (x, set) -> x.rest(set, 0));
        outside("buy, set", STATE, new int[] {4, 5, 6, 7}, EdgesTest::busy, (x, set) -> x.buy(set));
        Build twoOfAGroup = () -> {
            CouponDesk x = busy();
            x.put(1, 2);
            return x;
        };
        outside("goods, group", STATE, new int[] {5, 7}, twoOfAGroup, (x, set) -> x.goods(set));
        outside("total, group", STATE, new int[] {5, 7}, twoOfAGroup, (x, set) -> x.total(set));
        outside("rest, group", STATE, new int[] {5, 7}, twoOfAGroup, (x, set) -> x.rest(set, 0));
        outside("buy, group", STATE, new int[] {5, 7}, twoOfAGroup, (x, set) -> x.buy(set));
        taken("goods(6)", twoOfAGroup, x -> x.goods(6));
        Build noUse = () -> {
            CouponDesk x = busy();
            x.setUses(1, 0);
            return x;
        };
        outside("goods, no use", STATE, new int[] {2, 3}, noUse, (x, set) -> x.goods(set));
        outside("total, no use", STATE, new int[] {2, 3}, noUse, (x, set) -> x.total(set));
        outside("rest, no use", STATE, new int[] {2, 3}, noUse, (x, set) -> x.rest(set, 0));
        outside("buy, no use", STATE, new int[] {2, 3}, noUse, (x, set) -> x.buy(set));
        Build empty = () -> {
            CouponDesk x = fullOfCoupons();
            x.put(0, 0);
            return x;
        };
        outside("goods, empty", STATE, new int[] {1, 128, 255}, empty, (x, set) -> x.goods(set));
        outside("total, empty", STATE, new int[] {1, 128, 255}, empty, (x, set) -> x.total(set));
        outside("rest, empty", STATE, new int[] {1, 128, 255}, empty, (x, set) -> x.rest(set, 0));
    }

    // ---- what coupons do

    private static int percent(int price, int value) {
        CouponDesk x = one(price, 1);
        x.addCoupon(0, value, 1, 0, 0);
        return x.goods(1);
    }

    private static void percentIsCut() {
        due("1 of 99", 99, percent(99, 1));
        due("1 of 100", 99, percent(100, 1));
        due("1 of 199", 198, percent(199, 1));
        due("99 of 1", 1, percent(1, 99));
        due("100 of 1", 0, percent(1, 100));
        due("50 of 3", 2, percent(3, 50));
        due("1 of 10000", 9900, percent(10000, 1));
        due("99 of 10000", 100, percent(10000, 99));
        due("100 of 10000", 0, percent(10000, 100));
        CouponDesk x = one(100, 1);
        x.addCoupon(0, 100, 1, 0, 0);
        x.addCoupon(0, 100, 1, 0, 0);
        due("100 of a rest of 0", 0, x, d -> d.goods(3));
    }

    private static void theSmallerOfSumAndValue() {
        CouponDesk x = with(new int[] {30, 0, 2}, new int[] {40, 1, 1}, new int[] {5, 2, 1});
        x.addCoupon(1, 99, 3, 0, 0);
        x.addCoupon(1, 100, 3, 0, 0);
        x.addCoupon(1, 101, 3, 0, 0);
        x.addCoupon(1, 100000, 3, 0, 0);
        x.addCoupon(1, 1, 3, 0, 0);
        due("1 less than the sum", 6, x, d -> d.goods(1));
        due("the sum", 5, x, d -> d.goods(2));
        due("1 more than the sum", 5, x, d -> d.goods(4));
        due("the greatest value", 5, x, d -> d.goods(8));
        due("the least value", 104, x, d -> d.goods(16));
        // 99 of 100: 30 loses 29, 40 loses 39, and 2 are missing: of the first two.
        due("the first two are free", 0, x, d -> d.rest(1, 0));
        due("the third has 1", 1, x, d -> d.rest(1, 1));
        CouponDesk y = with(new int[] {33, 0, 2}, new int[] {34, 0, 1});
        y.addCoupon(1, 50, 1, 0, 0);
        // 16.5 and 16.5 are cut to 16; 17 is not cut, and the 1 that is missing is the first one's.
        due("half of each, the first two", 33, y, d -> d.rest(1, 0));
        due("half of each, the third", 17, y, d -> d.rest(1, 1));
        CouponDesk z = one(1, 1);
        z.addCoupon(1, 1, 1, 0, 0);
        due("the least sum and the least value", 0, z, d -> d.goods(1));
        due("what does not match is left alone", 5, x, d -> d.rest(1, 2));
        CouponDesk full = fullOfArticles();
        full.addCoupon(1, 100000, 255, 0, 0);
        due("the greatest value of the fullest basket", 500000, full, d -> d.goods(1));
    }

    private static void nothingToTake() {
        CouponDesk x = with(new int[] {30, 0, 2}, new int[] {40, 1, 1});
        x.addCoupon(0, 100, 1, 0, 0);
        x.addCoupon(1, 7, 1, 0, 0);
        x.addCoupon(1, 39, 3, 0, 0);
        due("the sum is 0", 40, x, d -> d.goods(3));
        due("the matched pieces", 0, x, d -> d.rest(3, 0));
        due("the other piece", 40, x, d -> d.rest(3, 1));
        due("of another coupon the sum is not 0", 1, x, d -> d.goods(7));
    }

    private static void missingOnes() {
        CouponDesk x = with(new int[] {5, 0, 2}, new int[] {9, 1, 1}, new int[] {5, 0, 2});
        x.addCoupon(2, 4, 1, 0, 0);
        x.addCoupon(1, 1, 1, 0, 0);
        x.addCoupon(1, 3, 1, 0, 0);
        x.addCoupon(0, 100, 2, 0, 0);
        x.addCoupon(1, 2, 3, 0, 0);
        // 1 of 20 and 3 of 20 are cut to nothing for each piece.
        due("1 is missing: the first piece", 9, x, d -> d.rest(2, 0));
        due("1 is missing: no other one", 10, x, d -> d.rest(2, 2));
        due("3 are missing: the first two", 8, x, d -> d.rest(4, 0));
        due("3 are missing: not the one that does not match", 9, x, d -> d.rest(4, 1));
        due("3 are missing: the third that matches", 9, x, d -> d.rest(4, 2));
        due("a piece whose rest is 0 loses nothing", 0, x, d -> d.rest(24, 1));
        due("the pieces before it lose the 2", 8, x, d -> d.rest(24, 0));
        // The bundle leaves 5, 5, 5, 0; of these three, 3 of 15 are 1 each and nothing is missing.
        due("nothing is missing", 8, x, d -> d.rest(5, 0));
        due("nothing is missing, the rests", 4, x, d -> d.rest(5, 2));
        CouponDesk y = with(new int[] {5, 1, 1}, new int[] {5, 0, 2});
        y.addCoupon(0, 100, 2, 0, 0);
        y.addCoupon(1, 1, 3, 0, 0);
        due("the first has no rest: it stays 0", 0, y, d -> d.rest(3, 0));
        due("the second piece loses the 1", 9, y, d -> d.rest(3, 1));
    }

    private static int bundle(int value, int pieces) {
        CouponDesk x = one(10, pieces);
        x.addCoupon(2, value, 1, 0, 0);
        return x.goods(1);
    }

    private static void bundlePlaces() {
        due("1 piece, every second", 10, bundle(2, 1));
        due("2 pieces, every second", 10, bundle(2, 2));
        due("3 pieces, every second", 20, bundle(2, 3));
        due("4 pieces, every second", 20, bundle(2, 4));
        due("5 pieces, every sixth", 50, bundle(6, 5));
        due("6 pieces, every sixth", 50, bundle(6, 6));
        due("6 pieces, every seventh", 60, bundle(7, 6));
        due("6 pieces, every ninth", 60, bundle(9, 6));
        CouponDesk x = with(new int[] {10, 0, 6}, new int[] {20, 0, 2}, new int[] {99, 1, 1});
        x.addCoupon(2, 9, 1, 0, 0);
        x.addCoupon(2, 9, 3, 0, 0);
        x.addCoupon(2, 8, 1, 0, 0);
        due("8 pieces, every ninth", 199, x, d -> d.goods(1));
        due("9 pieces, every ninth: the least", 189, x, d -> d.goods(2));
        due("8 pieces, every eighth: the least", 189, x, d -> d.goods(4));
        CouponDesk full = fullOfArticles();
        full.addCoupon(2, 2, 255, 0, 0);
        full.addCoupon(2, 9, 255, 0, 0);
        due("30 of 60", 300000, full, d -> d.goods(1));
        due("6 of 60", 540000, full, d -> d.goods(2));
        // Every second of all: of six equal ones the second, fourth and sixth.
        due("half of the last article", 30000, full, d -> d.rest(1, 9));
        // Places 9, 18, 27, 36, 45 and 54 are of the articles 1, 2, 4, 5, 7 and 8.
        due("place 54", 50000, full, d -> d.rest(2, 8));
        due("place 63 is none", 60000, full, d -> d.rest(2, 9));
    }

    private static void bundleOfEqualRests() {
        CouponDesk x = with(new int[] {10, 0, 1}, new int[] {10, 0, 1}, new int[] {20, 0, 1}, new int[] {10, 0, 1});
        x.addCoupon(2, 2, 1, 0, 0);
        x.addCoupon(2, 3, 1, 0, 0);
        x.addCoupon(2, 4, 1, 0, 0);
        // The row: article 2, then 0, 1, 3.
        int[][] want = {{0, 10, 20, 0}, {10, 0, 20, 10}, {10, 10, 20, 0}};
        for (int k = 0; k < 3; k++) {
            for (int a = 0; a < 4; a++) {
                int set = 1 << k;
                int article = a;
                due("bundle " + (k + 2) + ", article " + a, want[k][a], x, d -> d.rest(set, article));
            }
        }
    }

    private static void bundleOrderedByRests() {
        CouponDesk x = with(new int[] {100, 0, 1}, new int[] {90, 1, 1});
        x.addCoupon(0, 20, 1, 0, 0);
        x.addCoupon(2, 2, 3, 0, 0);
        due("by prices the second would be free", 0, x, d -> d.rest(3, 0));
        due("by rests the first is", 90, x, d -> d.rest(3, 1));
        due("the bundle alone", 100, x, d -> d.goods(2));
        CouponDesk y = with(new int[] {10, 0, 1}, new int[] {30, 0, 1}, new int[] {20, 0, 1}, new int[] {15, 0, 1});
        y.addCoupon(2, 2, 1, 0, 0);
        // The row: 30, 20, 15, 10.
        int[] want = {0, 30, 0, 15};
        for (int a = 0; a < 4; a++) {
            int article = a;
            due("every second, article " + a, want[a], y, d -> d.rest(1, article));
        }
    }

    private static void ascendingOrder() {
        CouponDesk x = one(100, 1);
        x.addCoupon(0, 10, 1, 0, 0);
        x.addCoupon(1, 50, 1, 0, 0);
        due("percent, then amount", 40, x, d -> d.goods(3));
        CouponDesk y = one(100, 1);
        y.addCoupon(1, 50, 1, 0, 0);
        y.addCoupon(0, 10, 1, 0, 0);
        due("amount, then percent", 45, y, d -> d.goods(3));
    }

    private static void minimumByPrices() {
        CouponDesk x = one(100, 1);
        x.addCoupon(0, 100, 1, 100, 0);
        x.addCoupon(3, 0, 1, 100, 0);
        x.setShipping(9, 1000);
        due("a coupon before it takes all, and it fits still", 0, x, d -> d.total(3));
        due("both are allowed", true, x, d -> d.isAllowed(3));
    }

    // ---- the best set

    private static void bestOfSeveral() {
        due("a new desk", 0, new CouponDesk().best());
        due("no coupons", 0, one(100, 1).best());
        CouponDesk eight = fullOfCoupons();
        due("all eight", 255, eight, d -> d.best());
        eight.put(0, 0);
        due("an empty basket", 0, eight, d -> d.best());
        // 100 per cent of {0, 1}, {0, 2}, {1, 3}, {2, 3}: the first and last, or the others, take all.
        CouponDesk x = with(new int[] {9, 0, 1}, new int[] {9, 1, 1}, new int[] {9, 2, 1}, new int[] {9, 3, 1});
        x.addCoupon(0, 100, 3, 0, 0);
        x.addCoupon(0, 100, 5, 0, 0);
        x.addCoupon(0, 100, 10, 0, 0);
        x.addCoupon(0, 100, 12, 0, 0);
        due("6 is less than 9, and fewer than 7", 6, x, d -> d.best());
        x.setUses(1, 0);
        due("9 is left", 9, x, d -> d.best());
        x.setUses(1, 1);
        x.addCoupon(0, 100, 15, 36, 0);
        due("one coupon is fewer", 16, x, d -> d.best());
        x.addCoupon(0, 100, 15, 36, 0);
        due("of two, the smaller number", 16, x, d -> d.best());
        x.put(3, 0);
        due("they do not fit any more; 3 is the smallest number of two coupons", 3, x, d -> d.best());
        CouponDesk nothing = one(9, 1);
        nothing.addCoupon(0, 1, 1, 0, 0);
        nothing.addCoupon(2, 2, 1, 0, 0);
        nothing.addCoupon(3, 0, 1, 0, 0);
        due("coupons that take nothing", 0, nothing, d -> d.best());
    }

    private static void bestIsAllowed() {
        CouponDesk x = one(100, 1);
        x.addCoupon(1, 60, 1, 0, 3);
        x.addCoupon(1, 61, 1, 0, 3);
        x.addCoupon(1, 99, 1, 101, 0);
        x.addCoupon(1, 98, 2, 0, 0);
        x.addCoupon(1, 97, 1, 0, 0);
        x.setUses(4, 0);
        due("one of a group, none that does not fit", 2, x, d -> d.best());
        due("it can be bought", 0, x, d -> d.buy(2));
        CouponDesk y = fullOfCoupons();
        y.setUses(0, 0);
        due("the first has no use left", 254, y, d -> d.best());
        y.setUses(0, 1);
        y.setUses(7, 0);
        due("the last has no use left", 127, y, d -> d.best());
    }

    private static void bestMindsTheFee() {
        CouponDesk x = one(100, 1);
        x.addCoupon(1, 10, 1, 0, 0);
        x.setShipping(10, 100);
        due("10 less and a fee of 10: the fewest", 0, x, d -> d.best());
        x.setShipping(9, 100);
        due("10 less and a fee of 9", 1, x, d -> d.best());
        x.setShipping(11, 100);
        due("10 less and a fee of 11", 0, x, d -> d.best());
        x.setShipping(11, 90);
        due("10 less is the limit", 1, x, d -> d.best());
        x.setShipping(11, 91);
        due("10 less is below the limit", 0, x, d -> d.best());
    }

    private static void worthOfNothing() {
        CouponDesk x = fullOfCoupons();
        due("the last of eight", 8, x, d -> d.worth(7));
        due("the first of eight", 1, x, d -> d.worth(0));
        x.setUses(7, 1);
        due("with its last use", 8, x, d -> d.worth(7));
        due("the last use is left", 1, x, d -> d.setUses(7, 0));
        due("without a use", 0, x, d -> d.worth(7));
        x.put(0, 0);
        due("an empty basket", 0, x, d -> d.worth(0));
        CouponDesk full = fullOfArticles();
        full.setShipping(10000, 1000000);
        full.addCoupon(0, 100, 255, 600000, 0);
        full.addCoupon(3, 0, 255, 600000, 0);
        due("all goods", 600000, full, d -> d.worth(0));
        due("the greatest fee", 10000, full, d -> d.worth(1));
        CouponDesk greatest = fullOfArticles();
        greatest.setShipping(10000, 1000000);
        greatest.addCoupon(1, 1, 255, 0, 0);
        due("the greatest total", 610000, greatest, d -> d.total(0));
        due("1 less than it", 1, greatest, d -> d.worth(0));
        CouponDesk fee = one(100, 1);
        fee.setShipping(50, 100);
        fee.addCoupon(1, 10, 1, 0, 0);
        due("it would cost the fee", 0, fee, d -> d.worth(0));
    }

    // ---- orders

    private static void emptyBasketIsNotBought() {
        refused("a new desk", STATE, CouponDesk::new, x -> x.buy(0));
        Build empty = () -> {
            CouponDesk x = busy();
            x.put(0, 0);
            x.put(1, 0);
            x.put(2, 0);
            return x;
        };
        refused("an empty basket", STATE, empty, x -> x.buy(0));
        refused("an empty basket, with a coupon", STATE, empty, x -> x.buy(2));
        Build bought = () -> {
            CouponDesk x = busy();
            x.buy(3);
            return x;
        };
        refused("a basket that was bought", STATE, bought, x -> x.buy(0));
        taken("one piece", () -> one(1, 1), x -> x.buy(0));
    }

    private static void twelveOrdersAreFull() {
        CouponDesk x = one(100, 1);
        for (int k = 0; k < 12; k++) {
            x.put(0, 1);
            due("order " + k, k, x, d -> d.buy(0));
        }
        due("twelve", 12, x, d -> d.orderCount());
        refused("the thirteenth", STATE, EdgesTest::fullOfOrders, d -> d.buy(0));
        refused("the thirteenth, with a coupon", STATE, EdgesTest::fullOfOrders, d -> d.buy(1));
        Build emptied = () -> {
            CouponDesk y = fullOfOrders();
            y.giveBack(11, 0, 1);
            return y;
        };
        refused("the thirteenth, though one came back", STATE, emptied, d -> d.buy(0));
    }

    private static void buyUsesUp() {
        CouponDesk x = fullOfCoupons();
        x.setUses(7, 1);
        due("with all eight", 0, x, d -> d.buy(255));
        due("the set", 255, x, d -> d.order(0, 2));
        due("what is left of the last", 0, x, d -> d.setUses(7, 9));
        due("what is left of the first", 8, x, d -> d.setUses(0, 9));
        due("the basket is empty", 0, x, d -> d.put(0, 2));
        due("without coupons", 1, x, d -> d.buy(0));
        due("none is used up", 9, x, d -> d.setUses(0, 9));
    }

    private static void noSuchOrder() {
        bounds("giveBack, order", INDEX, 0, 1, EdgesTest::busy, (x, order) -> x.giveBack(order, 1, 1));
        bounds("order, order", INDEX, 0, 1, EdgesTest::busy, (x, order) -> x.order(order, 0));
        bounds("pieces, order", INDEX, 0, 1, EdgesTest::busy, (x, order) -> x.pieces(order, 0));
        Build twelve = EdgesTest::fullOfOrders;
        bounds("giveBack, order of twelve", INDEX, 0, 11, twelve, (x, order) -> x.giveBack(order, 0, 1));
        bounds("order, order of twelve", INDEX, 0, 11, twelve, (x, order) -> x.order(order, 0));
        bounds("pieces, order of twelve", INDEX, 0, 11, twelve, (x, order) -> x.pieces(order, 0));
        int[] all = {0, 1, 11, 12, -1, MIN, MAX};
        Build none = () -> one(100, 1);
        outside("giveBack, no orders", INDEX, all, none, (x, order) -> x.giveBack(order, 0, 1));
        outside("order, no orders", INDEX, all, none, (x, order) -> x.order(order, 0));
        outside("pieces, no orders", INDEX, all, none, (x, order) -> x.pieces(order, 0));
    }

    private static void noSuchArticleToGiveBack() {
        outside("giveBack, article", INDEX, new int[] {-1, 3, 9, 10, MIN, MAX}, EdgesTest::busy,
            (x, article) -> x.giveBack(0, article, 1));
        taken("giveBack, article 0", EdgesTest::busy, x -> x.giveBack(0, 0, 1));
        taken("giveBack, article 1", EdgesTest::busy, x -> x.giveBack(0, 1, 1));
    }

    private static void piecesToGiveBack() {
        bounds("giveBack, the last piece", ARGUMENT, 1, 1, EdgesTest::busy, (x, n) -> x.giveBack(0, 0, n));
        bounds("giveBack, two pieces", ARGUMENT, 1, 2, EdgesTest::busy, (x, n) -> x.giveBack(0, 1, n));
        outside("giveBack, of none", ARGUMENT, new int[] {0, 1, -1, 6, MIN, MAX}, EdgesTest::busy,
            (x, n) -> x.giveBack(1, 0, n));
        Build six = () -> {
            CouponDesk x = one(100, 6);
            x.buy(0);
            x.addArticle(5, 0);
            x.put(1, 6);
            return x;
        };
        bounds("giveBack, six pieces", ARGUMENT, 1, 6, six, (x, n) -> x.giveBack(0, 0, n));
        outside("giveBack, an article that is younger than the order", ARGUMENT, new int[] {0, 1, 6, -1, MIN, MAX}, six,
            (x, n) -> x.giveBack(0, 1, n));
        CouponDesk x = six.make();
        due("all six at once", 600, x, d -> d.giveBack(0, 0, 6));
        due("none is left", 0, x, d -> d.pieces(0, 0));
    }

    private static void lessThanWhatIsPaid() {
        // Two pieces of 100 for 200 less 100, 99 or 101; the coupon is lost with the first that comes back.
        int[] values = {100, 99, 101};
        int[] back = {0, 1, 0};
        int[] left = {100, 100, 99};
        for (int k = 0; k < 3; k++) {
            CouponDesk x = one(100, 2);
            x.addCoupon(1, values[k], 1, 200, 0);
            x.buy(1);
            due("back of " + (200 - values[k]), back[k], x, d -> d.giveBack(0, 0, 1));
            due("paid then, of " + (200 - values[k]), left[k], x, d -> d.order(0, 0));
            due("the coupon is lost", 0, x, d -> d.order(0, 2));
            due("the rest of it", left[k], x, d -> d.giveBack(0, 0, 1));
            due("nothing is paid then", 0, x, d -> d.order(0, 0));
        }
    }

    private static void couponsThatFitWhatIsLeft() {
        CouponDesk x = with(new int[] {100, 0, 3}, new int[] {10, 1, 1});
        x.addCoupon(0, 10, 1, 200, 0);
        x.addCoupon(0, 50, 2, 0, 0);
        x.addCoupon(0, 1, 3, 201, 0);
        x.buy(7);
        x.setPrice(0, 1);
        x.setPrice(1, 10000);
        x.setUses(0, 0);
        CouponDesk y = with(new int[] {100, 7, 3}, new int[] {10, 1, 1});
        y.addCoupon(0, 10, 128, 0, 0);
        y.buy(1);
        y.giveBack(0, 0, 2);
        due("one piece still matches", 1, y, d -> d.order(0, 2));
        y.giveBack(0, 0, 1);
        due("no piece matches", 0, y, d -> d.order(0, 2));
        x.giveBack(0, 1, 1);
        due("no piece matches the second any more", 5, x, d -> d.order(0, 2));
        x.giveBack(0, 0, 1);
        due("at the minimum of the first, 1 below that of the third", 1, x, d -> d.order(0, 2));
        due("180 is paid for what is left", 180, x, d -> d.order(0, 0));
        x.giveBack(0, 0, 1);
        due("below the minimum of the first", 0, x, d -> d.order(0, 2));
        due("100 is paid for what is left", 100, x, d -> d.order(0, 0));
    }

    private static void feeIsNeverGivenBack() {
        CouponDesk x = one(100, 2);
        x.setShipping(30, 1000);
        x.buy(0);
        due("all come back, without the fee", 200, x, d -> d.giveBack(0, 0, 2));
        due("the fee stays", 30, x, d -> d.order(0, 1));
        x.setShipping(30, 200);
        x.put(0, 2);
        x.buy(0);
        x.giveBack(1, 0, 1);
        due("no fee comes when the goods fall below the limit", 0, x, d -> d.order(1, 1));
        due("nor is it paid", 100, x, d -> d.order(1, 0));
    }

    private static void numberOfOrders() {
        CouponDesk x = one(100, 0);
        for (int k = 0; k < 12; k++) {
            due("before order " + k, k, x, d -> d.orderCount());
            x.put(0, 1);
            x.buy(0);
        }
        due("all twelve", 12, x, d -> d.orderCount());
        due("full", STATE, x, d -> {
            d.put(0, 1);
            return d.buy(0);
        });
        due("still twelve", 12, x, d -> d.orderCount());
        x.giveBack(0, 0, 1);
        due("an order without pieces is one", 12, x, d -> d.orderCount());
    }

    private static void whatIsTold() {
        bounds("order, what", INDEX, 0, 4, EdgesTest::busy, (x, what) -> x.order(1, what));
        CouponDesk x = one(100, 1);
        x.setShipping(30, 1000);
        x.buy(0);
        x.giveBack(0, 0, 1);
        int[] want = {0, 30, 0, 0, 0};
        for (int what = 0; what < 5; what++) {
            int n = what;
            due("an order without pieces, " + what, want[what], x, d -> d.order(0, n));
        }
    }

    private static void piecesOfAnOrder() {
        CouponDesk x = fullOfArticles();
        x.buy(0);
        due("six of the last article", 6, x, d -> d.pieces(0, 9));
        x.giveBack(0, 9, 5);
        due("one", 1, x, d -> d.pieces(0, 9));
        x.giveBack(0, 9, 1);
        due("none", 0, x, d -> d.pieces(0, 9));
        due("the article before it", 6, x, d -> d.pieces(0, 8));
        due("what is in the basket does not count", 0, x, d -> {
            d.put(9, 3);
            return d.pieces(0, 9);
        });
    }

    private static void levelOfNothing() {
        due("no orders", 1.0, new CouponDesk().level());
        due("a basket that is not bought", 1.0, one(100, 6).level());
        CouponDesk x = one(3, 1);
        x.buy(0);
        due("all was paid", 1.0, x, d -> d.level());
        x.giveBack(0, 0, 1);
        due("all came back", 1.0, x, d -> d.level());
        x.addCoupon(1, 2, 1, 0, 0);
        x.put(0, 1);
        x.buy(1);
        due("a third", 1.0 / 3.0, x, d -> d.level());
        x.addCoupon(0, 100, 1, 0, 0);
        x.giveBack(1, 0, 1);
        x.put(0, 6);
        x.buy(2);
        due("nothing was paid", 0.0, x, d -> d.level());
        CouponDesk full = fullOfArticles();
        full.addCoupon(1, 1, 1, 0, 0);
        for (int k = 0; k < 12; k++) {
            for (int a = 0; a < 10; a++) {
                full.put(a, 6);
            }
            full.buy(k == 0 ? 1 : 0);
        }
        due("twelve of the fullest orders", 7199999.0 / 7200000.0, full, d -> d.level());
    }

    /** The checksum over whole numbers without bounds, cut to 64 bits at the end alone. */
    private static long checksum(List<Integer> numbers) {
        BigInteger d = BigInteger.valueOf(199);
        for (int x : numbers) {
            d = d.multiply(BigInteger.valueOf(31)).add(BigInteger.valueOf(x));
        }
        return d.longValue();
    }

    private static void digestWrapsAround() {
        due("a new desk", checksum(List.of(0, 0, 1000000, 0, 0)), new CouponDesk().digest());
        due("it is 199 * 31^5 + 31^2 * 1000000", 199L * 28629151L + 961L * 1000000L, new CouponDesk().digest());
        CouponDesk x = fullOfArticles();
        List<Integer> articles = new ArrayList<>(List.of(10));
        for (int k = 0; k < 10; k++) {
            articles.addAll(List.of(10000, k % 8, 0));
        }
        List<Integer> coupons = new ArrayList<>(List.of(10000, 999999, 8));
        for (int k = 0; k < 8; k++) {
            x.addCoupon(1, 100000 - k, 255, 1 + k, 0);
            coupons.addAll(List.of(1, 100000 - k, 255, 1 + k, 0, 8));
        }
        x.setShipping(10000, 999999);
        x.buy(255);
        List<Integer> orders = new ArrayList<>(List.of(1, 0, 10000, 255, 60, 600000));
        List<Integer> all = new ArrayList<>(articles);
        all.addAll(coupons);
        all.addAll(orders);
        due("a full desk", checksum(all), x, d -> d.digest());
        // The checksum of these desks has its highest bit set and not set: it wraps around.
        boolean below = false;
        boolean above = false;
        for (int price = 1; price <= 20; price++) {
            CouponDesk y = with(new int[] {price, 0, 1}, new int[] {price, 1, 2}, new int[] {price, 2, 3});
            long want = checksum(List.of(3, price, 0, 1, price, 1, 2, price, 2, 3, 0, 1000000, 0, 0));
            due("price " + price, want, y, d -> d.digest());
            below |= want < 0;
            above |= want > 0;
        }
        due("both signs were seen", true, below && above);
    }

    // ---- exceptions

    private static void theFirstNamedIsThrown() {
        Build articles = EdgesTest::fullOfArticles;
        refused("addArticle: full, wrong price", ARGUMENT, articles, x -> x.addArticle(0, 0));
        refused("addArticle: full, wrong category", ARGUMENT, articles, x -> x.addArticle(1, 8));
        refused("setPrice: no article, wrong price", INDEX, EdgesTest::busy, x -> x.setPrice(3, 0));
        refused("put: no article, wrong pieces", INDEX, EdgesTest::busy, x -> x.put(3, 7));
        Build coupons = EdgesTest::fullOfCoupons;
        refused("addCoupon: full, wrong kind", ARGUMENT, coupons, x -> x.addCoupon(4, 1, 1, 0, 0));
        refused("addCoupon: full, wrong value", ARGUMENT, coupons, x -> x.addCoupon(0, 0, 1, 0, 0));
        refused("addCoupon: full, wrong categories", ARGUMENT, coupons, x -> x.addCoupon(0, 1, 0, 0, 0));
        refused("addCoupon: full, wrong minimum", ARGUMENT, coupons, x -> x.addCoupon(0, 1, 1, -1, 0));
        refused("addCoupon: full, wrong group", ARGUMENT, coupons, x -> x.addCoupon(0, 1, 1, 0, 4));
        refused("setUses: no coupon, wrong uses", INDEX, EdgesTest::busy, x -> x.setUses(3, 10));
        refused("goods: no coupon, not allowed", ARGUMENT, EdgesTest::busy, x -> x.goods(12));
        refused("total: no coupon, not allowed", ARGUMENT, EdgesTest::busy, x -> x.total(12));
        refused("rest: no coupon, no article", ARGUMENT, EdgesTest::busy, x -> x.rest(8, 3));
        refused("rest: no coupon, no article, not allowed", ARGUMENT, EdgesTest::busy, x -> x.rest(12, 3));
        refused("rest: no article, not allowed", INDEX, EdgesTest::busy, x -> x.rest(4, 3));
        refused("buy: no coupon, not allowed", ARGUMENT, EdgesTest::busy, x -> x.buy(12));
        refused("buy: no coupon, empty", ARGUMENT, CouponDesk::new, x -> x.buy(1));
        refused("buy: no coupon, twelve orders", ARGUMENT, EdgesTest::fullOfOrders, x -> x.buy(2));
        refused("giveBack: no order, wrong pieces", INDEX, EdgesTest::busy, x -> x.giveBack(2, 0, 0));
        refused("giveBack: no article, wrong pieces", INDEX, EdgesTest::busy, x -> x.giveBack(0, 3, 7));
        refused("giveBack: nothing is right", INDEX, EdgesTest::busy, x -> x.giveBack(-1, -1, -1));
        refused("order: nothing is right", INDEX, EdgesTest::busy, x -> x.order(2, 5));
        refused("pieces: nothing is right", INDEX, EdgesTest::busy, x -> x.pieces(2, 3));
    }

    private static void sharedBoundsOfShipping() {
        refused("both are wrong", ARGUMENT, EdgesTest::busy, x -> x.setShipping(-1, -1));
        refused("a right fee with a wrong limit", ARGUMENT, EdgesTest::busy, x -> x.setShipping(5, 1000001));
        refused("a right limit with a wrong fee", ARGUMENT, EdgesTest::busy, x -> x.setShipping(10001, 5));
    }

    private static void lastCallOfAnObject() {
        CouponDesk x = one(100, 6);
        x.addCoupon(1, 7, 1, 0, 0);
        for (int call = 4; call < 512; call++) {
            due("call " + call, 1, x, d -> d.best());
        }
        due("call 512", 593, x, d -> d.total(1));
    }

    private static void asksChangeNothing() {
        CouponDesk x = busy();
        List<Object> first = told(x);
        due("told again", first, told(x));
    }

    private static void check(String quoted, Runnable test) {
        sentence = quoted;
        test.run();
    }

    private static void checkBasket() {
        check("There are at most 10 (articles), numbered from 0", EdgesTest::atMostTenArticles);
        check("if price is not 1 to 10000 (addArticle)", EdgesTest::priceOfAnArticle);
        check("or category is not 0 to 7", EdgesTest::categoryOfAnArticle);
        check("if there are 10 articles", EdgesTest::tenArticlesAreFull);
        check("if there is no such article", EdgesTest::noSuchArticle);
        check("if price is not 1 to 10000 (setPrice)", EdgesTest::priceThatIsSet);
        check("The basket has 0 to 6 pieces of each article (0, at first); if pieces is not 0 to 6",
            EdgesTest::piecesInTheBasket);
        check("the sum of the prices of all pieces in the basket", EdgesTest::emptyAndFullValue);
        check("if fee is not 0 to 10000; (0, at first)", EdgesTest::fee);
        check("or limit is not 0 to 1000000; it is 0 if the goods are at least a limit (1000000, at first)",
            EdgesTest::limit);
        check("it is 0 if the set has a FREIGHT, or if the basket is empty", EdgesTest::feeOfNothing);
        check("setShipping throws, and changes neither of the two", EdgesTest::sharedBoundsOfShipping);
    }

    private static void checkCoupons() {
        check("There are at most 8 (coupons), numbered from 0", EdgesTest::atMostEightCoupons);
        check("if there are 8 coupons", EdgesTest::eightCouponsAreFull);
        check("if kind is not 0 to 3", EdgesTest::kind);
        check("0 PERCENT (value 1 to 100)", EdgesTest::valueOfPercent);
        check("1 AMOUNT (value 1 to 100000)", EdgesTest::valueOfAmount);
        check("2 BUNDLE (value 2 to 9)", EdgesTest::valueOfBundle);
        check("3 FREIGHT (value 0)", EdgesTest::valueOfFreight);
        check("categories is not 1 to 255", EdgesTest::categoriesOfACoupon);
        check("minimum is not 0 to 1000000", EdgesTest::minimum);
        check("or group is not 0 to 3", EdgesTest::group);
        check("0 to 9 (9, at first); if uses is not 0 to 9", EdgesTest::uses);
        check("if there is no such coupon", EdgesTest::noSuchCoupon);
        check("the sum of the prices of the pieces in the basket that match it", EdgesTest::matchingNothingAndAll);
        check("It fits a basket if it has a use left, at least one piece matches it, and the prices are at least its"
            + " minimum", EdgesTest::fitsAtTheEdge);
        check("how much less than its minimum; 0 if they are not less", EdgesTest::missingAtTheEdge);
        check("if coupons contains something that is no coupon", EdgesTest::somethingThatIsNoCoupon);
        check("each of them fits it, and no two of them have the same group other than 0", EdgesTest::allowedSets);
        check("(The set without coupons is always allowed.)", EdgesTest::setWithoutCoupons);
        check("if it is not allowed", EdgesTest::notAllowed);
    }

    private static void checkCosts() {
        check("r * value / 100 (cut towards 0)", EdgesTest::percentIsCut);
        check("A the smaller one of S and the value", EdgesTest::theSmallerOfSumAndValue);
        check("nothing happens if S is 0", EdgesTest::nothingToTake);
        check("from the first of these pieces, in their order, whose rest is greater than 0 then, 1 from each one",
            EdgesTest::missingOnes);
        check("each one whose place, counted from 1, is a multiple of the value", EdgesTest::bundlePlaces);
        check("of the same rest in their order", EdgesTest::bundleOfEqualRests);
        check("ordered by their rests, the greatest first", EdgesTest::bundleOrderedByRests);
        check("applied in ascending order of their numbers", EdgesTest::ascendingOrder);
        check("the prices of those that match are, together, at least its minimum", EdgesTest::minimumByPrices);
        check("of several the one with the fewest coupons; of several the smallest number", EdgesTest::bestOfSeveral);
        check("The best set of a basket is the allowed one", EdgesTest::bestIsAllowed);
        check("with the least total", EdgesTest::bestMindsTheFee);
        check("if this coupon had no use left", EdgesTest::worthOfNothing);
    }

    private static void checkOrders() {
        check("the basket is empty (buy)", EdgesTest::emptyBasketIsNotBought);
        check("There are at most 12 (orders); or there are 12 orders", EdgesTest::twelveOrdersAreFull);
        check("each coupon of the set has one use less", EdgesTest::buyUsesUp);
        check("if there is no such order", EdgesTest::noSuchOrder);
        check("if there is no such order or article (giveBack)", EdgesTest::noSuchArticleToGiveBack);
        check("if pieces is less than 1, or greater than the number of its pieces that the order has",
            EdgesTest::piecesToGiveBack);
        check("If this is less than what is paid for goods, the difference is given back, otherwise nothing",
            EdgesTest::lessThanWhatIsPaid);
        check("with those of its coupons that fit these (whatever uses are left)", EdgesTest::couponsThatFitWhatIsLeft);
        check("its fee, which is never given back", EdgesTest::feeIsNeverGivenBack);
        check("the number of orders", EdgesTest::numberOfOrders);
        check("or what is not 0 to 4", EdgesTest::whatIsTold);
        check("how many pieces of it the order has", EdgesTest::piecesOfAnOrder);
        check("1 if this is 0 (level)", EdgesTest::levelOfNothing);
        check("which wraps around as a 64-bit integer", EdgesTest::digestWrapsAround);
        check("the one that is named first is thrown; it changes nothing", EdgesTest::theFirstNamedIsThrown);
        check("for at most 512 calls", EdgesTest::lastCallOfAnObject);
        check("Nothing is promised beyond the answers and state changes", EdgesTest::asksChangeNothing);
    }

    public static void main(String[] args) {
        checkBasket();
        checkCoupons();
        checkCosts();
        checkOrders();
        System.out.println(wrong == 0 ? "all edges hold" : wrong + " edges do not hold");
        if (wrong != 0) {
            System.exit(1);
        }
    }
}
