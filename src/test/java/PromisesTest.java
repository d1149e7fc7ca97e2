/**
 * For each promise of the document: ordinary inputs, the edges that it names, and wrong inputs.
 * The numbers that are due are worked out by hand from the document's words.
 */
public final class PromisesTest {
    private static int wrong = 0;
    private static String promise = "";

    private interface Call {
        Object answer();
    }

    /** What a call answers; if it throws, throws. and the name of exactly what it throws. */
    private static Object answerOf(Call call) {
        try {
            return call.answer();
        } catch (RuntimeException e) {
            return "throws." + e.getClass().getSimpleName();
        }
    }

    private static void due(String what, Object want, Call call) {
        Object got = answerOf(call);
        if (!want.equals(got)) {
            wrong++;
            System.out.println(promise + ": " + what + " answered " + got + ", due is " + want);
        }
    }

    private static final String ARGUMENT = "throws.IllegalArgumentException";
    private static final String STATE = "throws.IllegalStateException";
    private static final String INDEX = "throws.IndexOutOfBoundsException";
    private static final int MIN = Integer.MIN_VALUE;
    private static final int MAX = Integer.MAX_VALUE;

    /** The refused call answers as is due, and the desk tells the same afterwards. */
    private static void refused(String what, CouponDesk x, String want, Call call) {
        long before = x.digest();
        due(what, want, call);
        due("digest after " + what, before, () -> x.digest());
    }

    private static long checksum(int... numbers) {
        long d = 199;
        for (int n : numbers) {
            d = d * 31 + n;
        }
        return d;
    }

    /** Article 0 costs 1000 (category 0), 1 costs 333 (1), 2 costs 50 (0); 2, 3 and 1 pieces. */
    private static CouponDesk threeArticles() {
        CouponDesk x = new CouponDesk();
        x.addArticle(1000, 0);
        x.addArticle(333, 1);
        x.addArticle(50, 0);
        x.put(0, 2);
        x.put(1, 3);
        x.put(2, 1);
        return x;
    }

    private static CouponDesk oneArticle(int price, int pieces) {
        CouponDesk x = new CouponDesk();
        x.addArticle(price, 0);
        x.put(0, pieces);
        return x;
    }

    private static void newObject() {
        CouponDesk x = new CouponDesk();
        due("value", 0, () -> x.value());
        due("orderCount", 0, () -> x.orderCount());
        due("best", 0, () -> x.best());
        due("level", 1.0, () -> x.level());
        due("total(0)", 0, () -> x.total(0));
        due("digest", checksum(0, 0, 1000000, 0, 0), () -> x.digest());
        due("put(0, 0)", INDEX, () -> x.put(0, 0));
        due("fits(0)", INDEX, () -> x.fits(0));
        due("order(0, 0)", INDEX, () -> x.order(0, 0));
    }

    private static void addArticle() {
        CouponDesk x = new CouponDesk();
        for (int[] bad : new int[][] {{0, 0}, {-1, 0}, {10001, 0}, {MIN, 0}, {MAX, 0}, {1, -1}, {1, 8}, {1, MIN}, {1, MAX}}) {
            refused("addArticle(" + bad[0] + ", " + bad[1] + ")", x, ARGUMENT, () -> x.addArticle(bad[0], bad[1]));
        }
        due("the first", 0, () -> x.addArticle(1, 0));
        due("the second", 1, () -> x.addArticle(10000, 7));
        due("digest", checksum(2, 1, 0, 0, 10000, 7, 0, 0, 1000000, 0, 0), () -> x.digest());
        for (int k = 2; k < 10; k++) {
            int number = k;
            due("the next", number, () -> x.addArticle(5, 3));
        }
        refused("the eleventh", x, STATE, () -> x.addArticle(5, 3));
        refused("the eleventh, with a bad price", x, ARGUMENT, () -> x.addArticle(0, 3));
        refused("the eleventh, with a bad category", x, ARGUMENT, () -> x.addArticle(5, 8));
        x.put(9, 6);
        due("value with the tenth", 30, () -> x.value());
    }

    private static void setPrice() {
        CouponDesk x = threeArticles();
        due("setPrice(1, 1)", 333, () -> x.setPrice(1, 1));
        due("setPrice(1, 10000)", 1, () -> x.setPrice(1, 10000));
        due("value", 32050, () -> x.value());
        for (int article : new int[] {-1, 3, 10, MIN, MAX}) {
            refused("setPrice(" + article + ", 5)", x, INDEX, () -> x.setPrice(article, 5));
            refused("setPrice(" + article + ", 0)", x, INDEX, () -> x.setPrice(article, 0));
        }
        for (int price : new int[] {0, -1, 10001, MIN, MAX}) {
            refused("setPrice(0, " + price + ")", x, ARGUMENT, () -> x.setPrice(0, price));
        }
    }

    private static void put() {
        CouponDesk x = threeArticles();
        due("put(0, 6)", 2, () -> x.put(0, 6));
        due("put(0, 0)", 6, () -> x.put(0, 0));
        due("put(0, 1)", 0, () -> x.put(0, 1));
        due("value", 1000 + 999 + 50, () -> x.value());
        for (int article : new int[] {-1, 3, 10, MIN, MAX}) {
            refused("put(" + article + ", 1)", x, INDEX, () -> x.put(article, 1));
            refused("put(" + article + ", 7)", x, INDEX, () -> x.put(article, 7));
        }
        for (int pieces : new int[] {-1, 7, MIN, MAX}) {
            refused("put(0, " + pieces + ")", x, ARGUMENT, () -> x.put(0, pieces));
        }
    }

    private static void value() {
        CouponDesk x = new CouponDesk();
        for (int k = 0; k < 10; k++) {
            x.addArticle(10000, k % 8);
        }
        due("nothing in the basket", 0, () -> x.value());
        for (int k = 0; k < 10; k++) {
            x.put(k, 6);
        }
        due("the fullest basket", 600000, () -> x.value());
        x.addCoupon(0, 50, 255, 0, 0);
        due("coupons take nothing off it", 600000, () -> x.value());
        due("three articles", 3049, () -> threeArticles().value());
    }

    private static void setShipping() {
        CouponDesk x = oneArticle(100, 3);
        due("setShipping(10000, 1000000)", 0, () -> x.setShipping(10000, 1000000));
        due("total", 10300, () -> x.total(0));
        due("setShipping(7, 300)", 10000, () -> x.setShipping(7, 300));
        due("total at the limit", 300, () -> x.total(0));
        due("setShipping(8, 301)", 7, () -> x.setShipping(8, 301));
        due("total below the limit", 308, () -> x.total(0));
        due("setShipping(0, 0)", 8, () -> x.setShipping(0, 0));
        due("setShipping(9, 0)", 0, () -> x.setShipping(9, 0));
        due("total with the limit 0", 300, () -> x.total(0));
        for (int fee : new int[] {-1, 10001, MIN, MAX}) {
            refused("setShipping(" + fee + ", 5)", x, ARGUMENT, () -> x.setShipping(fee, 5));
        }
        for (int limit : new int[] {-1, 1000001, MIN, MAX}) {
            refused("setShipping(5, " + limit + ")", x, ARGUMENT, () -> x.setShipping(5, limit));
        }
    }

    private static void addCoupon() {
        CouponDesk x = new CouponDesk();
        int[][] bad = {
            {-1, 1, 1, 0, 0}, {4, 1, 1, 0, 0}, {4, 0, 1, 0, 0}, {MIN, 0, 1, 0, 0}, {MAX, 0, 1, 0, 0},
            {0, 0, 1, 0, 0}, {0, 101, 1, 0, 0}, {0, -1, 1, 0, 0},
            {1, 0, 1, 0, 0}, {1, 100001, 1, 0, 0}, {1, -1, 1, 0, 0},
            {2, 1, 1, 0, 0}, {2, 10, 1, 0, 0}, {2, 0, 1, 0, 0}, {2, -2, 1, 0, 0},
            {3, 1, 1, 0, 0}, {3, -1, 1, 0, 0},
            {3, 0, 0, 0, 0}, {3, 0, 256, 0, 0}, {3, 0, -1, 0, 0}, {3, 0, MIN, 0, 0}, {3, 0, MAX, 0, 0},
            {3, 0, 1, -1, 0}, {3, 0, 1, 1000001, 0}, {3, 0, 1, MIN, 0}, {3, 0, 1, MAX, 0},
            {3, 0, 1, 0, -1}, {3, 0, 1, 0, 4}, {3, 0, 1, 0, MIN}, {3, 0, 1, 0, MAX},
        };
        refuseCoupons(x, bad);
        int[][] good = {
            {0, 1, 1, 0, 0}, {0, 100, 255, 1000000, 3}, {1, 1, 128, 1, 1}, {1, 100000, 2, 0, 2},
            {2, 2, 1, 0, 0}, {2, 9, 1, 0, 0}, {3, 0, 1, 0, 0}, {3, 0, 254, 7, 3},
        };
        for (int k = 0; k < good.length; k++) {
            int number = k;
            int[] c = good[k];
            due("coupon " + k, number, () -> x.addCoupon(c[0], c[1], c[2], c[3], c[4]));
        }
        due("digest", checksum(0, 0, 1000000, 8, 0, 1, 1, 0, 0, 9, 0, 100, 255, 1000000, 3, 9, 1, 1, 128, 1, 1, 9,
            1, 100000, 2, 0, 2, 9, 2, 2, 1, 0, 0, 9, 2, 9, 1, 0, 0, 9, 3, 0, 1, 0, 0, 9, 3, 0, 254, 7, 3, 9, 0),
            () -> x.digest());
        refused("the ninth", x, STATE, () -> x.addCoupon(0, 1, 1, 0, 0));
        refuseCoupons(x, bad);
    }

    private static void refuseCoupons(CouponDesk x, int[][] bad) {
        for (int[] c : bad) {
            String call = "addCoupon(" + c[0] + ", " + c[1] + ", " + c[2] + ", " + c[3] + ", " + c[4] + ")";
            refused(call, x, ARGUMENT, () -> x.addCoupon(c[0], c[1], c[2], c[3], c[4]));
        }
    }

    private static void setUses() {
        CouponDesk x = oneArticle(100, 1);
        x.addCoupon(0, 10, 1, 0, 0);
        due("setUses(0, 1)", 9, () -> x.setUses(0, 1));
        due("setUses(0, 0)", 1, () -> x.setUses(0, 0));
        due("fits without a use", false, () -> x.fits(0));
        due("setUses(0, 9)", 0, () -> x.setUses(0, 9));
        due("fits with uses", true, () -> x.fits(0));
        for (int coupon : new int[] {-1, 1, 8, MIN, MAX}) {
            refused("setUses(" + coupon + ", 1)", x, INDEX, () -> x.setUses(coupon, 1));
            refused("setUses(" + coupon + ", 10)", x, INDEX, () -> x.setUses(coupon, 10));
        }
        for (int uses : new int[] {-1, 10, MIN, MAX}) {
            refused("setUses(0, " + uses + ")", x, ARGUMENT, () -> x.setUses(0, uses));
        }
    }

    private static void matching() {
        CouponDesk x = threeArticles();
        x.addCoupon(0, 10, 1, 0, 0);
        x.addCoupon(0, 10, 2, 1000000, 0);
        x.addCoupon(0, 10, 3, 0, 0);
        x.addCoupon(0, 10, 252, 0, 0);
        x.setUses(2, 0);
        due("category 0", 2050, () -> x.matching(0));
        due("category 1, below its minimum", 999, () -> x.matching(1));
        due("both, without a use", 3049, () -> x.matching(2));
        due("neither", 0, () -> x.matching(3));
        x.put(0, 0);
        due("fewer pieces", 50, () -> x.matching(0));
        for (int coupon : new int[] {-1, 4, 8, MIN, MAX}) {
            refused("matching(" + coupon + ")", x, INDEX, () -> x.matching(coupon));
        }
    }

    private static void fits() {
        CouponDesk x = threeArticles();
        x.addCoupon(0, 10, 2, 999, 0);
        x.addCoupon(0, 10, 2, 1000, 0);
        x.addCoupon(0, 10, 4, 0, 0);
        x.addCoupon(3, 0, 1, 0, 0);
        due("at its minimum", true, () -> x.fits(0));
        due("below its minimum", false, () -> x.fits(1));
        due("no piece matches", false, () -> x.fits(2));
        x.setUses(3, 1);
        due("one use left", true, () -> x.fits(3));
        x.setUses(3, 0);
        due("no use left", false, () -> x.fits(3));
        for (int coupon : new int[] {-1, 4, 8, MIN, MAX}) {
            refused("fits(" + coupon + ")", x, INDEX, () -> x.fits(coupon));
        }
    }

    private static void missing() {
        CouponDesk x = threeArticles();
        x.addCoupon(0, 10, 2, 999, 0);
        x.addCoupon(0, 10, 2, 1000, 0);
        x.addCoupon(0, 10, 2, 0, 0);
        x.addCoupon(0, 10, 4, 1000000, 0);
        due("at its minimum", 0, () -> x.missing(0));
        due("1 below", 1, () -> x.missing(1));
        due("above", 0, () -> x.missing(2));
        due("no piece matches", 1000000, () -> x.missing(3));
        for (int coupon : new int[] {-1, 4, 8, MIN, MAX}) {
            refused("missing(" + coupon + ")", x, INDEX, () -> x.missing(coupon));
        }
    }

    private static void isAllowed() {
        CouponDesk x = oneArticle(100, 1);
        x.addCoupon(0, 10, 1, 0, 1);
        x.addCoupon(1, 10, 1, 0, 0);
        x.addCoupon(2, 2, 1, 0, 1);
        x.addCoupon(3, 0, 1, 0, 0);
        x.addCoupon(3, 0, 1, 101, 2);
        due("no coupons", true, () -> x.isAllowed(0));
        due("group 0 twice", true, () -> x.isAllowed(10));
        due("group 1 and group 0", true, () -> x.isAllowed(11));
        due("group 1 twice", false, () -> x.isAllowed(5));
        due("group 1 twice among others", false, () -> x.isAllowed(15));
        due("one does not fit", false, () -> x.isAllowed(16));
        due("one of two does not fit", false, () -> x.isAllowed(18));
        refuseSets(x, set -> x.isAllowed(set), 32, 33);
        x.put(0, 0);
        due("no coupons for an empty basket", true, () -> x.isAllowed(0));
        due("a coupon for an empty basket", false, () -> x.isAllowed(2));
    }

    private interface SetCall {
        Object answer(int set);
    }

    private static void refuseSets(CouponDesk x, SetCall call, int... more) {
        for (int set : new int[] {256, -1, MIN, MAX, MIN + 1, 1 << 30}) {
            refused("the set " + set, x, ARGUMENT, () -> call.answer(set));
        }
        for (int set : more) {
            refused("the set " + set, x, ARGUMENT, () -> call.answer(set));
        }
    }

    private static void goods() {
        CouponDesk x = threeArticles();
        x.setShipping(490, 1000000);
        x.addCoupon(0, 10, 2, 0, 1);
        x.addCoupon(1, 100, 3, 0, 1);
        x.addCoupon(2, 2, 3, 0, 0);
        x.addCoupon(3, 0, 3, 0, 0);
        due("without coupons and fee", 3049, () -> x.goods(0));
        due("10 per cent of 333 is cut to 33", 3049 - 3 * 33, () -> x.goods(1));
        due("an amount", 2949, () -> x.goods(2));
        due("a bundle: 1000, 333 and 50 are free", 1666, () -> x.goods(4));
        due("freight takes nothing off the goods", 3049, () -> x.goods(8));
        due("10 per cent, then the bundle", 1000 + 300 + 300, () -> x.goods(5));
        refused("goods(3)", x, STATE, () -> x.goods(3));
        refuseSets(x, set -> x.goods(set), 16, 17, 19);
    }

    private static void total() {
        CouponDesk x = threeArticles();
        x.setShipping(490, 3000);
        x.addCoupon(1, 49, 3, 0, 1);
        x.addCoupon(1, 50, 3, 0, 1);
        x.addCoupon(3, 0, 3, 0, 0);
        due("above the limit", 3049, () -> x.total(0));
        due("at the limit", 3000, () -> x.total(1));
        due("below the limit", 2999 + 490, () -> x.total(2));
        due("below the limit, with freight", 2999, () -> x.total(6));
        refused("total(3)", x, STATE, () -> x.total(3));
        refuseSets(x, set -> x.total(set), 8, 9, 11);
        x.put(0, 0);
        x.put(1, 0);
        x.put(2, 0);
        due("an empty basket", 0, () -> x.total(0));
        refused("a coupon for an empty basket", x, STATE, () -> x.total(4));
        CouponDesk free = oneArticle(100, 1);
        free.addCoupon(0, 100, 1, 0, 0);
        free.setShipping(490, 1);
        due("goods that cost nothing", 490, () -> free.total(1));
    }

    private static void rest() {
        CouponDesk x = oneArticle(7, 2);
        x.addArticle(7, 0);
        x.addArticle(6, 0);
        x.addArticle(3, 1);
        x.put(1, 1);
        x.put(2, 2);
        x.put(3, 6);
        x.addCoupon(2, 2, 1, 0, 1);
        x.addCoupon(1, 10, 3, 0, 0);
        x.addCoupon(0, 33, 1, 0, 1);
        due("no coupon", 14, () -> x.rest(0, 0));
        // The row 7, 7, 7, 6, 6: the second 7 and the first 6 are free.
        due("bundle, article 0", 7, () -> x.rest(1, 0));
        due("bundle, article 1", 7, () -> x.rest(1, 1));
        due("bundle, article 2", 6, () -> x.rest(1, 2));
        due("bundle, not matched", 18, () -> x.rest(1, 3));
        // 10 of 51: each 7 and each 6 loses 1, each 3 nothing; 5 are missing: of the first five.
        due("amount, article 0", 14 - 4, () -> x.rest(2, 0));
        due("amount, article 1", 7 - 2, () -> x.rest(2, 1));
        due("amount, article 2", 12 - 4, () -> x.rest(2, 2));
        due("amount, article 3", 18, () -> x.rest(2, 3));
        // 10 of 38 after the bundle: 7, 7, 6 lose 1 and 3 nothing; a piece without rest is passed over.
        due("both, article 0", 7 - 2, () -> x.rest(3, 0));
        due("both, article 1", 7 - 2, () -> x.rest(3, 1));
        due("both, article 2", 6 - 2, () -> x.rest(3, 2));
        due("both, article 3", 18 - 4, () -> x.rest(3, 3));
        x.put(1, 0);
        due("an article without pieces", 0, () -> x.rest(0, 1));
        for (int article : new int[] {-1, 4, 10, MIN, MAX}) {
            refused("rest(0, " + article + ")", x, INDEX, () -> x.rest(0, article));
            refused("rest(5, " + article + ")", x, INDEX, () -> x.rest(5, article));
            refused("rest(8, " + article + ")", x, ARGUMENT, () -> x.rest(8, article));
        }
        refused("rest(5, 0)", x, STATE, () -> x.rest(5, 0));
        refuseSets(x, set -> x.rest(set, 0), 8, 13);
        restEdges();
    }

    private static void restEdges() {
        CouponDesk x = threeArticles();
        x.addCoupon(1, 100000, 1, 0, 0);
        x.addCoupon(1, 5, 1, 0, 0);
        x.addCoupon(0, 100, 3, 0, 0);
        x.addCoupon(2, 4, 1, 0, 0);
        x.addCoupon(2, 3, 1, 0, 0);
        due("an amount above the sum", 0, () -> x.rest(1, 0));
        due("an amount above the sum, not matched", 999, () -> x.rest(1, 1));
        due("an amount when the sum is 0", 0, () -> x.rest(3, 0));
        due("100 per cent", 0, () -> x.rest(4, 1));
        due("4 for 3 with three pieces", 2000, () -> x.rest(8, 0));
        due("3 for 2 with three pieces", 0, () -> x.rest(16, 2));

        // The row: the 9, six times the 8 of article 0, four times the 8 of article 2.
        CouponDesk y = oneArticle(8, 6);
        y.addArticle(9, 0);
        y.addArticle(8, 0);
        y.put(1, 1);
        y.put(2, 4);
        y.addCoupon(2, 8, 1, 0, 0);
        y.addCoupon(2, 2, 1, 0, 0);
        y.addCoupon(1, 4, 1, 0, 0);
        due("place 8 is not of article 0", 48, () -> y.rest(1, 0));
        due("place 8 is not of article 1", 9, () -> y.rest(1, 1));
        due("place 8 is the first of article 2", 24, () -> y.rest(1, 2));
        due("places 2, 4 and 6", 24, () -> y.rest(2, 0));
        due("places 8 and 10", 16, () -> y.rest(2, 2));
        // Place 8 is free; then the row 9, 8 .. 8, with the 0 last, frees 2, 4, 6, 8 and 10.
        due("a bundle of a bundle, article 0", 24, () -> y.rest(3, 0));
        due("a bundle of a bundle, article 2", 8, () -> y.rest(3, 2));
        // 4 of 89: no cut reaches 1, so the first four pieces lose 1 each.
        due("less than one for each, article 0", 44, () -> y.rest(4, 0));
        due("less than one for each, article 1", 9, () -> y.rest(4, 1));

        CouponDesk w = new CouponDesk();
        w.addArticle(10, 1);
        w.addArticle(7, 0);
        w.put(0, 1);
        w.put(1, 2);
        w.addCoupon(1, 1, 1, 0, 0);
        due("what is missing is not taken from others", 10, () -> w.rest(1, 0));
        due("what is missing is taken from the first that matches", 13, () -> w.rest(1, 1));

        CouponDesk z = new CouponDesk();
        for (int k = 0; k < 10; k++) {
            z.addArticle(10000, 7);
            z.put(k, 6);
        }
        z.addCoupon(1, 100000, 128, 600000, 0);
        z.addCoupon(0, 99, 128, 600000, 0);
        // 1666 of each piece, and 40 are missing.
        due("the greatest amount of the fullest basket", 6 * 8333, () -> z.rest(1, 0));
        due("the pieces before the last that lose 1", 4 * 8333 + 2 * 8334, () -> z.rest(1, 6));
        due("the pieces after these", 6 * 8334, () -> z.rest(1, 9));
        // 99 per cent of 8333 is 8249.67, of 8334 is 8250.66.
        due("99 per cent then", 6 * 84, () -> z.rest(3, 0));
    }

    private static void best() {
        CouponDesk x = oneArticle(10, 1);
        x.addCoupon(1, 5, 1, 0, 0);
        due("the only one", 1, () -> x.best());
        x.addCoupon(1, 5, 1, 0, 0);
        due("both of them", 3, () -> x.best());
        x.addCoupon(1, 10, 1, 0, 0);
        due("one rather than two", 4, () -> x.best());
        x.addCoupon(0, 100, 1, 0, 0);
        due("the smallest number of two", 4, () -> x.best());
        x.setUses(2, 0);
        due("without a use it is none", 8, () -> x.best());
        x.setUses(3, 0);
        due("back to both", 3, () -> x.best());
        x.put(0, 0);
        due("an empty basket", 0, () -> x.best());

        CouponDesk y = oneArticle(100, 1);
        y.setShipping(50, 100);
        y.addCoupon(1, 10, 1, 0, 0);
        due("less goods would cost the fee", 0, () -> y.best());
        y.addCoupon(3, 0, 1, 101, 0);
        due("freight does not fit", 0, () -> y.best());
        y.addCoupon(3, 0, 1, 100, 0);
        due("freight fits", 5, () -> y.best());
        y.setShipping(0, 100);
        due("freight without a fee is worth nothing", 1, () -> y.best());

        CouponDesk z = oneArticle(100, 2);
        z.addCoupon(1, 20, 1, 0, 1);
        z.addCoupon(1, 20, 1, 0, 1);
        due("of a group one, the smallest number", 1, () -> z.best());
        z.addCoupon(1, 30, 1, 0, 1);
        z.addCoupon(1, 5, 1, 0, 2);
        z.addCoupon(1, 4, 1, 0, 2);
        z.addCoupon(2, 3, 1, 0, 0);
        due("the best of each group", 12, () -> z.best());
        due("best changes nothing", checksum(1, 100, 0, 2, 0, 1000000, 6, 1, 20, 1, 0, 1, 9, 1, 20, 1, 0, 1, 9,
            1, 30, 1, 0, 1, 9, 1, 5, 1, 0, 2, 9, 1, 4, 1, 0, 2, 9, 2, 3, 1, 0, 0, 9, 0), () -> z.digest());

        CouponDesk all = oneArticle(100, 6);
        for (int k = 0; k < 8; k++) {
            all.addCoupon(0, 10, 1, 600, 0);
        }
        due("all eight", 255, () -> all.best());
    }

    private static void worth() {
        CouponDesk x = oneArticle(100, 1);
        x.addCoupon(1, 30, 1, 0, 1);
        x.addCoupon(1, 20, 1, 0, 1);
        x.addCoupon(3, 0, 1, 0, 0);
        x.addCoupon(1, 7, 1, 101, 0);
        due("the other one is worth 20", 10, () -> x.worth(0));
        due("it is not in the best set", 0, () -> x.worth(1));
        due("there is no fee", 0, () -> x.worth(2));
        due("it does not fit", 0, () -> x.worth(3));
        x.setShipping(9, 1000);
        due("the fee", 9, () -> x.worth(2));
        long before = x.digest();
        x.worth(0);
        due("worth changes nothing", before, () -> x.digest());
        x.setUses(0, 0);
        due("it has no use left anyway", 0, () -> x.worth(0));
        due("the other one counts now", 20, () -> x.worth(1));
        x.put(0, 0);
        due("an empty basket", 0, () -> x.worth(1));
        for (int coupon : new int[] {-1, 4, 8, 31, 32, MIN, MAX}) {
            refused("worth(" + coupon + ")", x, INDEX, () -> x.worth(coupon));
        }
    }

    private static void buy() {
        CouponDesk x = oneArticle(100, 2);
        x.setShipping(20, 200);
        x.addCoupon(0, 10, 1, 0, 1);
        x.addCoupon(1, 5, 1, 0, 0);
        x.addCoupon(3, 0, 1, 0, 1);
        x.setUses(0, 1);
        refused("a set that is not allowed", x, STATE, () -> x.buy(5));
        refuseSets(x, set -> x.buy(set), 8, 13);
        due("the first", 0, () -> x.buy(3));
        // 200 less 10 per cent of each, less 5; the first piece loses 3, the second 2; the fee is due.
        due("digest", checksum(1, 100, 0, 0, 20, 200, 3, 0, 10, 1, 0, 1, 0, 1, 5, 1, 0, 0, 8, 3, 0, 1, 0, 1, 9,
            1, 175, 20, 3, 2, 200), () -> x.digest());
        due("the basket is empty", 0, () -> x.value());
        refused("an empty basket", x, STATE, () -> x.buy(0));
        refused("an empty basket and no coupon", x, ARGUMENT, () -> x.buy(8));
        x.put(0, 2);
        refused("no use left", x, STATE, () -> x.buy(1));
        due("the second", 1, () -> x.buy(4));
        due("its fee", 0, () -> x.order(1, 1));
        due("its goods", 200, () -> x.order(1, 0));
        x.put(0, 2);
        due("the third", 2, () -> x.buy(0));
        due("its fee at the limit", 0, () -> x.order(2, 1));
        for (int k = 3; k < 12; k++) {
            int number = k;
            x.put(0, 1);
            due("the next", number, () -> x.buy(0));
        }
        x.put(0, 1);
        refused("the thirteenth", x, STATE, () -> x.buy(0));
        refused("the thirteenth, with no coupon", x, ARGUMENT, () -> x.buy(8));
    }

    private static void giveBack() {
        CouponDesk x = oneArticle(100, 3);
        x.addArticle(40, 1);
        x.put(1, 1);
        x.setShipping(20, 1000);
        x.addCoupon(1, 50, 1, 200, 0);
        x.buy(1);
        x.setPrice(0, 7);
        x.addArticle(5, 0);
        refuseGiveBack(x);
        due("a piece that no coupon matches", 40, () -> x.giveBack(0, 1, 1));
        // Two pieces are left and still reach the minimum: 150.
        due("the coupon still fits", 100, () -> x.giveBack(0, 0, 1));
        due("it still acts", 1, () -> x.order(0, 2));
        due("the coupon does not fit any more", 50, () -> x.giveBack(0, 0, 1));
        due("it is lost", 0, () -> x.order(0, 2));
        due("paid then", 100, () -> x.order(0, 0));
        due("the last piece", 100, () -> x.giveBack(0, 0, 1));
        due("the fee stays", 20, () -> x.order(0, 1));
        refused("a piece that is not there", x, ARGUMENT, () -> x.giveBack(0, 0, 1));
        giveBackNothing();
        giveBackWithoutUses();
        giveBackOfOneCategory();
    }

    private static void refuseGiveBack(CouponDesk x) {
        for (int bad : new int[] {-1, 1, 12, MIN, MAX}) {
            refused("giveBack(" + bad + ", 0, 1)", x, INDEX, () -> x.giveBack(bad, 0, 1));
            refused("giveBack(" + bad + ", 0, 0)", x, INDEX, () -> x.giveBack(bad, 0, 0));
        }
        for (int bad : new int[] {-1, 3, 10, MIN, MAX}) {
            refused("giveBack(0, " + bad + ", 1)", x, INDEX, () -> x.giveBack(0, bad, 1));
            refused("giveBack(0, " + bad + ", 0)", x, INDEX, () -> x.giveBack(0, bad, 0));
        }
        for (int bad : new int[] {0, -1, 4, MIN, MAX}) {
            refused("giveBack(0, 0, " + bad + ")", x, ARGUMENT, () -> x.giveBack(0, 0, bad));
        }
        refused("an article that the order has not", x, ARGUMENT, () -> x.giveBack(0, 2, 1));
    }

    private static void giveBackOfOneCategory() {
        CouponDesk x = new CouponDesk();
        x.addArticle(100, 5);
        x.addArticle(10, 0);
        x.put(0, 2);
        x.put(1, 1);
        x.addCoupon(0, 10, 32, 0, 0);
        x.buy(1);
        due("the coupon takes off its category alone", 10, () -> x.giveBack(0, 1, 1));
        due("and goes on to match it", 90, () -> x.giveBack(0, 0, 1));
        due("it still acts", 1, () -> x.order(0, 2));
    }

    private static void giveBackNothing() {
        CouponDesk x = oneArticle(100, 2);
        x.addCoupon(1, 150, 1, 200, 0);
        x.buy(1);
        due("the goods become more", 0, () -> x.giveBack(0, 0, 1));
        due("nothing else is due", 50, () -> x.order(0, 0));
        due("the coupon is lost all the same", 0, () -> x.order(0, 2));
        due("the piece is back all the same", 1, () -> x.order(0, 3));
        due("never more than was paid", 50, () -> x.giveBack(0, 0, 1));
        x.put(0, 2);
        x.setUses(0, 9);
        x.addCoupon(1, 100, 1, 200, 0);
        x.buy(2);
        due("the goods stay the same", 0, () -> x.giveBack(1, 0, 1));
        due("paid still", 100, () -> x.order(1, 0));
    }

    private static void giveBackWithoutUses() {
        CouponDesk x = oneArticle(100, 4);
        x.addCoupon(0, 10, 1, 0, 0);
        x.addCoupon(2, 2, 1, 0, 0);
        x.addCoupon(3, 0, 1, 300, 0);
        x.addCoupon(1, 1, 1, 0, 0);
        x.setShipping(30, 1000);
        x.buy(7);
        x.setUses(0, 0);
        x.setUses(1, 0);
        due("paid", 180, () -> x.order(0, 0));
        due("three pieces cost as much as four", 0, () -> x.giveBack(0, 0, 1));
        due("freight still acts", 7, () -> x.order(0, 2));
        due("coupons without a use still act", 90, () -> x.giveBack(0, 0, 1));
        due("freight is lost", 3, () -> x.order(0, 2));
        due("no fee comes with that", 0, () -> x.order(0, 1));
        due("one piece costs as much as two", 0, () -> x.giveBack(0, 0, 1));
        due("a bundle of one piece", 3, () -> x.order(0, 2));
        due("the last one", 90, () -> x.giveBack(0, 0, 1));
        due("no coupon matches nothing", 0, () -> x.order(0, 2));
    }

    private static void orderCount() {
        CouponDesk x = oneArticle(100, 1);
        due("none", 0, () -> x.orderCount());
        x.buy(0);
        due("one", 1, () -> x.orderCount());
        due("an empty basket is not bought", STATE, () -> x.buy(0));
        due("still one", 1, () -> x.orderCount());
        x.put(0, 1);
        x.buy(0);
        x.giveBack(0, 0, 1);
        due("two, though one came back", 2, () -> x.orderCount());
    }

    private static void order() {
        CouponDesk x = threeArticles();
        x.setShipping(490, 1000000);
        x.addCoupon(0, 10, 2, 0, 0);
        x.addCoupon(1, 50, 1, 0, 0);
        x.buy(3);
        x.setShipping(1, 0);
        x.setPrice(0, 1);
        int[] first = {3049 - 99 - 50, 490, 3, 6, 3049};
        for (int what = 0; what < 5; what++) {
            int number = what;
            due("order(0, " + what + ")", first[what], () -> x.order(0, number));
        }
        x.giveBack(0, 1, 3);
        int[] then = {2000, 490, 2, 3, 2050};
        for (int what = 0; what < 5; what++) {
            int number = what;
            due("then order(0, " + what + ")", then[what], () -> x.order(0, number));
        }
        for (int bad : new int[] {-1, 1, 12, MIN, MAX}) {
            refused("order(" + bad + ", 0)", x, INDEX, () -> x.order(bad, 0));
        }
        for (int bad : new int[] {-1, 5, MIN, MAX}) {
            refused("order(0, " + bad + ")", x, INDEX, () -> x.order(0, bad));
        }
    }

    private static void pieces() {
        CouponDesk x = threeArticles();
        x.buy(0);
        x.put(0, 1);
        x.put(1, 6);
        x.buy(0);
        x.addArticle(1, 0);
        x.giveBack(0, 1, 2);
        int[][] want = {{2, 1, 1, 0}, {1, 6, 0, 0}};
        for (int order = 0; order < 2; order++) {
            for (int article = 0; article < 4; article++) {
                int o = order;
                int a = article;
                due("pieces(" + o + ", " + a + ")", want[o][a], () -> x.pieces(o, a));
            }
        }
        for (int bad : new int[] {-1, 2, 12, MIN, MAX}) {
            refused("pieces(" + bad + ", 0)", x, INDEX, () -> x.pieces(bad, 0));
        }
        for (int bad : new int[] {-1, 4, 10, MIN, MAX}) {
            refused("pieces(0, " + bad + ")", x, INDEX, () -> x.pieces(0, bad));
        }
    }

    private static void level() {
        CouponDesk x = oneArticle(100, 2);
        x.setShipping(50, 1000);
        due("no order", 1.0, () -> x.level());
        x.addCoupon(1, 150, 1, 200, 0);
        x.buy(1);
        due("a quarter, without the fee", 0.25, () -> x.level());
        x.giveBack(0, 0, 1);
        due("a half", 0.5, () -> x.level());
        x.setPrice(0, 200);
        x.put(0, 1);
        x.buy(0);
        due("two orders", 250.0 / 300.0, () -> x.level());
        x.giveBack(0, 0, 1);
        due("one of them is empty", 1.0, () -> x.level());
        x.addCoupon(0, 100, 1, 0, 0);
        x.giveBack(1, 0, 1);
        due("all came back", 1.0, () -> x.level());
        x.put(0, 1);
        x.buy(2);
        due("nothing was paid", 0.0, () -> x.level());
    }

    private static void digest() {
        CouponDesk x = threeArticles();
        x.setShipping(490, 777);
        x.addCoupon(1, 49, 3, 123, 2);
        x.addCoupon(3, 0, 255, 0, 3);
        x.setUses(1, 4);
        due("before an order", checksum(3, 1000, 0, 2, 333, 1, 3, 50, 0, 1, 490, 777,
            2, 1, 49, 3, 123, 2, 9, 3, 0, 255, 0, 3, 4, 0), () -> x.digest());
        x.buy(3);
        due("with an order", checksum(3, 1000, 0, 0, 333, 1, 0, 50, 0, 0, 490, 777,
            2, 1, 49, 3, 123, 2, 8, 3, 0, 255, 0, 3, 3, 1, 3000, 0, 3, 6, 3049), () -> x.digest());
        x.put(2, 6);
        x.buy(0);
        due("with two", checksum(3, 1000, 0, 0, 333, 1, 0, 50, 0, 0, 490, 777,
            2, 1, 49, 3, 123, 2, 8, 3, 0, 255, 0, 3, 3, 2, 3000, 0, 3, 6, 3049, 300, 490, 0, 6, 300), () -> x.digest());
        due("asking changes nothing", x.digest(), () -> x.digest());
    }

    private static void check(String name, Runnable test) {
        promise = name;
        test.run();
    }

    public static void main(String[] args) {
        check("promise 1, a new object", PromisesTest::newObject);
        check("promise 2, addArticle", PromisesTest::addArticle);
        check("promise 3, setPrice", PromisesTest::setPrice);
        check("promise 4, put", PromisesTest::put);
        check("promise 5, value", PromisesTest::value);
        check("promise 6, setShipping", PromisesTest::setShipping);
        check("promise 7, addCoupon", PromisesTest::addCoupon);
        check("promise 8, setUses", PromisesTest::setUses);
        check("promise 9, matching", PromisesTest::matching);
        check("promise 10, fits", PromisesTest::fits);
        check("promise 11, missing", PromisesTest::missing);
        check("promise 12, isAllowed", PromisesTest::isAllowed);
        check("promise 13, goods", PromisesTest::goods);
        check("promise 14, total", PromisesTest::total);
        check("promise 15, rest", PromisesTest::rest);
        check("promise 16, best", PromisesTest::best);
        check("promise 17, worth", PromisesTest::worth);
        check("promise 18, buy", PromisesTest::buy);
        check("promise 19, giveBack", PromisesTest::giveBack);
        check("promise 20, orderCount", PromisesTest::orderCount);
        check("promise 21, order", PromisesTest::order);
        check("promise 22, pieces", PromisesTest::pieces);
        check("promise 23, level", PromisesTest::level);
        check("promise 24, digest", PromisesTest::digest);
        System.out.println(wrong == 0 ? "all answers are as due" : wrong + " answers are not as due");
        if (wrong != 0) {
            System.exit(1);
        }
    }
}
