/** Loops from which tests start. */
final class Scenes {
    private Scenes() {
    }

    /** Brands 0 and 1 of kind 0, brand 2 of kind 1; shops with 5000 and 700; 10 crates; nothing is filled. */
    static BottleLoop empty() {
        BottleLoop x = new BottleLoop();
        x.addBrand(0, 100);
        x.addBrand(0, 60);
        x.addBrand(1, 40);
        x.addShop(5000);
        x.addShop(700);
        x.buyCrates(10);
        return x;
    }

    /** As before, but 43, 57 and 38 bottles are full: setting 5 is 20, so two, three and one wore out. */
    static BottleLoop filled() {
        BottleLoop x = empty();
        x.fill(0, 45);
        x.fill(1, 60);
        x.fill(2, 39);
        return x;
    }

    /** Shop 0 has 24 full bottles of brand 0 and 12 of brand 1, three crates and 4244; shop 1 has nothing but 700. */
    static BottleLoop delivered() {
        BottleLoop x = filled();
        x.deliver(0, 0, 2);
        x.deliver(1, 0, 1);
        return x;
    }

    /** Of these, 20 of brand 0 and 12 of brand 1 are empty in shop 0 again; 4 full ones of brand 0 are left. */
    static BottleLoop takenBack() {
        BottleLoop x = delivered();
        x.sell(0, 0, 20);
        x.sell(0, 1, 12);
        x.takeBack(0, 0, 20);
        x.takeBack(0, 1, 12);
        return x;
    }

    /**
     * Brands of kind 0 and shops, so many: each brewery has 20 empty bottles and some full ones, each shop 2 crates, 4
     * full and 14 empty bottles of each brand; 6 of each brand are out for each shop. Six states are saved.
     */
    static BottleLoop busy(int brands, int shops) {
        BottleLoop x = new BottleLoop();
        for (int shop = 0; shop < shops; shop++) {
            x.addShop(100000);
        }
        x.buyCrates(500);
        for (int brand = 0; brand < brands; brand++) {
            x.addBrand(0, 200);
            x.fill(brand, 180);
            for (int shop = 0; shop < shops; shop++) {
                x.deliver(brand, shop, 2);
                x.sell(shop, brand, 20);
                x.takeBack(shop, brand, 14);
            }
        }
        for (int i = 0; i < 6; i++) {
            x.buyCrates(1);
        }
        return x;
    }

    /** As a busy loop of three brands and two shops, but two more states can be saved. */
    static BottleLoop roomy() {
        BottleLoop x = busy(3, 2);
        x.undo();
        x.undo();
        return x;
    }

    /** Brand 0 has so many full bottles, up to 999, none of them worn out; a crate of them costs the shop 252. */
    static BottleLoop stocked(int full, int crates, int money) {
        BottleLoop x = new BottleLoop();
        x.set(5, 1000);
        x.addBrand(0, full);
        x.addShop(money);
        if (crates > 0) {
            x.buyCrates(crates);
        }
        if (full > 0) {
            x.fill(0, full);
        }
        return x;
    }

    /** 24 bottles of brand 0 are out; shop 2 has so much money. */
    static BottleLoop sold(int money) {
        BottleLoop x = Scenes.delivered();
        x.addShop(money);
        x.sell(0, 0, 24);
        return x;
    }

    /** 600 full bottles of a kind in the brewery, 50 crates, a rich shop, and these prices. */
    static BottleLoop priced(int kind, int bottle, int crate, int pool) {
        BottleLoop x = new BottleLoop();
        x.set(kind, bottle);
        x.set(3, crate);
        x.set(4, pool);
        x.set(5, 1000);
        x.addBrand(kind, 600);
        x.addShop(100000);
        x.buyCrates(50);
        x.fill(0, 600);
        return x;
    }

    /**
     * Six brands, two of each kind, with numbers that differ from those of their kinds, and four shops; at each place
     * there are some bottles of each brand, but in the yard, and not as many of each.
     */
    static BottleLoop varied() {
        BottleLoop x = new BottleLoop();
        for (int shop = 0; shop < 4; shop++) {
            x.addShop(30000 + 1000 * shop);
        }
        x.buyCrates(90);
        for (int brand = 0; brand < 6; brand++) {
            x.addBrand((brand + 2) % 3, 300 + brand);
            x.fill(brand, 240 + brand);
            for (int shop = 0; shop < 4; shop++) {
                x.deliver(brand, shop, 3);
                x.sell(shop, brand, 24 + (2 * brand + shop) % 5);
                x.takeBack(shop, brand, 15 + (brand + 3 * shop) % 7);
            }
        }
        return x;
    }

    /** Shop 0 has so many empty bottles of brand 0, 1 to 500, and the crates in which these just find room. */
    static BottleLoop returned(int empty) {
        int crates = (empty + 11) / 12;
        BottleLoop x = stocked(12 * crates, crates, 50000);
        x.addShop(50000);
        x.deliver(0, 0, crates);
        x.sell(0, 0, empty);
        x.takeBack(0, 0, empty);
        return x;
    }

    /** Shop 1 has so many empty bottles of brand 0, 1 to 120, and so many crates; others are still out. */
    static BottleLoop backElsewhere(int empty, int crates) {
        BottleLoop x = returned(120);
        x.undo();
        x.addBrand(1, 120);
        x.fill(1, 120);
        x.buyCrates(10);
        if (crates > 0) {
            x.deliver(1, 1, crates);
        }
        x.takeBack(1, 0, empty);
        return x;
    }

    /** A crate of kind 0 costs 12 alone, and of 1000 fillings one wears a bottle out. */
    static BottleLoop cheap() {
        BottleLoop x = new BottleLoop();
        x.set(0, 1);
        x.set(3, 0);
        x.set(4, 0);
        x.set(5, 1000);
        return x;
    }

    /** Brands 0 and 1 of kind 0 with 5000 bottles each, 4995 of brand 0 full; 1000 crates; two shops; low deposits. */
    static BottleLoop great() {
        BottleLoop x = cheap();
        x.addBrand(0, 5000);
        x.addBrand(0, 5000);
        x.addShop(100000);
        x.addShop(100000);
        x.buyCrates(500);
        x.buyCrates(500);
        x.fill(0, 5000);
        return x;
    }

    /** Shop 0 has 600 full bottles of brand 0, in 50 crates. */
    static BottleLoop greatShop() {
        BottleLoop x = great();
        x.deliver(0, 0, 50);
        return x;
    }

    /** As greatShop(), and these bottles are out. */
    static BottleLoop greatSale() {
        BottleLoop x = greatShop();
        x.sell(0, 0, 500);
        x.sell(0, 0, 100);
        return x;
    }

    /** As greatSale(), and shop 0 has these bottles again, empty. */
    static BottleLoop greatReturn() {
        BottleLoop x = greatSale();
        x.takeBack(0, 0, 500);
        x.takeBack(0, 0, 100);
        return x;
    }

    /** 5040 bottles of brand 0 are out. */
    static BottleLoop greatOut() {
        BottleLoop x = great();
        x.swap(1, 0, 100);
        x.fill(0, 100);
        for (int i = 0; i < 10; i++) {
            x.deliver(0, 0, 42);
            x.sell(0, 0, 500);
            x.sell(0, 0, 4);
        }
        return x;
    }

    /** 4800 bottles of brand 0 and 600 of brand 1 are in the yard. */
    static BottleLoop greatYard() {
        BottleLoop x = great();
        x.fill(1, 700);
        for (int round = 0; round < 9; round++) {
            int brand = round < 8 ? 0 : 1;
            x.deliver(brand, 0, 50);
            x.sell(0, brand, 500);
            x.sell(0, brand, 100);
            x.takeBack(0, brand, 500);
            x.takeBack(0, brand, 100);
            x.collect(0, 0, 50);
        }
        return x;
    }

    static void write(BottleLoop x, String text) {
        for (int i = 0; i < text.length(); i++) {
            x.append(text.charAt(i));
        }
    }

    /** All that can be looked at, but for the number of the saved states. */
    static String picture(BottleLoop x) {
        StringBuilder text = new StringBuilder();
        for (int what = 0; what < 10; what++) {
            text.append(x.count(what)).append(' ');
        }
        for (int setting = 0; setting < 6; setting++) {
            text.append(x.setting(setting)).append(' ');
        }
        for (int brand = 0; brand < x.count(0); brand++) {
            for (int what = 0; what < 12; what++) {
                text.append(x.brand(brand, what)).append(' ');
            }
        }
        for (int shop = 0; shop < x.count(1); shop++) {
            for (int what = 0; what < 28; what++) {
                boolean isNumber = what <= 6 || what >= 10 && what <= 17 || what >= 20;
                text.append(isNumber ? x.shop(shop, what) : 0).append(' ');
            }
        }
        return text.toString();
    }

    /** How a row of orders ends: what run() answers and the reason, as one text. */
    static String runOf(BottleLoop x, String text) {
        x.clearBuffer();
        write(x, text);
        return Checks.outcome(x::run) + " reason " + x.count(9);
    }
}
