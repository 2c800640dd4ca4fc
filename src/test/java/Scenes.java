/** Loops from which tests start. */
final class Scenes {
    private Scenes() {
    }

    /** Brands 0 and 1 of kind 0, brand 2 of kind 1; shops with 5000 and 700; 10 crates; nothing is filled. */
    static BottleLoop empty() {
        BottleLoop x = new BottleLoop();
        x.addBrand(0, 100);
        x.addBrand(0, 60);
        x.addBrand(1, 40);
        x.addShop(5000);
        x.addShop(700);
        x.buyCrates(10);
        return x;
    }

    /** As before, but 43, 57 and 38 bottles are full: setting 5 is 20, so two, three and one wore out. */
    static BottleLoop filled() {
        BottleLoop x = empty();
        x.fill(0, 45);
        x.fill(1, 60);
        x.fill(2, 39);
        return x;
    }

    /** Shop 0 has 24 full bottles of brand 0 and 12 of brand 1, three crates and 4244; shop 1 has nothing but 700. */
    static BottleLoop delivered() {
        BottleLoop x = filled();
        x.deliver(0, 0, 2);
        x.deliver(1, 0, 1);
        return x;
    }

    /** Of these, 20 of brand 0 and 12 of brand 1 are empty in shop 0 again; 4 full ones of brand 0 are left. */
    static BottleLoop takenBack() {
        BottleLoop x = delivered();
        x.sell(0, 0, 20);
        x.sell(0, 1, 12);
        x.takeBack(0, 0, 20);
        x.takeBack(0, 1, 12);
        return x;
    }

    static void write(BottleLoop x, String text) {
        for (int i = 0; i < text.length(); i++) {
            x.append(text.charAt(i));
        }
    }

    /** All that can be looked at, but for the number of the saved states. */
    static String picture(BottleLoop x) {
        StringBuilder text = new StringBuilder();
        for (int what = 0; what < 10; what++) {
            text.append(x.count(what)).append(' ');
        }
        for (int setting = 0; setting < 6; setting++) {
            text.append(x.setting(setting)).append(' ');
        }
        for (int brand = 0; brand < x.count(0); brand++) {
            for (int what = 0; what < 12; what++) {
                text.append(x.brand(brand, what)).append(' ');
            }
        }
        for (int shop = 0; shop < x.count(1); shop++) {
            for (int what = 0; what < 28; what++) {
                boolean isNumber = what <= 6 || what >= 10 && what <= 17 || what >= 20;
                text.append(isNumber ? x.shop(shop, what) : 0).append(' ');
            }
        }
        return text.toString();
    }

    /** How a row of orders ends: what run() answers and the reason, as one text. */
    static String runOf(BottleLoop x, String text) {
        x.clearBuffer();
        write(x, text);
        return Checks.outcome(x::run) + " reason " + x.count(9);
    }
}
