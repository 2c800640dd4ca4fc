import java.util.ArrayList;
import java.util.List;

/** The hash of promise 31, from the answers of the other methods. */
final class Hash {
    private Hash() {
    }

    static long ofValues(long... values) {
        long hash = 2411;
        for (long value : values) {
            hash = 31 * hash + value;
        }
        return hash;
    }

    static long of(BottleLoop x, String buffer) {
        List<Long> values = new ArrayList<>();
        for (int what = 0; what <= 10; what++) {
            values.add((long) x.count(what));
        }
        for (int setting = 0; setting <= 5; setting++) {
            values.add((long) x.setting(setting));
        }
        for (int brand = 0; brand < x.count(0); brand++) {
            addBrand(values, x, brand);
        }
        for (int shop = 0; shop < x.count(1); shop++) {
            for (int what = 0; what <= 27; what++) {
                if (what <= 6 || what >= 10 && what <= 17 || what >= 20) {
                    values.add((long) x.shop(shop, what));
                }
            }
        }
        for (int kind = 0; kind <= 2; kind++) {
            values.add((long) x.bestShop(kind));
        }
        for (int shop = 0; shop < x.count(1); shop++) {
            for (int brand = 0; brand < x.count(0); brand++) {
                values.add((long) x.collected(shop, brand, 1));
            }
        }
        values.add(Double.doubleToLongBits(x.goneShare()));
        values.add((long) buffer.length());
        buffer.chars().forEach(code -> values.add((long) code));
        long[] row = new long[values.size()];
        for (int i = 0; i < row.length; i++) {
            row[i] = values.get(i);
        }
        return ofValues(row);
    }

    private static void addBrand(List<Long> values, BottleLoop x, int brand) {
        for (int what = 0; what <= 11; what++) {
            values.add((long) x.brand(brand, what));
        }
        values.add((long) x.filled(brand, 25));
        for (int shop = 0; shop < x.count(1); shop++) {
            values.add((long) x.mostCrates(brand, shop));
        }
    }
}
