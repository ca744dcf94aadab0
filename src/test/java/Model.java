import java.util.ArrayList;
import java.util.List;
import java.util.NoSuchElementException;

/** The document a second time, with lists, copies and recursion, to be compared with the program. */
final class Model {
    private static final class Lot {
        int made;
        int left;
        int generation;
        int harvest = -1;
        final List<int[]> parts = new ArrayList<>();
        final int[] shares = new int[12];

        Lot copy() {
            Lot lot = new Lot();
            lot.made = made;
            lot.left = left;
            lot.generation = generation;
            lot.harvest = harvest;
            lot.parts.addAll(parts);
            System.arraycopy(shares, 0, lot.shares, 0, 12);
            return lot;
        }
    }

    private static final class World {
        final List<Lot> lots = new ArrayList<>();
        final List<int[]> harvests = new ArrayList<>();
        final List<int[]> bottlings = new ArrayList<>();
        final List<Integer> kinds = new ArrayList<>();
        final List<int[]> held = new ArrayList<>();
        final List<int[]> wished = new ArrayList<>();
        final int[] law = {850, 850, 750};
        int spilled;

        World copy() {
            World world = new World();
            lots.forEach(lot -> world.lots.add(lot.copy()));
            world.harvests.addAll(harvests);
            bottlings.forEach(bottling -> world.bottlings.add(bottling.clone()));
            world.kinds.addAll(kinds);
            held.forEach(row -> world.held.add(row.clone()));
            wished.forEach(row -> world.wished.add(row.clone()));
            System.arraycopy(law, 0, world.law, 0, 3);
            world.spilled = spilled;
            return world;
        }
    }

    private static final String NUMBER = "(0|[1-9][0-9]{0,3})";

    private World world = new World();
    private World saved;
    private final List<World> before = new ArrayList<>();
    private String input = "";
    private Integer reason;
    private Integer position;

    private static void range(int number, int least, int most) {
        if (number < least || number > most) {
            throw new IllegalArgumentException();
        }
    }

    private static void index(int number, List<?> of) {
        if (number < 0 || number >= of.size()) {
            throw new IndexOutOfBoundsException();
        }
    }

    private void change() {
        before.add(world.copy());
        if (before.size() > 8) {
            before.remove(0);
        }
    }

    private IllegalStateException refuse(int why) {
        reason = why;
        return new IllegalStateException();
    }

    int harvest(int vintage, int grape, int region, int quarters) {
        range(vintage, 0, 99);
        range(grape, 0, 4);
        range(region, 0, 3);
        range(quarters, 1, 9999);
        if (world.lots.size() == 24 || world.harvests.size() == 12) {
            throw new IllegalStateException();
        }
        change();
        Lot lot = new Lot();
        lot.made = quarters;
        lot.left = quarters;
        lot.harvest = world.harvests.size();
        lot.shares[lot.harvest] = 1000;
        world.harvests.add(new int[] {lot.harvest, vintage, grape, region});
        world.lots.add(lot);
        return world.lots.size() - 1;
    }

    private static boolean canBegin(String text) {
        return text.matches("(N:N\\+){0,3}(N(:N?)?)?".replace("N", NUMBER));
    }

    private static boolean isBlend(String text) {
        return text.matches("N:N(\\+N:N){1,3}".replace("N", NUMBER));
    }

    int blend() {
        String text = input;
        input = "";
        if (!isBlend(text)) {
            int good = 0;
            while (good < text.length() && canBegin(text.substring(0, good + 1))) {
                good++;
            }
            position = good;
            throw new IllegalArgumentException();
        }
        List<int[]> parts = new ArrayList<>();
        for (String part : text.split("\\+")) {
            String[] two = part.split(":");
            parts.add(new int[] {Integer.parseInt(two[0]), Integer.parseInt(two[1])});
        }
        if (parts.stream().anyMatch(part -> part[1] == 0)) {
            throw new IllegalArgumentException();
        }
        long different = parts.stream().mapToInt(part -> part[0]).distinct().count();
        if (different < parts.size() || parts.stream().anyMatch(part -> part[0] >= world.lots.size())) {
            throw refuse(1);
        }
        if (parts.stream().anyMatch(part -> part[1] > world.lots.get(part[0]).left)) {
            throw refuse(2);
        }
        int generation = 1 + parts.stream().mapToInt(part -> world.lots.get(part[0]).generation).max().getAsInt();
        if (generation > 4) {
            throw refuse(3);
        }
        if (world.lots.size() >= 24) {
            throw refuse(4);
        }
        change();
        Lot lot = new Lot();
        lot.generation = generation;
        lot.parts.addAll(parts);
        for (int[] part : parts) {
            lot.made += part[1];
            world.lots.get(part[0]).left -= part[1];
        }
        lot.left = lot.made;
        mixShares(lot);
        world.lots.add(lot);
        return world.lots.size() - 1;
    }

    private void mixShares(Lot lot) {
        int missing = 1000;
        List<long[]> remainders = new ArrayList<>();
        for (int harvest = 0; harvest < 12; harvest++) {
            long sum = 0;
            for (int[] part : lot.parts) {
                sum += (long) part[1] * world.lots.get(part[0]).shares[harvest];
            }
            lot.shares[harvest] = (int) (sum / lot.made);
            missing -= lot.shares[harvest];
            remainders.add(new long[] {sum % lot.made, harvest});
        }
        remainders.sort((a, b) -> a[0] != b[0] ? Long.compare(b[0], a[0]) : Long.compare(a[1], b[1]));
        for (int i = 0; i < missing; i++) {
            lot.shares[(int) remainders.get(i)[1]]++;
        }
    }

    int spill(int lot, int quarters) {
        index(lot, world.lots);
        range(quarters, 1, Math.min(9999, world.lots.get(lot).left));
        change();
        world.lots.get(lot).left -= quarters;
        world.spilled += quarters;
        return world.lots.get(lot).left;
    }

    int lot(int lot, int what) {
        index(lot, world.lots);
        range(what, 0, 6);
        Lot one = world.lots.get(lot);
        int above = 0;
        for (int share : one.shares) {
            above += share > 0 ? 1 : 0;
        }
        int blends = 0;
        for (Lot other : world.lots) {
            blends += other.parts.stream().anyMatch(part -> part[0] == lot) ? 1 : 0;
        }
        return new int[] {one.made, one.left, one.parts.size(), one.generation, one.harvest, above, blends}[what];
    }

    int part(int lot, int part, int what) {
        index(lot, world.lots);
        if (part < 0 || part >= world.lots.get(lot).parts.size()) {
            throw new NoSuchElementException();
        }
        range(what, 0, 1);
        return world.lots.get(lot).parts.get(part)[what];
    }

    int share(int lot, int what, int number) {
        index(lot, world.lots);
        range(what, 0, 3);
        range(number, 0, new int[] {world.harvests.size() - 1, 99, 4, 3}[what]);
        int sum = 0;
        for (int[] harvest : world.harvests) {
            sum += harvest[what] == number ? world.lots.get(lot).shares[harvest[0]] : 0;
        }
        return sum;
    }

    int greatest(int lot, int index) {
        index(lot, world.lots);
        List<int[]> order = new ArrayList<>();
        for (int harvest = 0; harvest < 12; harvest++) {
            int share = world.lots.get(lot).shares[harvest];
            if (share > 0) {
                order.add(new int[] {-share, harvest});
            }
        }
        order.sort((a, b) -> a[0] != b[0] ? a[0] - b[0] : a[1] - b[1]);
        if (index < 0 || index >= order.size()) {
            throw new NoSuchElementException();
        }
        return order.get(index)[1];
    }

    double meanVintage(int lot) {
        index(lot, world.lots);
        double sum = 0;
        for (int[] harvest : world.harvests) {
            sum += (double) world.lots.get(lot).shares[harvest[0]] * (double) harvest[1];
        }
        return sum / 1000.0;
    }

    int setLaw(int what, int threshold) {
        if (what < 0 || what > 2) {
            throw new IndexOutOfBoundsException();
        }
        range(threshold, 500, 1000);
        change();
        int previous = world.law[what];
        world.law[what] = threshold;
        return previous;
    }

    private void label(int vintage, int grape, int second, int region) {
        range(vintage, -1, 99);
        range(grape, -1, 4);
        range(second, -1, 4);
        range(region, -1, 3);
        if (second >= 0 && grape < 0 || second >= 0 && grape == second) {
            throw new IllegalArgumentException();
        }
    }

    int bottle(int lot, int bottles, int vintage, int grape, int second, int region) {
        index(lot, world.lots);
        range(bottles, 1, 3333);
        label(vintage, grape, second, region);
        if (world.lots.get(lot).left < 3 * bottles) {
            throw refuse(5);
        }
        int forbidden = forbids(lot, vintage, grape, second, region);
        if (forbidden != 0) {
            throw refuse(forbidden);
        }
        if (world.bottlings.size() >= 16) {
            throw refuse(9);
        }
        change();
        world.lots.get(lot).left -= 3 * bottles;
        world.bottlings.add(new int[] {lot, bottles, bottles, vintage, grape, second, region});
        return world.bottlings.size() - 1;
    }

    int forbids(int lot, int vintage, int grape, int second, int region) {
        index(lot, world.lots);
        label(vintage, grape, second, region);
        if (vintage != -1 && share(lot, 1, vintage) < world.law[0]) {
            return 6;
        }
        if (grape != -1 && second == -1 && share(lot, 2, grape) < world.law[1]) {
            return 7;
        }
        if (second != -1) {
            int one = share(lot, 2, grape);
            int two = share(lot, 2, second);
            if (one < two || two == 0 || one + two < world.law[1]) {
                return 7;
            }
        }
        return region != -1 && share(lot, 3, region) < world.law[2] ? 8 : 0;
    }

    private List<Integer> list(int bottling) {
        List<Integer> list = new ArrayList<>();
        for (int customer = 0; customer < world.kinds.size(); customer++) {
            if (world.held.get(customer)[bottling] < world.wished.get(customer)[bottling]) {
                list.add(customer);
            }
        }
        list.sort((a, b) -> world.kinds.get(a) - world.kinds.get(b));
        return list;
    }

    int bottling(int bottling, int what) {
        index(bottling, world.bottlings);
        range(what, 0, 8);
        int[] one = world.bottlings.get(bottling);
        if (what == 7) {
            return list(bottling).size();
        }
        if (what == 8) {
            return forbids(one[0], one[3], one[4], one[5], one[6]) == 0 ? 1 : 0;
        }
        return one[what];
    }

    int reason() {
        if (reason == null) {
            throw new NoSuchElementException();
        }
        return reason;
    }

    int addCustomer(int kind) {
        range(kind, 0, 2);
        if (world.kinds.size() == 8) {
            throw new IllegalStateException();
        }
        change();
        world.kinds.add(kind);
        world.held.add(new int[16]);
        world.wished.add(new int[16]);
        return world.kinds.size() - 1;
    }

    int wish(int customer, int bottling, int bottles) {
        index(customer, world.kinds);
        index(bottling, world.bottlings);
        range(bottles, 0, 3333);
        change();
        int previous = world.wished.get(customer)[bottling];
        world.wished.get(customer)[bottling] = bottles;
        return previous;
    }

    int serve(int bottling) {
        index(bottling, world.bottlings);
        change();
        int[] one = world.bottlings.get(bottling);
        int given = 0;
        for (List<Integer> list = list(bottling); one[2] > 0 && !list.isEmpty(); list = list(bottling)) {
            for (int customer : list) {
                int missing = world.wished.get(customer)[bottling] - world.held.get(customer)[bottling];
                int portion = new int[] {12, 6, 3}[world.kinds.get(customer)];
                int gets = Math.min(Math.min(missing, portion), one[2]);
                world.held.get(customer)[bottling] += gets;
                one[2] -= gets;
                given += gets;
            }
        }
        return given;
    }

    int giveBack(int customer, int bottling, int bottles) {
        index(customer, world.kinds);
        index(bottling, world.bottlings);
        range(bottles, 1, Math.min(3333, world.held.get(customer)[bottling]));
        change();
        world.bottlings.get(bottling)[2] += bottles;
        int still = world.held.get(customer)[bottling] - bottles;
        world.held.get(customer)[bottling] = still;
        if (world.wished.get(customer)[bottling] > still) {
            world.wished.get(customer)[bottling] = still;
        }
        return still;
    }

    int holds(int customer, int bottling, int what) {
        index(customer, world.kinds);
        index(bottling, world.bottlings);
        range(what, 0, 2);
        return new int[] {world.held.get(customer)[bottling], world.wished.get(customer)[bottling],
            list(bottling).indexOf(customer)}[what];
    }

    int listed(int bottling, int index) {
        index(bottling, world.bottlings);
        if (index < 0 || index >= list(bottling).size()) {
            throw new NoSuchElementException();
        }
        return list(bottling).get(index);
    }

    private boolean goesInto(int lot, int into) {
        return lot == into || world.lots.get(into).parts.stream().anyMatch(part -> goesInto(lot, part[0]));
    }

    int recalled(int lot) {
        index(lot, world.lots);
        int set = 0;
        for (int bottling = 0; bottling < world.bottlings.size(); bottling++) {
            set += goesInto(lot, world.bottlings.get(bottling)[0]) ? 1 << bottling : 0;
        }
        return set;
    }

    int recalledAgain(int lot) {
        return recalled(lot);
    }

    int bottlesOf(int lot, int customer) {
        index(lot, world.lots);
        if (customer != -1) {
            index(customer, world.kinds);
        }
        int sum = 0;
        for (int bottling = 0; bottling < world.bottlings.size(); bottling++) {
            if (goesInto(lot, world.bottlings.get(bottling)[0])) {
                sum += customer == -1 ? world.bottlings.get(bottling)[2] : world.held.get(customer)[bottling];
            }
        }
        return sum;
    }

    int ways(int lot, int into) {
        index(lot, world.lots);
        index(into, world.lots);
        return lot == into ? 1 : world.lots.get(into).parts.stream().mapToInt(part -> ways(lot, part[0])).sum();
    }

    int account(int what) {
        range(what, 0, 11);
        int left = world.lots.stream().mapToInt(lot -> lot.left).sum();
        int all = world.lots.stream().filter(lot -> lot.harvest >= 0).mapToInt(lot -> lot.made).sum();
        int bottles = world.bottlings.stream().mapToInt(bottling -> bottling[1]).sum();
        int stock = world.bottlings.stream().mapToInt(bottling -> bottling[2]).sum();
        return new int[] {all, left, 3 * bottles, all - left - 3 * bottles, stock, bottles - stock, world.lots.size(),
            world.harvests.size(), world.bottlings.size(), world.kinds.size(), before.size(), input.length()}[what];
    }

    int feed(char character) {
        if (input.length() == 40) {
            throw new IllegalStateException();
        }
        input += character;
        return input.length();
    }

    int errorPosition() {
        if (position == null) {
            throw new NoSuchElementException();
        }
        return position;
    }

    int undo() {
        if (before.isEmpty()) {
            throw new IllegalStateException();
        }
        world = before.remove(before.size() - 1);
        return before.size();
    }

    int save() {
        saved = world.copy();
        return world.lots.size();
    }

    int restore() {
        if (saved == null) {
            throw new IllegalStateException();
        }
        world = saved.copy();
        before.clear();
        return world.lots.size();
    }
}
