import java.util.NoSuchElementException;

/** A bottling book of a winery; ../shared/DOC.md says what each call does. */
public final class BottlingBook {
    private static final int MOST_LOTS = 24;
    private static final int MOST_HARVESTS = 12;
    private static final int LEAST_PARTS = 2;
    private static final int MOST_PARTS = 4;
    private static final int MOST_BOTTLINGS = 16;
    private static final int MOST_CUSTOMERS = 8;
    private static final int MOST_UNDONE = 8;
    private static final int MOST_SIGNS = 40;
    private static final int MOST_DIGITS = 4;
    private static final int MOST_QUARTERS = 9999;
    private static final int MOST_BOTTLES = 3333;
    private static final int MOST_GENERATION = 4;

    private static final int VINTAGES = 100;
    private static final int GRAPES = 5;
    private static final int REGIONS = 4;
    private static final int KINDS = 3;

    private static final int WHOLE = 1000;
    private static final int BOTTLE_QUARTERS = 3;
    private static final int LEAST_THRESHOLD = 500;
    private static final int NONE = -1;

    private static final int BY_HARVEST = 0;
    private static final int BY_VINTAGE = 1;
    private static final int BY_GRAPE = 2;
    private static final int BY_REGION = 3;

    private static final int NO_REFUSAL = 0;
    private static final int WRONG_PARTS = 1;
    private static final int PART_TOO_GREAT = 2;
    private static final int GENERATION_TOO_HIGH = 3;
    private static final int TOO_MANY_LOTS = 4;
    private static final int LOT_TOO_SMALL = 5;
    private static final int WRONG_VINTAGE = 6;
    private static final int WRONG_GRAPES = 7;
    private static final int WRONG_REGION = 8;
    private static final int TOO_MANY_BOTTLINGS = 9;

    private final State now = new State();
    private final State saved = new State();
    private final History history = new History();
    private final Input input = new Input();
    private final Table line = new Table(1, MOST_CUSTOMERS);
    private final Table remainders = new Table(1, MOST_HARVESTS);
    private final Table wayCounts = new Table(1, MOST_LOTS);
    private boolean hasSaved = false;
    private int keptReason = NONE;
    private int keptPosition = NONE;

    public BottlingBook() {
    }

    // ---- lots

    public int harvest(int vintage, int grape, int region, int quarters)
            throws IllegalArgumentException, IllegalStateException {
        requireNumber(vintage, 0, VINTAGES - 1);
        requireNumber(grape, 0, GRAPES - 1);
        requireNumber(region, 0, REGIONS - 1);
        requireNumber(quarters, 1, MOST_QUARTERS);
        if (now.lots.count >= MOST_LOTS || now.lots.harvests >= MOST_HARVESTS) {
            throw new IllegalStateException("there is no room for a harvest");
        }
        history.remember(now);
        return now.lots.bringIn(vintage, grape, region, quarters);
    }

    public int blend() throws IllegalArgumentException, IllegalStateException {
        boolean sound = input.readBlend();
        input.length = 0;
        if (!sound) {
            keptPosition = input.position;
            throw new IllegalArgumentException("the text has an error");
        }
        if (input.hasEmptyPart()) {
            throw new IllegalArgumentException("a number of quarters is 0");
        }
        requireNoRefusal(now.lots.refusalOf(input));
        history.remember(now);
        return now.lots.mix(input, remainders);
    }

    public int spill(int lot, int quarters) throws IndexOutOfBoundsException, IllegalArgumentException {
        requireLot(lot);
        requireNumber(quarters, 1, Math.min(MOST_QUARTERS, now.lots.leftIn(lot)));
        history.remember(now);
        now.lots.take(lot, quarters);
        now.lots.spilled += quarters;
        return now.lots.leftIn(lot);
    }

    public int lot(int lot, int what) throws IndexOutOfBoundsException, IllegalArgumentException {
        requireLot(lot);
        requireNumber(what, 0, 6);
        if (what == 5) {
            return now.lots.harvestsIn(lot);
        }
        if (what == 6) {
            return Integer.bitCount(now.lots.blendsOf(lot));
        }
        return now.lots.numbers.at(lot, what);
    }

    public int part(int lot, int part, int what)
            throws IndexOutOfBoundsException, NoSuchElementException, IllegalArgumentException {
        requireLot(lot);
        if (!isWithin(part, 0, now.lots.partsOf(lot) - 1)) {
            throw new NoSuchElementException("there is no such part");
        }
        requireNumber(what, 0, 1);
        return what == 0 ? now.lots.partLots.at(lot, part) : now.lots.partQuarters.at(lot, part);
    }

    public int share(int lot, int what, int number) throws IndexOutOfBoundsException, IllegalArgumentException {
        requireLot(lot);
        requireNumber(what, BY_HARVEST, BY_REGION);
        requireNumber(number, 0, now.lots.numbersBy(what) - 1);
        return now.lots.shareBy(lot, what, number);
    }

    public int greatest(int lot, int index) throws IndexOutOfBoundsException, NoSuchElementException {
        requireLot(lot);
        if (!isWithin(index, 0, now.lots.harvestsIn(lot) - 1)) {
            throw new NoSuchElementException("there is no such index");
        }
        return now.lots.shares.columnAtRank(lot, index);
    }

    public double meanVintage(int lot) throws IndexOutOfBoundsException {
        requireLot(lot);
        return (double) now.lots.vintageSum(lot) / (double) WHOLE;
    }

    // ---- the law, labels, bottlings

    public int setLaw(int what, int threshold) throws IndexOutOfBoundsException, IllegalArgumentException {
        requirePlace(what, 3);
        requireNumber(threshold, LEAST_THRESHOLD, WHOLE);
        history.remember(now);
        int previous = now.law.at(0, what);
        now.law.put(0, what, threshold);
        return previous;
    }

    public int bottle(int lot, int bottles, int vintage, int grape, int second, int region)
            throws IndexOutOfBoundsException, IllegalArgumentException, IllegalStateException {
        requireLot(lot);
        requireNumber(bottles, 1, MOST_BOTTLES);
        requireLabel(vintage, grape, second, region);
        requireNoRefusal(now.bottlingRefusal(lot, bottles, vintage, grape, second, region));
        history.remember(now);
        now.lots.take(lot, bottles * BOTTLE_QUARTERS);
        int bottling = now.bottlings.fill(lot, bottles);
        now.bottlings.putLabel(bottling, vintage, grape, second, region);
        return bottling;
    }

    public int forbids(int lot, int vintage, int grape, int second, int region)
            throws IndexOutOfBoundsException, IllegalArgumentException {
        requireLot(lot);
        requireLabel(vintage, grape, second, region);
        return now.labelRefusal(lot, vintage, grape, second, region);
    }

    public int bottling(int bottling, int what) throws IndexOutOfBoundsException, IllegalArgumentException {
        requirePlace(bottling, now.bottlings.count);
        requireNumber(what, 0, 8);
        if (what == 7) {
            return now.customers.lineUp(bottling, line);
        }
        if (what == 8) {
            return now.isLabelAllowed(bottling) ? 1 : 0;
        }
        return now.bottlings.numbers.at(bottling, what);
    }

    public int reason() throws NoSuchElementException {
        if (keptReason == NONE) {
            throw new NoSuchElementException("no reason was kept");
        }
        return keptReason;
    }

    // ---- customers

    public int addCustomer(int kind) throws IllegalArgumentException, IllegalStateException {
        requireNumber(kind, 0, KINDS - 1);
        if (now.customers.count >= MOST_CUSTOMERS) {
            throw new IllegalStateException("there is no room for a customer");
        }
        history.remember(now);
        return now.customers.enter(kind);
    }

    public int wish(int customer, int bottling, int bottles) throws IndexOutOfBoundsException, IllegalArgumentException {
        requireCustomerAndBottling(customer, bottling);
        requireNumber(bottles, 0, MOST_BOTTLES);
        history.remember(now);
        int previous = now.customers.wished.at(customer, bottling);
        now.customers.wished.put(customer, bottling, bottles);
        return previous;
    }

    public int serve(int bottling) throws IndexOutOfBoundsException {
        requirePlace(bottling, now.bottlings.count);
        history.remember(now);
        int stock = now.bottlings.stockOf(bottling);
        int given = now.customers.handOut(bottling, stock, line);
        now.bottlings.addToStock(bottling, -given);
        return given;
    }

    public int giveBack(int customer, int bottling, int bottles)
            throws IndexOutOfBoundsException, IllegalArgumentException {
        requireCustomerAndBottling(customer, bottling);
        requireNumber(bottles, 1, Math.min(MOST_BOTTLES, now.customers.held.at(customer, bottling)));
        history.remember(now);
        now.bottlings.addToStock(bottling, bottles);
        return now.customers.handIn(customer, bottling, bottles);
    }

    public int holds(int customer, int bottling, int what) throws IndexOutOfBoundsException, IllegalArgumentException {
        requireCustomerAndBottling(customer, bottling);
        requireNumber(what, 0, 2);
        if (what == 0) {
            return now.customers.held.at(customer, bottling);
        }
        if (what == 1) {
            return now.customers.wished.at(customer, bottling);
        }
        return line.columnOf(customer, now.customers.lineUp(bottling, line));
    }

    public int listed(int bottling, int index) throws IndexOutOfBoundsException, NoSuchElementException {
        requirePlace(bottling, now.bottlings.count);
        int length = now.customers.lineUp(bottling, line);
        if (!isWithin(index, 0, length - 1)) {
            throw new NoSuchElementException("there is no such index");
        }
        return line.at(0, index);
    }

    // ---- recalls

    public int recalled(int lot) throws IndexOutOfBoundsException {
        requireLot(lot);
        return now.bottlings.ofLots(now.lots.allMadeOf(lot));
    }

    public int recalledAgain(int lot) throws IndexOutOfBoundsException {
        requireLot(lot);
        int bottlings = 0;
        for (int bottling = 0; bottling < now.bottlings.count; bottling++) {
            int sources = now.lots.allThatMake(now.bottlings.lotOf(bottling));
            if (isIn(sources, lot)) {
                bottlings |= 1 << bottling;
            }
        }
        return bottlings;
    }

    public int bottlesOf(int lot, int customer) throws IndexOutOfBoundsException {
        requireLot(lot);
        if (customer != NONE) {
            requirePlace(customer, now.customers.count);
        }
        int bottlings = now.bottlings.ofLots(now.lots.allMadeOf(lot));
        return customer == NONE ? now.bottlings.stockOfAll(bottlings) : now.customers.heldOfAll(customer, bottlings);
    }

    public int ways(int lot, int into) throws IndexOutOfBoundsException {
        requireLot(lot);
        requireLot(into);
        return now.lots.waysInto(lot, into, wayCounts);
    }

    // ---- accounts

    public int account(int what) throws IllegalArgumentException {
        requireNumber(what, 0, 11);
        switch (what) {
            case 0: return now.lots.harvestedQuarters();
            case 1: return now.lots.leftInAll();
            case 2: return now.bottlings.bottledQuarters();
            case 3: return now.lots.spilled;
            case 4: return now.bottlings.stockOfAll(NONE);
            case 5: return now.customers.heldByAll();
            case 6: return now.lots.count;
            case 7: return now.lots.harvests;
            case 8: return now.bottlings.count;
            case 9: return now.customers.count;
            case 10: return history.count;
            default: return input.length;
        }
    }

    // ---- the input, undo and the snapshot

    public int feed(char character) throws IllegalStateException {
        if (input.length >= MOST_SIGNS) {
            throw new IllegalStateException("the input is full");
        }
        return input.append(character);
    }

    public int errorPosition() throws NoSuchElementException {
        if (keptPosition == NONE) {
            throw new NoSuchElementException("no text had an error");
        }
        return keptPosition;
    }

    public int undo() throws IllegalStateException {
        if (history.count <= 0) {
            throw new IllegalStateException("there is no change to undo");
        }
        history.takeBack(now);
        return history.count;
    }

    public int save() {
        saved.copyFrom(now);
        hasSaved = true;
        return now.lots.count;
    }

    public int restore() throws IllegalStateException {
        if (!hasSaved) {
            throw new IllegalStateException("nothing was saved");
        }
        now.copyFrom(saved);
        history.count = 0;
        return now.lots.count;
    }

    // ---- what the arguments must be

    private static boolean isWithin(int number, int least, int most) {
        return number >= least && number <= most;
    }

    private static boolean isIn(int set, int member) {
        return (set >> member & 1) == 1;
    }

    private static void requireNumber(int number, int least, int most) {
        if (!isWithin(number, least, most)) {
            throw new IllegalArgumentException("a number is out of range");
        }
    }

    private static void requirePlace(int place, int count) {
        if (!isWithin(place, 0, count - 1)) {
            throw new IndexOutOfBoundsException("there is no such number");
        }
    }

    private void requireLot(int lot) {
        requirePlace(lot, now.lots.count);
    }

    private void requireCustomerAndBottling(int customer, int bottling) {
        requirePlace(customer, now.customers.count);
        requirePlace(bottling, now.bottlings.count);
    }

    private static void requireLabel(int vintage, int grape, int second, int region) {
        requireNumber(vintage, NONE, VINTAGES - 1);
        requireNumber(grape, NONE, GRAPES - 1);
        requireNumber(second, NONE, GRAPES - 1);
        requireNumber(region, NONE, REGIONS - 1);
        if (second != NONE && (grape == NONE || grape == second)) {
            throw new IllegalArgumentException("the second grape does not fit the first one");
        }
    }

    private void requireNoRefusal(int refusal) {
        if (refusal != NO_REFUSAL) {
            keptReason = refusal;
            throw new IllegalStateException("refused");
        }
    }

    /** Numbers in rows; a cell that there is not reads as 0 and takes nothing, so that no index can throw. */
    private static final class Table {
        private final int rows;
        private final int columns;
        private final int[] cells;

        private Table(int rows, int columns) {
            this.rows = rows;
            this.columns = columns;
            this.cells = new int[Math.max(0, rows * columns)];
        }

        private int placeOf(int row, int column) {
            return row >= 0 && row < rows && column >= 0 && column < columns ? row * columns + column : NONE;
        }

        private int at(int row, int column) {
            int place = placeOf(row, column);
            return place >= 0 && place < cells.length ? cells[place] : 0;
        }

        private void put(int row, int column, int number) {
            int place = placeOf(row, column);
            if (place >= 0 && place < cells.length) {
                cells[place] = number;
            }
        }

        private void add(int row, int column, int number) {
            put(row, column, at(row, column) + number);
        }

        private void copyFrom(Table other) {
            System.arraycopy(other.cells, 0, cells, 0, Math.min(cells.length, other.cells.length));
        }

        private int sumOfColumn(int column) {
            int sum = 0;
            for (int row = 0; row < rows; row++) {
                sum += at(row, column);
            }
            return sum;
        }

        /** The rank of a cell in its row: the greatest number first, of several the lowest column. */
        private int rankOf(int row, int column) {
            int number = at(row, column);
            int rank = 0;
            for (int other = 0; other < columns; other++) {
                int otherNumber = at(row, other);
                if (otherNumber > number || otherNumber == number && other < column) {
                    rank++;
                }
            }
            return rank;
        }

        private int columnAtRank(int row, int rank) {
            for (int column = 0; column < columns; column++) {
                if (rankOf(row, column) == rank) {
                    return column;
                }
            }
            return NONE;
        }

        /** The first column, of so many in the first row, that holds the number. */
        private int columnOf(int number, int length) {
            for (int column = 0; column < length; column++) {
                if (at(0, column) == number) {
                    return column;
                }
            }
            return NONE;
        }
    }

    /** All lots, and the harvests among them. */
    private static final class Lots {
        // The columns have the numbers that 'what' has in the document.
        private static final int QUARTERS = 0;
        private static final int LEFT = 1;
        private static final int PARTS = 2;
        private static final int GENERATION = 3;
        private static final int HARVEST = 4;

        private final Table numbers = new Table(MOST_LOTS, 5);
        private final Table partLots = new Table(MOST_LOTS, MOST_PARTS);
        private final Table partQuarters = new Table(MOST_LOTS, MOST_PARTS);
        private final Table shares = new Table(MOST_LOTS, MOST_HARVESTS);
        private final Table origins = new Table(MOST_HARVESTS, 3);
        private int count = 0;
        private int harvests = 0;
        private int spilled = 0;

        private Lots() {
        }

        private void copyFrom(Lots other) {
            numbers.copyFrom(other.numbers);
            partLots.copyFrom(other.partLots);
            partQuarters.copyFrom(other.partQuarters);
            shares.copyFrom(other.shares);
            origins.copyFrom(other.origins);
            count = other.count;
            harvests = other.harvests;
            spilled = other.spilled;
        }

        private int bringIn(int vintage, int grape, int region, int quarters) {
            int harvest = harvests;
            origins.put(harvest, BY_VINTAGE - 1, vintage);
            origins.put(harvest, BY_GRAPE - 1, grape);
            origins.put(harvest, BY_REGION - 1, region);
            harvests++;
            int lot = enter(quarters, 0, 0, harvest);
            shares.put(lot, harvest, WHOLE);
            return lot;
        }

        private int mix(Input text, Table remainders) {
            int total = 0;
            for (int part = 0; part < text.parts; part++) {
                total += text.quartersOf(part);
            }
            int lot = enter(total, text.parts, generationOf(text), NONE);
            for (int part = 0; part < text.parts; part++) {
                partLots.put(lot, part, text.lotOf(part));
                partQuarters.put(lot, part, text.quartersOf(part));
                take(text.lotOf(part), text.quartersOf(part));
            }
            mixShares(lot, total, remainders);
            return lot;
        }

        private int enter(int quarters, int parts, int generation, int harvest) {
            int lot = count;
            numbers.put(lot, QUARTERS, quarters);
            numbers.put(lot, LEFT, quarters);
            numbers.put(lot, PARTS, parts);
            numbers.put(lot, GENERATION, generation);
            numbers.put(lot, HARVEST, harvest);
            count++;
            return lot;
        }

        private void take(int lot, int quarters) {
            numbers.add(lot, LEFT, -quarters);
        }

        private int leftIn(int lot) {
            return numbers.at(lot, LEFT);
        }

        private int partsOf(int lot) {
            return numbers.at(lot, PARTS);
        }

        private int refusalOf(Input text) {
            if (hasWrongParts(text)) {
                return WRONG_PARTS;
            }
            if (hasTooGreatPart(text)) {
                return PART_TOO_GREAT;
            }
            if (generationOf(text) > MOST_GENERATION) {
                return GENERATION_TOO_HIGH;
            }
            return count >= MOST_LOTS ? TOO_MANY_LOTS : NO_REFUSAL;
        }

        private boolean hasWrongParts(Input text) {
            for (int part = 0; part < text.parts; part++) {
                if (text.lotOf(part) >= count) {
                    return true;
                }
                for (int other = 0; other < part; other++) {
                    if (text.lotOf(other) == text.lotOf(part)) {
                        return true;
                    }
                }
            }
            return false;
        }

        private boolean hasTooGreatPart(Input text) {
            for (int part = 0; part < text.parts; part++) {
                if (text.quartersOf(part) > leftIn(text.lotOf(part))) {
                    return true;
                }
            }
            return false;
        }

        private int generationOf(Input text) {
            int highest = 0;
            for (int part = 0; part < text.parts; part++) {
                highest = Math.max(highest, numbers.at(text.lotOf(part), GENERATION));
            }
            return highest + 1;
        }

        private void mixShares(int lot, int total, Table remainders) {
            if (total <= 0) {
                return;
            }
            int missing = WHOLE;
            for (int harvest = 0; harvest < MOST_HARVESTS; harvest++) {
                int sum = partsTimesShares(lot, harvest);
                shares.put(lot, harvest, sum / total);
                remainders.put(0, harvest, sum % total);
                missing -= sum / total;
            }
            for (int harvest = 0; harvest < MOST_HARVESTS; harvest++) {
                if (remainders.rankOf(0, harvest) < missing) {
                    shares.add(lot, harvest, 1);
                }
            }
        }

        private int partsTimesShares(int lot, int harvest) {
            int sum = 0;
            for (int part = 0; part < partsOf(lot); part++) {
                sum += partQuarters.at(lot, part) * shares.at(partLots.at(lot, part), harvest);
            }
            return sum;
        }

        private int numbersBy(int what) {
            switch (what) {
                case BY_VINTAGE: return VINTAGES;
                case BY_GRAPE: return GRAPES;
                case BY_REGION: return REGIONS;
                default: return harvests;
            }
        }

        private int shareBy(int lot, int what, int number) {
            if (what == BY_HARVEST) {
                return shares.at(lot, number);
            }
            int sum = 0;
            for (int harvest = 0; harvest < harvests; harvest++) {
                if (origins.at(harvest, what - 1) == number) {
                    sum += shares.at(lot, harvest);
                }
            }
            return sum;
        }

        private int harvestsIn(int lot) {
            int found = 0;
            for (int harvest = 0; harvest < harvests; harvest++) {
                if (shares.at(lot, harvest) > 0) {
                    found++;
                }
            }
            return found;
        }

        private int vintageSum(int lot) {
            int sum = 0;
            for (int harvest = 0; harvest < harvests; harvest++) {
                sum += shares.at(lot, harvest) * origins.at(harvest, BY_VINTAGE - 1);
            }
            return sum;
        }

        private int partSetOf(int lot) {
            int set = 0;
            for (int part = 0; part < partsOf(lot); part++) {
                set |= 1 << partLots.at(lot, part);
            }
            return set;
        }

        private int blendsOf(int lot) {
            int set = 0;
            for (int blend = lot + 1; blend < count; blend++) {
                if (isIn(partSetOf(blend), lot)) {
                    set |= 1 << blend;
                }
            }
            return set;
        }

        /** One pass is enough, as a lot is always made after its parts. */
        private int allMadeOf(int lot) {
            int set = 1 << lot;
            for (int next = lot; next < count; next++) {
                if (isIn(set, next)) {
                    set |= blendsOf(next);
                }
            }
            return set;
        }

        private int allThatMake(int lot) {
            int set = 1 << lot;
            for (int next = lot; next >= 0; next--) {
                if (isIn(set, next)) {
                    set |= partSetOf(next);
                }
            }
            return set;
        }

        private int waysInto(int lot, int into, Table wayCounts) {
            for (int next = 0; next <= into; next++) {
                int sum = next == lot ? 1 : 0;
                for (int part = 0; next > lot && part < partsOf(next); part++) {
                    sum += wayCounts.at(0, partLots.at(next, part));
                }
                wayCounts.put(0, next, sum);
            }
            return wayCounts.at(0, into);
        }

        private int harvestedQuarters() {
            int sum = 0;
            for (int lot = 0; lot < count; lot++) {
                if (numbers.at(lot, HARVEST) != NONE) {
                    sum += numbers.at(lot, QUARTERS);
                }
            }
            return sum;
        }

        private int leftInAll() {
            return numbers.sumOfColumn(LEFT);
        }
    }

    /** All bottlings with their labels. */
    private static final class Bottlings {
        // The columns have the numbers that 'what' has in the document.
        private static final int LOT = 0;
        private static final int BOTTLES = 1;
        private static final int STOCK = 2;
        private static final int VINTAGE = 3;
        private static final int GRAPE = 4;
        private static final int SECOND = 5;
        private static final int REGION = 6;

        private final Table numbers = new Table(MOST_BOTTLINGS, 7);
        private int count = 0;

        private Bottlings() {
        }

        private void copyFrom(Bottlings other) {
            numbers.copyFrom(other.numbers);
            count = other.count;
        }

        private int fill(int lot, int bottles) {
            int bottling = count;
            numbers.put(bottling, LOT, lot);
            numbers.put(bottling, BOTTLES, bottles);
            numbers.put(bottling, STOCK, bottles);
            count++;
            return bottling;
        }

        private void putLabel(int bottling, int vintage, int grape, int second, int region) {
            numbers.put(bottling, VINTAGE, vintage);
            numbers.put(bottling, GRAPE, grape);
            numbers.put(bottling, SECOND, second);
            numbers.put(bottling, REGION, region);
        }

        private int lotOf(int bottling) {
            return numbers.at(bottling, LOT);
        }

        private int stockOf(int bottling) {
            return numbers.at(bottling, STOCK);
        }

        private void addToStock(int bottling, int bottles) {
            numbers.add(bottling, STOCK, bottles);
        }

        private int ofLots(int lots) {
            int set = 0;
            for (int bottling = 0; bottling < count; bottling++) {
                if (isIn(lots, lotOf(bottling))) {
                    set |= 1 << bottling;
                }
            }
            return set;
        }

        private int stockOfAll(int bottlings) {
            int sum = 0;
            for (int bottling = 0; bottling < count; bottling++) {
                if (isIn(bottlings, bottling)) {
                    sum += stockOf(bottling);
                }
            }
            return sum;
        }

        private int bottledQuarters() {
            return numbers.sumOfColumn(BOTTLES) * BOTTLE_QUARTERS;
        }
    }

    /** All customers with what they hold and wish. */
    private static final class Customers {
        private final Table kinds = new Table(MOST_CUSTOMERS, 1);
        private final Table held = new Table(MOST_CUSTOMERS, MOST_BOTTLINGS);
        private final Table wished = new Table(MOST_CUSTOMERS, MOST_BOTTLINGS);
        private int count = 0;

        private Customers() {
        }

        private void copyFrom(Customers other) {
            kinds.copyFrom(other.kinds);
            held.copyFrom(other.held);
            wished.copyFrom(other.wished);
            count = other.count;
        }

        private int enter(int kind) {
            int customer = count;
            kinds.put(customer, 0, kind);
            count++;
            return customer;
        }

        private int missingTo(int customer, int bottling) {
            return Math.max(0, wished.at(customer, bottling) - held.at(customer, bottling));
        }

        private int portionOf(int customer) {
            switch (kinds.at(customer, 0)) {
                case 0: return 12;
                case 1: return 6;
                default: return 3;
            }
        }

        /** Writes the list of a bottling into the line and returns its length. */
        private int lineUp(int bottling, Table line) {
            int length = 0;
            for (int kind = 0; kind < KINDS; kind++) {
                for (int customer = 0; customer < count; customer++) {
                    if (kinds.at(customer, 0) == kind && missingTo(customer, bottling) > 0) {
                        line.put(0, length, customer);
                        length++;
                    }
                }
            }
            return length;
        }

        /** A customer whose wish is fulfilled gets nothing more, so that the first list serves for all rounds. */
        private int handOut(int bottling, int stock, Table line) {
            int length = lineUp(bottling, line);
            int given = 0;
            boolean goesOn = true;
            for (int round = 0; round < MOST_BOTTLES && goesOn; round++) {
                int before = given;
                for (int place = 0; place < length; place++) {
                    given += handTo(line.at(0, place), bottling, stock - given);
                }
                goesOn = given > before;
            }
            return given;
        }

        private int handTo(int customer, int bottling, int stock) {
            int bottles = Math.min(portionOf(customer), Math.min(missingTo(customer, bottling), stock));
            held.add(customer, bottling, bottles);
            return bottles;
        }

        private int handIn(int customer, int bottling, int bottles) {
            held.add(customer, bottling, -bottles);
            int still = held.at(customer, bottling);
            wished.put(customer, bottling, Math.min(still, wished.at(customer, bottling)));
            return still;
        }

        private int heldOfAll(int customer, int bottlings) {
            int sum = 0;
            for (int bottling = 0; bottling < MOST_BOTTLINGS; bottling++) {
                if (isIn(bottlings, bottling)) {
                    sum += held.at(customer, bottling);
                }
            }
            return sum;
        }

        private int heldByAll() {
            int sum = 0;
            for (int bottling = 0; bottling < MOST_BOTTLINGS; bottling++) {
                sum += held.sumOfColumn(bottling);
            }
            return sum;
        }
    }

    /** All that a change can change, and that is saved. */
    private static final class State {
        private final Lots lots = new Lots();
        private final Bottlings bottlings = new Bottlings();
        private final Customers customers = new Customers();
        private final Table law = new Table(1, 3);

        private State() {
            law.put(0, BY_VINTAGE - 1, 850);
            law.put(0, BY_GRAPE - 1, 850);
            law.put(0, BY_REGION - 1, 750);
        }

        private void copyFrom(State other) {
            lots.copyFrom(other.lots);
            bottlings.copyFrom(other.bottlings);
            customers.copyFrom(other.customers);
            law.copyFrom(other.law);
        }

        private int bottlingRefusal(int lot, int bottles, int vintage, int grape, int second, int region) {
            if (lots.leftIn(lot) < bottles * BOTTLE_QUARTERS) {
                return LOT_TOO_SMALL;
            }
            int refusal = labelRefusal(lot, vintage, grape, second, region);
            if (refusal != NO_REFUSAL) {
                return refusal;
            }
            return bottlings.count >= MOST_BOTTLINGS ? TOO_MANY_BOTTLINGS : NO_REFUSAL;
        }

        private int labelRefusal(int lot, int vintage, int grape, int second, int region) {
            if (!isAllowed(lot, BY_VINTAGE, vintage)) {
                return WRONG_VINTAGE;
            }
            if (second == NONE ? !isAllowed(lot, BY_GRAPE, grape) : !areAllowed(lot, grape, second)) {
                return WRONG_GRAPES;
            }
            return isAllowed(lot, BY_REGION, region) ? NO_REFUSAL : WRONG_REGION;
        }

        private boolean isAllowed(int lot, int what, int number) {
            return number == NONE || lots.shareBy(lot, what, number) >= law.at(0, what - 1);
        }

        private boolean areAllowed(int lot, int grape, int second) {
            int firstShare = lots.shareBy(lot, BY_GRAPE, grape);
            int secondShare = lots.shareBy(lot, BY_GRAPE, second);
            return firstShare >= secondShare && secondShare != 0
                && firstShare + secondShare >= law.at(0, BY_GRAPE - 1);
        }

        private boolean isLabelAllowed(int bottling) {
            Table label = bottlings.numbers;
            return labelRefusal(bottlings.lotOf(bottling), label.at(bottling, Bottlings.VINTAGE),
                label.at(bottling, Bottlings.GRAPE), label.at(bottling, Bottlings.SECOND),
                label.at(bottling, Bottlings.REGION)) == NO_REFUSAL;
        }
    }

    /** The states ahead of the latest changes, in a ring. */
    private static final class History {
        private final State[] states = new State[MOST_UNDONE];
        private int next = 0;
        private int count = 0;

        private History() {
            for (int place = 0; place < states.length; place++) {
                states[place] = new State();
            }
        }

        private State stateAt(int place) {
            return isWithin(place, 0, states.length - 1) ? states[place] : null;
        }

        private void remember(State state) {
            State free = stateAt(next);
            if (free != null) {
                free.copyFrom(state);
            }
            next = (next + 1) % MOST_UNDONE;
            count = Math.min(count + 1, MOST_UNDONE);
        }

        private void takeBack(State state) {
            next = (next + MOST_UNDONE - 1) % MOST_UNDONE;
            count--;
            State latest = stateAt(next);
            if (latest != null) {
                state.copyFrom(latest);
            }
        }
    }

    /** The input, and the blend that was read from it last. */
    private static final class Input {
        private static final int LOT = 0;
        private static final int QUARTERS = 1;

        private final char[] signs = new char[MOST_SIGNS];
        private final Table readParts = new Table(MOST_PARTS, 2);
        private int length = 0;
        private int parts = 0;
        private int position = 0;
        private boolean sound = true;

        private Input() {
        }

        private int append(char sign) {
            if (isWithin(length, 0, signs.length - 1)) {
                signs[length] = sign;
                length++;
            }
            return length;
        }

        private int lotOf(int part) {
            return readParts.at(part, LOT);
        }

        private int quartersOf(int part) {
            return readParts.at(part, QUARTERS);
        }

        private boolean hasEmptyPart() {
            for (int part = 0; part < parts; part++) {
                if (quartersOf(part) == 0) {
                    return true;
                }
            }
            return false;
        }

        /** Returns whether the text is a blend; if it is none, the position is that of the error. */
        private boolean readBlend() {
            position = 0;
            sound = true;
            boolean ends = false;
            for (int part = 0; part < MOST_PARTS && sound && !ends; part++) {
                readPart(part);
                ends = part >= LEAST_PARTS - 1 && position == length;
                if (!ends && part < MOST_PARTS - 1) {
                    readSign('+');
                }
            }
            sound = sound && ends;
            return sound;
        }

        private void readPart(int part) {
            readParts.put(part, LOT, readNumber());
            readSign(':');
            readParts.put(part, QUARTERS, readNumber());
            parts = part + 1;
        }

        private int nextSign() {
            return position >= 0 && position < length && position < signs.length ? signs[position] : NONE;
        }

        private boolean hasDigit() {
            return isWithin(nextSign(), '0', '9');
        }

        private void readSign(char sign) {
            if (sound && nextSign() == sign) {
                position++;
            } else {
                sound = false;
            }
        }

        private int readNumber() {
            sound = sound && hasDigit();
            int number = 0;
            boolean goesOn = sound;
            for (int digits = 0; digits < MOST_DIGITS && goesOn && hasDigit(); digits++) {
                number = number * 10 + (nextSign() - '0');
                position++;
                goesOn = number != 0;
            }
            return number;
        }
    }
}
