import java.util.ArrayList;
import java.util.Comparator;
import java.util.LinkedHashMap;
import java.util.List;
import java.util.Map;

/** The document once more, written as plainly as the Java library allows, and from its words alone. */
final class Model {
    static final class Item {
        int width;
        int shelf;
        int catalog;
        int calls;
        int lastCalls;

        Item copy() {
            Item item = new Item();
            item.width = width;
            item.shelf = shelf;
            item.catalog = catalog;
            item.calls = calls;
            item.lastCalls = lastCalls;
            return item;
        }

        int weight() {
            return 2 * calls + lastCalls;
        }

        boolean misplaced() {
            return shelf != catalog;
        }
    }

    static final class State {
        int[] rooms = {30, 30, 30, 30, 30, 30};
        int[] reaches = {10, 20, 30, 40, 50, 60};
        List<Item> items = new ArrayList<>();
        int walked;
        int steps;

        State copy() {
            State state = new State();
            state.rooms = rooms.clone();
            state.reaches = reaches.clone();
            for (Item item : items) {
                state.items.add(item.copy());
            }
            state.walked = walked;
            state.steps = steps;
            return state;
        }

        int free(int shelf) {
            return rooms[shelf] - items.stream().filter(i -> i.shelf == shelf).mapToInt(i -> i.width).sum();
        }

        int cost() {
            return items.stream().mapToInt(i -> i.weight() * reaches[i.catalog]).sum();
        }

        int walk(Item item) {
            int walk = reaches[item.catalog];
            if (!item.misplaced()) {
                return walk;
            }
            List<Integer> others = new ArrayList<>();
            for (int shelf = 0; shelf < 6; shelf++) {
                if (shelf != item.catalog) {
                    others.add(shelf);
                }
            }
            others.sort(Comparator.comparingInt(shelf -> reaches[shelf]));
            for (int shelf : others) {
                walk += reaches[shelf];
                if (shelf == item.shelf) {
                    break;
                }
            }
            return walk;
        }

        /** Each state that one step leads to, whatever its gain, in the order in which steps come among equals. */
        List<State> afterSteps() {
            List<State> after = new ArrayList<>();
            for (int record = 0; record < items.size(); record++) {
                for (int shelf = 0; shelf < 6; shelf++) {
                    addIfRight(after, Map.of(record, shelf));
                }
            }
            for (int first = 0; first < items.size(); first++) {
                for (int second = first + 1; second < items.size(); second++) {
                    addIfRight(after, Map.of(first, items.get(second).shelf, second, items.get(first).shelf));
                }
            }
            return after;
        }

        private void addIfRight(List<State> after, Map<Integer, Integer> targets) {
            State state = copy();
            for (Map.Entry<Integer, Integer> target : targets.entrySet()) {
                Item item = state.items.get(target.getKey());
                if (item.misplaced() || item.shelf == target.getValue()) {
                    return;
                }
                item.shelf = target.getValue();
                item.catalog = target.getValue();
            }
            for (int shelf = 0; shelf < 6; shelf++) {
                if (state.free(shelf) < 0) {
                    return;
                }
            }
            state.steps++;
            after.add(state);
        }

        /** The state after the best step, or null if there is none. */
        State afterBestStep() {
            State best = null;
            for (State state : afterSteps()) {
                if (state.cost() < (best == null ? this : best).cost()) {
                    best = state;
                }
            }
            return best;
        }
    }

    private static final Map<String, int[]> ORDERS = orders();

    State state = new State();
    final List<State> saved = new ArrayList<>();
    String text = "";

    /** Each order there is, with its kind, its number and its shelf. */
    private static Map<String, int[]> orders() {
        Map<String, int[]> orders = new LinkedHashMap<>();
        for (int shelf = 0; shelf < 6; shelf++) {
            for (int width = 1; width <= 30; width++) {
                orders.put("add" + width + "@" + shelf, new int[] {0, width, shelf});
            }
            for (int record = 0; record < 16; record++) {
                orders.put("lose" + record + "@" + shelf, new int[] {1, record, shelf});
            }
        }
        for (int record = 0; record < 16; record++) {
            orders.put("call" + record, new int[] {2, record, 0});
        }
        for (int steps = 1; steps <= 20; steps++) {
            orders.put("night" + steps, new int[] {3, steps, 0});
        }
        orders.put("month", new int[] {4, 0, 0});
        return orders;
    }

    static List<String> orderTexts() {
        return List.copyOf(ORDERS.keySet());
    }

    private void save() {
        saved.add(state.copy());
        if (saved.size() > 6) {
            saved.remove(0);
        }
    }

    private static void needShelf(int shelf) {
        if (shelf < 0 || shelf > 5) {
            throw new IndexOutOfBoundsException();
        }
    }

    private static void needRange(int value, int least, int most) {
        if (value < least || value > most) {
            throw new IllegalArgumentException();
        }
    }

    private static void need(boolean right) {
        if (!right) {
            throw new IllegalStateException();
        }
    }

    private Item item(int record) {
        if (record < 0 || record >= state.items.size()) {
            throw new IndexOutOfBoundsException();
        }
        return state.items.get(record);
    }

    int setShelf(int shelf, int room, int reach) {
        needShelf(shelf);
        needRange(room, 10, 99);
        needRange(reach, 1, 99);
        need(state.rooms[shelf] - state.free(shelf) <= room);
        save();
        state.rooms[shelf] = room;
        state.reaches[shelf] = reach;
        return state.free(shelf);
    }

    int addRecord(int width, int shelf) {
        needShelf(shelf);
        needRange(width, 1, 30);
        need(state.items.size() < 16 && state.free(shelf) >= width);
        save();
        Item item = new Item();
        item.width = width;
        item.shelf = shelf;
        item.catalog = shelf;
        state.items.add(item);
        return state.items.size() - 1;
    }

    int removeRecord(int record) {
        item(record);
        save();
        return state.items.remove(record).shelf;
    }

    int call(int record) {
        item(record);
        save();
        Item item = item(record);
        int walk = state.walk(item);
        item.calls++;
        item.catalog = item.shelf;
        state.walked += walk;
        return walk;
    }

    int misplace(int record, int shelf) {
        item(record);
        needShelf(shelf);
        need(item(record).shelf == shelf || state.free(shelf) >= item(record).width);
        save();
        int before = item(record).shelf;
        item(record).shelf = shelf;
        return before;
    }

    int month() {
        save();
        int ended = state.items.stream().mapToInt(i -> i.calls).sum();
        for (Item item : state.items) {
            item.lastCalls = item.calls;
            item.calls = 0;
        }
        return ended;
    }

    int misplaced() {
        return (int) state.items.stream().filter(Item::misplaced).count();
    }

    int night(int steps) {
        needRange(steps, 1, 20);
        save();
        for (int made = 0; made < steps; made++) {
            State next = state.afterBestStep();
            if (next == null) {
                return made;
            }
            state = next;
        }
        return steps;
    }

    int reason(int record, int shelf) {
        Item item = item(record);
        needShelf(shelf);
        if (item.misplaced()) {
            return 1;
        }
        if (item.shelf == shelf) {
            return 2;
        }
        if (state.free(shelf) < item.width) {
            return 3;
        }
        return item.weight() * (state.reaches[item.shelf] - state.reaches[shelf]) >= 1 ? 0 : 4;
    }

    int bestGain() {
        State next = state.afterBestStep();
        return next == null ? 0 : state.cost() - next.cost();
    }

    int costAfterNight(int steps) {
        needRange(steps, 1, 20);
        Model other = new Model();
        other.state = state.copy();
        other.night(steps);
        return other.state.cost();
    }

    int walkTo(int record) {
        return state.walk(item(record));
    }

    int shelfFor(int width) {
        needRange(width, 1, 30);
        List<Integer> right = new ArrayList<>();
        for (int shelf = 0; shelf < 6; shelf++) {
            if (state.free(shelf) >= width) {
                right.add(shelf);
            }
        }
        return right.stream().min(Comparator.comparingInt(shelf -> state.reaches[shelf])).orElse(-1);
    }

    double fullness() {
        int widths = state.items.stream().mapToInt(i -> i.width).sum();
        int rooms = 0;
        for (int room : state.rooms) {
            rooms += room;
        }
        return (double) widths / (double) rooms;
    }

    int append(int code) {
        needRange(code, 33, 126);
        need(text.length() < 60);
        text += (char) code;
        return text.length();
    }

    int clearText() {
        int length = text.length();
        text = "";
        return length;
    }

    private static boolean isBeginning(String beginning) {
        String[] parts = beginning.split(";", -1);
        for (int i = 0; i < parts.length - 1; i++) {
            if (!ORDERS.containsKey(parts[i])) {
                return false;
            }
        }
        String last = parts[parts.length - 1];
        return ORDERS.keySet().stream().anyMatch(order -> order.startsWith(last));
    }

    int firstError() {
        int index = 0;
        while (index < text.length() && isBeginning(text.substring(0, index + 1))) {
            index++;
        }
        return index;
    }

    int run() {
        String[] parts = text.split(";", -1);
        for (String part : parts) {
            if (!ORDERS.containsKey(part)) {
                throw new IllegalArgumentException();
            }
        }
        save();
        text = "";
        List<State> savedBefore = List.copyOf(saved);
        int executed = 0;
        try {
            for (String part : parts) {
                execute(ORDERS.get(part));
                executed++;
            }
        } catch (IndexOutOfBoundsException | IllegalStateException e) {
            // The order whose method throws is the end.
        }
        saved.clear();
        saved.addAll(savedBefore);
        return executed;
    }

    private int execute(int[] order) {
        return switch (order[0]) {
            case 0 -> addRecord(order[1], order[2]);
            case 1 -> misplace(order[1], order[2]);
            case 2 -> call(order[1]);
            case 3 -> night(order[1]);
            default -> month();
        };
    }

    int undo() {
        need(!saved.isEmpty());
        state = saved.remove(saved.size() - 1);
        return saved.size();
    }

    long digest() {
        List<Integer> values = new ArrayList<>(List.of(state.items.size(), misplaced(), state.walked, state.cost(),
                state.steps, bestGain()));
        for (int shelf = 0; shelf < 6; shelf++) {
            values.add(state.free(shelf));
            values.add(state.reaches[shelf]);
        }
        for (Item item : state.items) {
            values.addAll(List.of(item.width, item.shelf, item.catalog, item.weight(), state.walk(item)));
        }
        long hash = 4424;
        for (int value : values) {
            hash = 31 * hash + value;
        }
        return hash;
    }
}
