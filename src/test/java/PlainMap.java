import java.util.ArrayList;
import java.util.Arrays;
import java.util.HashMap;
import java.util.List;
import java.util.Map;
import java.util.TreeMap;
import java.util.TreeSet;

/**
 * The document again, word by word and with no thought of speed, to be compared with MapDrawer.
 * Nothing here is shared with the class: places are keys of maps, levels are drawn as a whole,
 * rows of chances are walked with a list of choices, shortest ways are all told and sorted.
 */
final class PlainMap {
    static final int BAD = -1, NONE = -2, NOT = -3, FULL = -4;

    private record Link(int from, int direction, int to, boolean both) {
        boolean loop() {
            return from == to;
        }
    }

    private record Spot(int x, int y, int level) {
        Spot at(int direction, int d) {
            return switch (direction) {
                case 0 -> new Spot(x, y - d, level);
                case 1 -> new Spot(x + d, y - d, level);
                case 2 -> new Spot(x + d, y, level);
                case 3 -> new Spot(x + d, y + d, level);
                case 4 -> new Spot(x, y + d, level);
                case 5 -> new Spot(x - d, y + d, level);
                case 6 -> new Spot(x - d, y, level);
                case 7 -> new Spot(x - d, y - d, level);
                case 8 -> new Spot(x, y, level + 1);
                default -> new Spot(x, y, level - 1);
            };
        }
    }

    private final List<int[]> rooms = new ArrayList<>();
    private final List<Integer> things = new ArrayList<>();
    private final List<Link> links = new ArrayList<>();
    private Map<Integer, Spot> spots = new TreeMap<>();
    private List<Boolean> least = new ArrayList<>();
    private int steps;

    private static int opposite(int direction) {
        return direction == 8 ? 9 : direction == 9 ? 8 : (direction + 4) % 8;
    }

    private boolean isRoom(int r) {
        return r >= 0 && r < rooms.size();
    }

    private boolean isLink(int l) {
        return l >= 0 && l < links.size();
    }

    int room(int width, int region) {
        if (width < 1 || width > 5 || region < 0 || region > 9) {
            return BAD;
        }
        if (rooms.size() == 24) {
            return FULL;
        }
        rooms.add(new int[] {width, region});
        things.add(NONE);
        return rooms.size() - 1;
    }

    int exit(int from, int direction, int to, boolean both) {
        if (!isRoom(from) || !isRoom(to) || direction < 0 || direction > 9) {
            return BAD;
        }
        if (out(from, direction) != NONE) {
            return NOT;
        }
        if (both && out(to, opposite(direction)) != NONE) {
            return NOT;
        }
        if (links.size() == 60) {
            return FULL;
        }
        links.add(new Link(from, direction, to, both));
        return links.size() - 1;
    }

    int cut(int link) {
        if (!isLink(link)) {
            return BAD;
        }
        links.remove(link);
        return links.size();
    }

    int play(int from, int direction, int to) {
        if (!isRoom(from) || direction < 0 || direction > 9 || !isRoom(to) && to != NONE) {
            return BAD;
        }
        Integer leads = exits(from).get(direction);
        if (leads != null) {
            return leads == to ? to : NOT;
        }
        Link back = new Link(to, opposite(direction), from, false);
        int known = links.indexOf(back);
        if (to != NONE && known >= 0) {
            links.set(known, new Link(back.from, back.direction, back.to, true));
            return to;
        }
        if (links.size() == 60 || to == NONE && rooms.size() == 24) {
            return FULL;
        }
        int end = to == NONE ? room(1, rooms.get(from)[1]) : to;
        links.add(new Link(from, direction, end, false));
        return end;
    }

    int mark(int room, int thing) {
        if (!isRoom(room) || thing != NONE && (thing < 0 || thing > 9)) {
            return BAD;
        }
        return things.set(room, thing);
    }

    int alike(int region) {
        if (region < 0 || region > 9) {
            return BAD;
        }
        for (int r = 0; r < rooms.size(); r++) {
            if (rooms.get(r)[1] == region) {
                if (things.get(r) == NONE) {
                    return r;
                }
                for (int e = 0; e < r; e++) {
                    if (rooms.get(e)[1] == region && things.get(e).equals(things.get(r))) {
                        return r;
                    }
                }
            }
        }
        return NONE;
    }

    int link(int i, int what) {
        if (!isLink(i) || what < 0 || what > 4) {
            return BAD;
        }
        Link l = links.get(i);
        return new int[] {l.from, l.direction, l.to, l.both ? 1 : 0, l.loop() ? 1 : 0}[what];
    }

    int out(int room, int direction) {
        if (!isRoom(room) || direction < 0 || direction > 9) {
            return BAD;
        }
        for (Link l : links) {
            if (l.from == room && l.direction == direction) {
                return links.indexOf(l);
            }
            if (l.both && l.to == room && opposite(l.direction) == direction) {
                return links.indexOf(l);
            }
        }
        return NONE;
    }

    /** By directions, where the ways out of a room lead. */
    private TreeMap<Integer, Integer> exits(int room) {
        TreeMap<Integer, Integer> exits = new TreeMap<>();
        for (Link l : links) {
            if (l.from == room) {
                exits.put(l.direction, l.to);
            }
            if (l.both && l.to == room) {
                exits.put(opposite(l.direction), l.from);
            }
        }
        return exits;
    }

    private List<TreeSet<Integer>> parts() {
        List<TreeSet<Integer>> parts = new ArrayList<>();
        TreeSet<Integer> seen = new TreeSet<>();
        for (int r = 0; r < rooms.size(); r++) {
            if (!seen.contains(r)) {
                TreeSet<Integer> part = new TreeSet<>();
                gather(r, part);
                seen.addAll(part);
                parts.add(part);
            }
        }
        return parts;
    }

    private void gather(int room, TreeSet<Integer> part) {
        if (part.add(room)) {
            for (Link l : links) {
                if (l.from == room) {
                    gather(l.to, part);
                }
                if (l.to == room) {
                    gather(l.from, part);
                }
            }
        }
    }

    int part(int room) {
        if (!isRoom(room)) {
            return BAD;
        }
        List<TreeSet<Integer>> parts = parts();
        for (int p = 0; p < parts.size(); p++) {
            if (parts.get(p).contains(room)) {
                return p;
            }
        }
        throw new IllegalStateException();
    }

    private List<Link> between(int room, Map<Integer, Spot> placed) {
        List<Link> found = new ArrayList<>();
        for (Link l : links) {
            if (l.from == room && placed.containsKey(l.to) || l.to == room && placed.containsKey(l.from)) {
                found.add(l);
            }
        }
        return found;
    }

    private int nextRoom(Map<Integer, Spot> placed) {
        for (int r = 0; r < rooms.size(); r++) {
            if (!placed.containsKey(r) && !between(r, placed).isEmpty()) {
                return r;
            }
        }
        return NONE;
    }

    /** The chances of a room; the spare place alone if it has none. */
    private List<Spot> chances(int room, Map<Integer, Spot> placed) {
        List<Spot> found = new ArrayList<>();
        for (Link l : between(room, placed)) {
            for (int d = 1; d <= (l.direction >= 8 ? 1 : 3); d++) {
                Spot spot = l.to == room
                        ? placed.get(l.from).at(l.direction, d)
                        : placed.get(l.to).at(opposite(l.direction), d);
                if (!placed.containsValue(spot)) {
                    found.add(spot);
                }
            }
        }
        if (found.isEmpty()) {
            Link first = between(room, placed).get(0);
            found.add(spare(placed.get(first.from == room ? first.to : first.from), placed));
        }
        return found;
    }

    private Spot spare(Spot mid, Map<Integer, Spot> placed) {
        Spot best = null;
        int bestFar = 0;
        for (int y = mid.y - 9; y <= mid.y + 9; y++) {
            for (int x = mid.x - 9; x <= mid.x + 9; x++) {
                Spot spot = new Spot(x, y, mid.level);
                int far = Math.abs(x - mid.x) + Math.abs(y - mid.y);
                if (!placed.containsValue(spot) && (best == null || far < bestFar)) {
                    best = spot;
                    bestFar = far;
                }
            }
        }
        return best;
    }

    /** The d of a straight link, 0 of a bent one. */
    private int length(Link l, Map<Integer, Spot> placed) {
        for (int d = 1; d <= (l.direction >= 8 ? 1 : 60); d++) {
            Spot spot = placed.get(l.from).at(l.direction, d);
            if (placed.get(l.to).equals(spot)) {
                return d;
            }
            if (placed.containsValue(spot)) {
                return 0;
            }
        }
        return 0;
    }

    private int cost(Map<Integer, Spot> placed) {
        int sum = 0;
        for (Link l : links) {
            if (!l.loop() && placed.containsKey(l.from) && placed.containsKey(l.to)) {
                int d = length(l, placed);
                sum += d == 0 ? 10 : d - 1;
            }
        }
        return sum;
    }

    private int bent() {
        int count = 0;
        for (Link l : links) {
            if (!l.loop() && spots.containsKey(l.from) && spots.containsKey(l.to) && length(l, spots) == 0) {
                count++;
            }
        }
        return count;
    }

    int draw(int n) {
        if (n < 1 || n > 20000) {
            return BAD;
        }
        steps = 0;
        least = new ArrayList<>();
        Map<Integer, Spot> all = new TreeMap<>();
        int east = 0;
        for (TreeSet<Integer> part : parts()) {
            Map<Integer, Spot> drawn = drawPart(part.first(), part.size(), n);
            int leastX = drawn.values().stream().mapToInt(Spot::x).min().getAsInt();
            int leastY = drawn.values().stream().mapToInt(Spot::y).min().getAsInt();
            for (Map.Entry<Integer, Spot> e : drawn.entrySet()) {
                Spot s = e.getValue();
                all.put(e.getKey(), new Spot(s.x - leastX + east, s.y - leastY, s.level));
            }
            east = all.values().stream().mapToInt(Spot::x).max().getAsInt() + 2;
        }
        spots = all;
        return bent();
    }

    private Map<Integer, Spot> drawPart(int root, int size, int n) {
        Map<Integer, Spot> placed = new TreeMap<>();
        List<Integer> order = new ArrayList<>();
        List<List<Spot>> open = new ArrayList<>();
        Map<Integer, Spot> best = null;
        int bestCost = 0;
        int made = 0;
        boolean all = true;
        order.add(root);
        open.add(new ArrayList<>(List.of(new Spot(0, 0, 0))));
        while (!open.isEmpty()) {
            int last = open.size() - 1;
            placed.remove(order.get(last));
            if (open.get(last).isEmpty()) {
                open.remove(last);
                order.remove(last);
                continue;
            }
            if (made == n) {
                all = false;
                break;
            }
            made++;
            placed.put(order.get(last), open.get(last).remove(0));
            if (placed.size() < size) {
                int next = nextRoom(placed);
                order.add(next);
                open.add(chances(next, placed));
            } else if (best == null || cost(placed) < bestCost) {
                best = new HashMap<>(placed);
                bestCost = cost(placed);
            }
        }
        steps += made;
        least.add(all);
        if (best == null) {
            best = new TreeMap<>();
            best.put(root, new Spot(0, 0, 0));
            spread(best);
        }
        return best;
    }

    private void spread(Map<Integer, Spot> placed) {
        for (int r = nextRoom(placed); r != NONE; r = nextRoom(placed)) {
            placed.put(r, chances(r, placed).get(0));
        }
    }

    int grow() {
        least = new ArrayList<>();
        spread(spots);
        for (int r = 0; r < rooms.size(); r++) {
            if (!spots.containsKey(r)) {
                int x = spots.isEmpty() ? 0 : spots.values().stream().mapToInt(Spot::x).max().getAsInt() + 2;
                spots.put(r, new Spot(x, 0, 0));
                spread(spots);
            }
        }
        return bent();
    }

    int least(int part) {
        if (part < 0 || part > 23) {
            return BAD;
        }
        return part >= least.size() ? NONE : least.get(part) ? 1 : 0;
    }

    int steps() {
        return steps;
    }

    int place(int room, int what) {
        if (!isRoom(room) || what < 0 || what > 2) {
            return -1001;
        }
        Spot s = spots.get(room);
        return s == null ? -1002 : what == 0 ? s.x : what == 1 ? s.y : s.level;
    }

    int straight(int link) {
        if (!isLink(link)) {
            return BAD;
        }
        Link l = links.get(link);
        if (!spots.containsKey(l.from) || !spots.containsKey(l.to)) {
            return NOT;
        }
        if (l.loop()) {
            return 0;
        }
        int d = length(l, spots);
        return d == 0 ? NONE : d;
    }

    int cost() {
        return cost(spots);
    }

    /** The shortest way that is first by its directions, as a text of digits; null: there is none. */
    private String way(int from, int to) {
        Map<Integer, String> reached = new TreeMap<>();
        reached.put(from, "");
        for (int far = 0; far < 24 && !reached.containsKey(to); far++) {
            Map<Integer, String> further = new TreeMap<>(reached);
            for (int r : reached.keySet()) {
                exits(r).forEach((direction, end) -> {
                    if (!reached.containsKey(end)) {
                        String way = reached.get(r) + direction;
                        further.merge(end, way, (a, b) -> a.compareTo(b) < 0 ? a : b);
                    }
                });
            }
            reached.putAll(further);
        }
        return reached.get(to);
    }

    int far(int from, int to) {
        if (!isRoom(from) || !isRoom(to)) {
            return BAD;
        }
        String way = way(from, to);
        return way == null ? NONE : way.length();
    }

    int step(int from, int to, int k) {
        if (!isRoom(from) || !isRoom(to)) {
            return BAD;
        }
        String way = way(from, to);
        return way == null || k < 0 || k >= way.length() ? NONE : way.charAt(k) - '0';
    }

    /** A level as rows of signs, wide enough for all that can be there. */
    int[][] drawn(int level) {
        int columns = 6 * told(6) + 8;
        int[][] sheet = new int[2 * told(7) + 2][columns];
        for (int[] row : sheet) {
            Arrays.fill(row, 32);
        }
        int west = spots.values().stream().mapToInt(Spot::x).min().orElse(0);
        int north = spots.values().stream().mapToInt(Spot::y).min().orElse(0);
        spots.forEach((r, s) -> {
            for (int i = 0; i < rooms.get(r)[0] && s.level == level; i++) {
                sheet[2 * (s.y - north)][6 * (s.x - west) + i] = 'A' + r;
            }
        });
        spots.forEach((r, s) -> {
            if (s.level == level) {
                int column = 6 * (s.x - west) + rooms.get(r)[0];
                int[] row = sheet[2 * (s.y - north)];
                if (exits(r).containsKey(8)) {
                    ink(row, column++, '^');
                }
                if (exits(r).containsKey(9)) {
                    ink(row, column, 'v');
                }
            }
        });
        for (int i = 0; i < links.size(); i++) {
            if (straight(i) > 0 && spots.get(links.get(i).from).level == level) {
                inkLink(sheet, links.get(i), straight(i), west, north);
            }
        }
        return sheet;
    }

    private static void ink(int[] row, int column, char sign) {
        if (row[column] == 32) {
            row[column] = sign;
        }
    }

    private void inkLink(int[][] sheet, Link l, int d, int west, int north) {
        Spot s = spots.get(l.from);
        int column = 6 * (s.x - west);
        int row = 2 * (s.y - north);
        switch (l.direction) {
            case 0 -> inkDown(sheet, column, row - 2 * d, row);
            case 4 -> inkDown(sheet, column, row, row + 2 * d);
            case 2 -> inkAcross(sheet[row], column + rooms.get(l.from)[0], column + 6 * d);
            case 6 -> inkAcross(sheet[row], column - 6 * d + rooms.get(l.to)[0], column);
            default -> {
                for (int i = 0; i < d && l.direction < 8; i++) {
                    Spot here = s.at(l.direction, i);
                    Spot next = s.at(l.direction, i + 1);
                    int middle = (here.y - north) + (next.y - north);
                    char sign = l.direction == 1 || l.direction == 5 ? '/' : '\\';
                    ink(sheet[middle], 6 * (Math.min(here.x, next.x) - west) + 3, sign);
                }
            }
        }
    }

    private static void inkDown(int[][] sheet, int column, int top, int bottom) {
        for (int row = top + 1; row < bottom; row++) {
            ink(sheet[row], column, '|');
        }
    }

    private static void inkAcross(int[] row, int first, int end) {
        for (int column = first; column < end; column++) {
            ink(row, column, '-');
        }
    }

    int sign(int level, int column, int row) {
        if (column < 0 || row < 0) {
            return BAD;
        }
        int[][] sheet = drawn(level);
        return row < sheet.length && column < sheet[row].length ? sheet[row][column] : 32;
    }

    int told(int what) {
        return switch (what) {
            case 0 -> rooms.size();
            case 1 -> links.size();
            case 2 -> parts().size();
            case 3 -> spots.size();
            case 4 -> spots.values().stream().mapToInt(Spot::level).min().orElse(0);
            case 5 -> spots.values().stream().mapToInt(Spot::level).max().orElse(0);
            case 6 -> spots.isEmpty() ? 0 : spots.values().stream().mapToInt(Spot::x).max().getAsInt()
                    - spots.values().stream().mapToInt(Spot::x).min().getAsInt() + 1;
            case 7 -> spots.isEmpty() ? 0 : spots.values().stream().mapToInt(Spot::y).max().getAsInt()
                    - spots.values().stream().mapToInt(Spot::y).min().getAsInt() + 1;
            default -> BAD;
        };
    }
}
