public final class MapDrawer {
    public static final int BAD = -1, NONE = -2, NOT = -3, FULL = -4;

    private static final int MOST_ROOMS = 24;
    private static final int MOST_LINKS = 60;
    private static final int MOST_WIDTH = 5;
    private static final int MOST_STEPS = 20000;
    private static final int KINDS = 10;

    private static final int DIRECTIONS = 10;
    private static final int UPWARDS = 8;
    private static final int DOWNWARDS = 9;
    private static final int[] OPPOSITE = {4, 5, 6, 7, 0, 1, 2, 3, 9, 8};
    private static final int[] EAST = {0, 1, 1, 1, 0, -1, -1, -1, 0, 0};
    private static final int[] SOUTH = {-1, -1, 0, 1, 1, 1, 0, -1, 0, 0};
    private static final int[] RISE = {0, 0, 0, 0, 0, 0, 0, 0, 1, -1};

    /** What place() takes off its refusals, as an x or y may well be -1 or -2. */
    private static final int PLACE_REFUSAL = 1000;

    private final Story story = new Story();
    private final Parts parts = new Parts();
    private final Places places = new Places(story);
    private final Planner planner = new Planner(story, parts, places);
    private final Walker walker = new Walker(story);
    private final Sheet sheet = new Sheet(story, places);

    public MapDrawer() {
    }

    public int room(int width, int region) {
        if (width < 1 || width > MOST_WIDTH || !isKind(region)) {
            return BAD;
        }
        return story.isFullOfRooms() ? FULL : story.addRoom(width, region);
    }

    public int exit(int from, int direction, int to, boolean both) {
        if (!story.isRoom(from) || !isDirection(direction) || !story.isRoom(to)) {
            return BAD;
        }
        boolean taken = story.leading(from, direction) >= 0
                || (both && story.leading(to, OPPOSITE[direction]) >= 0);
        if (taken) {
            return NOT;
        }
        return story.isFullOfLinks() ? FULL : story.addLink(from, direction, to, both);
    }

    public int cut(int link) {
        if (!story.isLink(link)) {
            return BAD;
        }
        story.removeLink(link);
        return story.linkCount;
    }

    public int play(int from, int direction, int to) {
        if (!story.isRoom(from) || !isDirection(direction) || (to != NONE && !story.isRoom(to))) {
            return BAD;
        }
        int known = story.beyond(from, direction);
        if (known >= 0) {
            return known == to ? to : NOT;
        }
        return to == NONE ? playToNewRoom(from, direction) : playToRoom(from, direction, to);
    }

    public int mark(int room, int thing) {
        if (!story.isRoom(room) || (thing != NONE && !isKind(thing))) {
            return BAD;
        }
        int before = story.thing[room];
        story.thing[room] = thing;
        return before;
    }

    public int alike(int region) {
        return isKind(region) ? story.firstNotToldApart(region) : BAD;
    }

    public int link(int i, int what) {
        if (!story.isLink(i)) {
            return BAD;
        }
        switch (what) {
            case 0: return story.from[i];
            case 1: return story.direction[i];
            case 2: return story.to[i];
            case 3: return story.both[i] ? 1 : 0;
            case 4: return story.isLoop(i) ? 1 : 0;
            default: return BAD;
        }
    }

    public int out(int room, int direction) {
        return story.isRoom(room) && isDirection(direction) ? story.leading(room, direction) : BAD;
    }

    public int part(int room) {
        if (!story.isRoom(room)) {
            return BAD;
        }
        parts.find(story);
        return parts.number[room];
    }

    public int draw(int steps) {
        if (steps < 1 || steps > MOST_STEPS) {
            return BAD;
        }
        planner.drawAll(steps);
        return places.bentLinks();
    }

    public int grow() {
        planner.growAll();
        return places.bentLinks();
    }

    public int least(int part) {
        return part < 0 || part >= MOST_ROOMS ? BAD : planner.leastness(part);
    }

    public int steps() {
        return planner.stepsInAll;
    }

    public int place(int room, int what) {
        if (!story.isRoom(room) || what < 0 || what > 2) {
            return BAD - PLACE_REFUSAL;
        }
        if (!places.placed[room]) {
            return NONE - PLACE_REFUSAL;
        }
        switch (what) {
            case 0: return places.x[room];
            case 1: return places.y[room];
            default: return places.level[room];
        }
    }

    public int straight(int link) {
        if (!story.isLink(link)) {
            return BAD;
        }
        if (!places.hasBothEnds(link)) {
            return NOT;
        }
        if (story.isLoop(link)) {
            return 0;
        }
        int d = places.straightLength(link);
        return d > 0 ? d : NONE;
    }

    public int cost() {
        return places.costBelow(Places.ABOVE_ALL_COSTS);
    }

    public int far(int from, int to) {
        return story.isRoom(from) && story.isRoom(to) ? walker.wayLength(from, to) : BAD;
    }

    public int step(int from, int to, int k) {
        return story.isRoom(from) && story.isRoom(to) ? walker.wayDirection(from, to, k) : BAD;
    }

    public int sign(int level, int column, int row) {
        return column < 0 || row < 0 ? BAD : sheet.signAt(level, column, row);
    }

    public int told(int what) {
        switch (what) {
            case 0: return story.roomCount;
            case 1: return story.linkCount;
            case 2: return parts.find(story);
            case 3: return places.count();
            case 4: return places.lowest(places.level);
            case 5: return places.highest(places.level);
            case 6: return places.extent(places.x);
            case 7: return places.extent(places.y);
            default: return BAD;
        }
    }

    private static boolean isDirection(int direction) {
        return direction >= 0 && direction < DIRECTIONS;
    }

    /** Regions and things are numbered alike, 0 .. 9. */
    private static boolean isKind(int number) {
        return number >= 0 && number < KINDS;
    }

    private int playToNewRoom(int from, int direction) {
        if (story.isFullOfRooms() || story.isFullOfLinks()) {
            return FULL;
        }
        int found = story.addRoom(1, story.region[from]);
        story.addLink(from, direction, found, false);
        return found;
    }

    private int playToRoom(int from, int direction, int to) {
        int back = story.leading(to, OPPOSITE[direction]);
        if (back >= 0 && !story.both[back] && story.to[back] == from) {
            story.both[back] = true;
            return to;
        }
        if (story.isFullOfLinks()) {
            return FULL;
        }
        story.addLink(from, direction, to, false);
        return to;
    }

    /** The rooms and the links between them. */
    private static final class Story {
        private final int[] width = new int[MOST_ROOMS];
        private final int[] region = new int[MOST_ROOMS];
        private final int[] thing = new int[MOST_ROOMS];
        private int roomCount;
        private final int[] from = new int[MOST_LINKS];
        private final int[] direction = new int[MOST_LINKS];
        private final int[] to = new int[MOST_LINKS];
        private final boolean[] both = new boolean[MOST_LINKS];
        private int linkCount;

        boolean isRoom(int number) {
            return number >= 0 && number < roomCount;
        }

        boolean isLink(int number) {
            return number >= 0 && number < linkCount;
        }

        boolean isFullOfRooms() {
            return roomCount >= MOST_ROOMS;
        }

        boolean isFullOfLinks() {
            return linkCount >= MOST_LINKS;
        }

        int addRoom(int itsWidth, int itsRegion) {
            if (isFullOfRooms()) {
                return FULL;
            }
            width[roomCount] = itsWidth;
            region[roomCount] = itsRegion;
            thing[roomCount] = NONE;
            return roomCount++;
        }

        int addLink(int start, int way, int end, boolean bothWays) {
            if (isFullOfLinks()) {
                return FULL;
            }
            from[linkCount] = start;
            direction[linkCount] = way;
            to[linkCount] = end;
            both[linkCount] = bothWays;
            return linkCount++;
        }

        void removeLink(int gone) {
            for (int l = gone; l + 1 < linkCount; l++) {
                from[l] = from[l + 1];
                direction[l] = direction[l + 1];
                to[l] = to[l + 1];
                both[l] = both[l + 1];
            }
            linkCount--;
        }

        boolean isLoop(int l) {
            return from[l] == to[l];
        }

        /** The link that leads out of a room by a direction, or NONE. */
        int leading(int start, int way) {
            for (int l = 0; l < linkCount; l++) {
                if (leadsForth(l, start, way) || leadsBack(l, start, way)) {
                    return l;
                }
            }
            return NONE;
        }

        /** Where one comes who leaves a room by a direction; NONE, if no link leads there. */
        int beyond(int start, int way) {
            int l = leading(start, way);
            if (l < 0) {
                return NONE;
            }
            return leadsForth(l, start, way) ? to[l] : from[l];
        }

        /** The room that a link joins with this one. */
        int otherEnd(int l, int end) {
            return from[l] == end ? to[l] : from[l];
        }

        int firstNotToldApart(int wanted) {
            int seen = 0;
            for (int r = 0; r < roomCount; r++) {
                if (region[r] == wanted) {
                    if (thing[r] == NONE || (seen >> thing[r] & 1) == 1) {
                        return r;
                    }
                    seen |= 1 << thing[r];
                }
            }
            return NONE;
        }

        private boolean leadsForth(int l, int start, int way) {
            return from[l] == start && direction[l] == way;
        }

        private boolean leadsBack(int l, int start, int way) {
            return both[l] && to[l] == start && OPPOSITE[direction[l]] == way;
        }
    }

    /** Which rooms hang together. */
    private static final class Parts {
        private final int[] number = new int[MOST_ROOMS];

        /** Numbers the parts anew, as links come and go; answers how many there are. */
        int find(Story story) {
            for (int r = 0; r < story.roomCount; r++) {
                number[r] = r;
            }
            boolean changed = true;
            for (int round = 0; round < story.roomCount && changed; round++) {
                changed = sinkToLeastRooms(story);
            }
            return countUp(story.roomCount);
        }

        private boolean sinkToLeastRooms(Story story) {
            boolean changed = false;
            for (int l = 0; l < story.linkCount; l++) {
                int a = story.from[l];
                int b = story.to[l];
                if (number[a] != number[b]) {
                    number[a] = Math.min(number[a], number[b]);
                    number[b] = number[a];
                    changed = true;
                }
            }
            return changed;
        }

        /** A part's least room comes ahead of its others, so its number stands when theirs is asked. */
        private int countUp(int roomCount) {
            int count = 0;
            for (int r = 0; r < roomCount; r++) {
                number[r] = number[r] == r ? count++ : number[number[r]];
            }
            return count;
        }
    }

    /** Where rooms lie, and which links are straight by that. */
    private static final class Places {
        private static final int BENT_COST = 10;
        private static final int FARTHEST = 60;
        /** No link, straight or bent, costs as much as FARTHEST. */
        private static final int ABOVE_ALL_COSTS = MOST_LINKS * FARTHEST;

        private final Story story;
        private final int[] x = new int[MOST_ROOMS];
        private final int[] y = new int[MOST_ROOMS];
        private final int[] level = new int[MOST_ROOMS];
        private final boolean[] placed = new boolean[MOST_ROOMS];

        Places(Story story) {
            this.story = story;
        }

        void clear() {
            for (int r = 0; r < story.roomCount; r++) {
                placed[r] = false;
            }
        }

        void put(int room, int itsX, int itsY, int itsLevel) {
            x[room] = itsX;
            y[room] = itsY;
            level[room] = itsLevel;
            placed[room] = true;
        }

        void lift(int room) {
            placed[room] = false;
        }

        boolean isFree(int atX, int atY, int atLevel) {
            for (int r = 0; r < story.roomCount; r++) {
                if (placed[r] && x[r] == atX && y[r] == atY && level[r] == atLevel) {
                    return false;
                }
            }
            return true;
        }

        boolean hasBothEnds(int l) {
            return placed[story.from[l]] && placed[story.to[l]];
        }

        /** The length of a straight link; 0: it is bent, or a loop. Both its rooms are placed. */
        int straightLength(int l) {
            int start = story.from[l];
            int way = story.direction[l];
            int d = distance(start, way, story.to[l]);
            for (int r = 0; r < story.roomCount && d > 1; r++) {
                int nearer = placed[r] ? distance(start, way, r) : 0;
                if (nearer > 0 && nearer < d) {
                    return 0;
                }
            }
            return d;
        }

        /**
         * The cost of the links between placed rooms; if it is not below the limit, some
         * number that isn't either, as most trials are given up long before their last link.
         */
        int costBelow(int limit) {
            int sum = 0;
            for (int l = 0; l < story.linkCount && sum < limit; l++) {
                if (isWeighed(l)) {
                    int d = straightLength(l);
                    sum += d > 0 ? d - 1 : BENT_COST;
                }
            }
            return sum;
        }

        int bentLinks() {
            int count = 0;
            for (int l = 0; l < story.linkCount; l++) {
                if (isWeighed(l) && straightLength(l) == 0) {
                    count++;
                }
            }
            return count;
        }

        int count() {
            int count = 0;
            for (int r = 0; r < story.roomCount; r++) {
                count += placed[r] ? 1 : 0;
            }
            return count;
        }

        /** The least of x, y or level over the placed rooms; 0, if there is none. */
        int lowest(int[] values) {
            int found = NONE;
            for (int r = 0; r < story.roomCount; r++) {
                if (placed[r] && (found < 0 || values[r] < values[found])) {
                    found = r;
                }
            }
            return found < 0 ? 0 : values[found];
        }

        /** The greatest of x, y or level over the placed rooms; 0, if there is none. */
        int highest(int[] values) {
            int found = NONE;
            for (int r = 0; r < story.roomCount; r++) {
                if (placed[r] && (found < 0 || values[r] > values[found])) {
                    found = r;
                }
            }
            return found < 0 ? 0 : values[found];
        }

        int extent(int[] values) {
            return count() == 0 ? 0 : highest(values) - lowest(values) + 1;
        }

        private boolean isWeighed(int l) {
            return !story.isLoop(l) && hasBothEnds(l);
        }

        /** At which distance a room lies by a direction from another one; 0: at none. */
        private int distance(int start, int way, int end) {
            int dx = x[end] - x[start];
            int dy = y[end] - y[start];
            if (level[end] - level[start] != RISE[way]) {
                return 0;
            }
            if (way >= UPWARDS) {
                return dx == 0 && dy == 0 ? 1 : 0;
            }
            int d = EAST[way] != 0 ? dx * EAST[way] : dy * SOUTH[way];
            boolean there = d > 0 && d <= FARTHEST && dx == d * EAST[way] && dy == d * SOUTH[way];
            return there ? d : 0;
        }
    }

    /** For each room its links that are no loops, by numbers: looked up at every step of a drawing. */
    private static final class Ties {
        private final int[] first = new int[MOST_ROOMS + 1];
        private final int[] links = new int[2 * MOST_LINKS];

        void gather(Story story) {
            int n = 0;
            for (int r = 0; r < story.roomCount; r++) {
                first[r] = n;
                for (int l = 0; l < story.linkCount; l++) {
                    boolean touches = story.from[l] == r || story.to[l] == r;
                    if (touches && !story.isLoop(l) && n < links.length) {
                        links[n++] = l;
                    }
                }
            }
            first[story.roomCount] = n;
        }

        int count(int room) {
            return first[room + 1] - first[room];
        }

        int get(int room, int i) {
            return links[first[room] + i];
        }
    }

    /** The places that a room may have among those that are placed. */
    private static final class Chances {
        private static final int PER_LINK = 3;

        private final Story story;
        private final Ties ties;
        /** The place that was looked at last. */
        private int x;
        private int y;
        private int level;

        Chances(Story story, Ties ties) {
            this.story = story;
            this.ties = ties;
        }

        /** A bound for the numbers of a room's chances; not each number is one. */
        int bound(int room) {
            return PER_LINK * ties.count(room);
        }

        void lookAtOrigin() {
            x = 0;
            y = 0;
            level = 0;
        }

        /** Whether that number is a chance of the room; if so, its place is looked at. */
        boolean lookAtChance(Places places, int room, int number) {
            int l = ties.get(room, number / PER_LINK);
            int d = number % PER_LINK + 1;
            int way = story.direction[l];
            int other = story.otherEnd(l, room);
            if (!places.placed[other] || (way >= UPWARDS && d > 1)) {
                return false;
            }
            int ahead = story.to[l] == room ? d : -d;
            x = places.x[other] + ahead * EAST[way];
            y = places.y[other] + ahead * SOUTH[way];
            level = places.level[other] + ahead * RISE[way];
            return places.isFree(x, y, level);
        }

        /** The place by the first chance, or the spare one. */
        void lookAtFirst(Places places, int room) {
            for (int c = 0; c < bound(room); c++) {
                if (lookAtChance(places, room, c)) {
                    return;
                }
            }
            lookAtSpare(places, room);
        }

        void lookAtSpare(Places places, int room) {
            int beside = firstPlacedNeighbour(places, room);
            if (beside < 0) {
                return;
            }
            level = places.level[beside];
            // fewer rooms than places lie as near as that, so one of them is free
            for (int far = 1; far <= MOST_ROOMS; far++) {
                if (lookAround(places, places.x[beside], places.y[beside], far)) {
                    return;
                }
            }
        }

        /** The first placed room that a link joins with this one, or NONE. */
        int firstPlacedNeighbour(Places places, int room) {
            for (int i = 0; i < ties.count(room); i++) {
                int other = story.otherEnd(ties.get(room, i), room);
                if (places.placed[other]) {
                    return other;
                }
            }
            return NONE;
        }

        private boolean lookAround(Places places, int midX, int midY, int far) {
            for (int dy = -far; dy <= far; dy++) {
                int aside = far - Math.abs(dy);
                y = midY + dy;
                x = midX - aside;
                if (places.isFree(x, y, level)) {
                    return true;
                }
                x = midX + aside;
                if (places.isFree(x, y, level)) {
                    return true;
                }
            }
            return false;
        }
    }

    /** Places all rooms anew, or those that have no place yet. */
    private static final class Planner {
        private static final int GAP = 2;

        private final Story story;
        private final Parts parts;
        private final Places places;
        private final Places trial;
        private final Ties ties = new Ties();
        private final Chances chances;
        /** The rooms in the order in which they get places: it depends on links alone, not on places. */
        private final int[] order = new int[MOST_ROOMS];
        private int ordered;
        private final boolean[] allTried = new boolean[MOST_ROOMS];
        private int drawnParts;
        private int stepsInAll;
        private int limit;
        private int made;
        private boolean stopped;
        private int bestCost;

        Planner(Story story, Parts parts, Places places) {
            this.story = story;
            this.parts = parts;
            this.places = places;
            this.trial = new Places(story);
            this.chances = new Chances(story, ties);
        }

        int leastness(int number) {
            if (number >= drawnParts) {
                return NONE;
            }
            return allTried[number] ? 1 : 0;
        }

        void drawAll(int stepsPerPart) {
            ties.gather(story);
            drawnParts = parts.find(story);
            limit = stepsPerPart;
            stepsInAll = 0;
            places.clear();
            int east = 0;
            for (int r = 0; r < story.roomCount; r++) {
                if (!places.placed[r]) {
                    drawPartOf(r);
                    allTried[parts.number[r]] = !stopped;
                    stepsInAll += made;
                    east = moveBehind(east) + GAP;
                }
            }
        }

        void growAll() {
            ties.gather(story);
            drawnParts = 0;
            ordered = 0;
            spread(places);
            for (int r = 0; r < story.roomCount; r++) {
                if (!places.placed[r]) {
                    int east = places.count() == 0 ? 0 : places.highest(places.x) + GAP;
                    places.put(r, east, 0, 0);
                    spread(places);
                }
            }
        }

        /** The placing by first chances tells the order, and counts if the steps are too few for any. */
        private void drawPartOf(int leastRoom) {
            trial.clear();
            trial.put(leastRoom, 0, 0, 0);
            order[0] = leastRoom;
            ordered = 1;
            spread(trial);
            keepTrial();
            trial.clear();
            made = 0;
            stopped = false;
            bestCost = Places.ABOVE_ALL_COSTS;
            chances.lookAtOrigin();
            tryHere(0);
        }

        /** Places by first chances, one by one, all rooms that hang together with placed ones. */
        private void spread(Places target) {
            for (int n = 0; n < MOST_ROOMS; n++) {
                int room = nextRoom(target);
                if (room < 0) {
                    return;
                }
                chances.lookAtFirst(target, room);
                target.put(room, chances.x, chances.y, chances.level);
                if (ordered < MOST_ROOMS) {
                    order[ordered++] = room;
                }
            }
        }

        private int nextRoom(Places target) {
            for (int r = 0; r < story.roomCount; r++) {
                if (!target.placed[r] && chances.firstPlacedNeighbour(target, r) >= 0) {
                    return r;
                }
            }
            return NONE;
        }

        /**
         * Puts the room that the order has here where was looked last, and tries all rows of
         * chances of the rooms behind it. The order's length, 24 at most, bounds the depth.
         */
        private void tryHere(int at) {
            if (made >= limit) {
                stopped = true;
                return;
            }
            made++;
            trial.put(order[at], chances.x, chances.y, chances.level);
            if (at + 1 < ordered) {
                int next = order[at + 1];
                boolean hasChance = false;
                for (int c = 0; c < chances.bound(next) && !stopped; c++) {
                    if (chances.lookAtChance(trial, next, c)) {
                        hasChance = true;
                        tryHere(at + 1);
                    }
                }
                if (!hasChance) {
                    chances.lookAtSpare(trial, next);
                    tryHere(at + 1);
                }
            } else {
                weighTrial();
            }
            trial.lift(order[at]);
        }

        private void weighTrial() {
            int weight = trial.costBelow(bestCost);
            if (weight < bestCost) {
                bestCost = weight;
                keepTrial();
            }
        }

        private void keepTrial() {
            for (int i = 0; i < ordered; i++) {
                int r = order[i];
                places.put(r, trial.x[r], trial.y[r], trial.level[r]);
            }
        }

        /** Moves the part that was drawn last; answers its greatest x. */
        private int moveBehind(int east) {
            int leastX = places.x[order[0]];
            int leastY = places.y[order[0]];
            int greatestX = leastX;
            for (int i = 1; i < ordered; i++) {
                leastX = Math.min(leastX, places.x[order[i]]);
                greatestX = Math.max(greatestX, places.x[order[i]]);
                leastY = Math.min(leastY, places.y[order[i]]);
            }
            for (int i = 0; i < ordered; i++) {
                places.x[order[i]] += east - leastX;
                places.y[order[i]] -= leastY;
            }
            return greatestX + east - leastX;
        }
    }

    /** Finds shortest ways. */
    private static final class Walker {
        /** More links than any shortest way has. */
        private static final int UNREACHED = 1000;

        private final Story story;
        /** How many links a shortest way from each room to the goal has. */
        private final int[] ahead = new int[MOST_ROOMS];

        Walker(Story story) {
            this.story = story;
        }

        int wayLength(int start, int goal) {
            measure(goal);
            return ahead[start] < UNREACHED ? ahead[start] : NONE;
        }

        int wayDirection(int start, int goal, int k) {
            int length = wayLength(start, goal);
            if (k < 0 || k >= length) {
                return NONE;
            }
            int here = start;
            int way = leastGoodDirection(here);
            for (int i = 0; i < k && way >= 0; i++) {
                here = story.beyond(here, way);
                way = leastGoodDirection(here);
            }
            return way;
        }

        private void measure(int goal) {
            for (int r = 0; r < story.roomCount; r++) {
                ahead[r] = r == goal ? 0 : UNREACHED;
            }
            boolean changed = true;
            for (int round = 0; round < story.roomCount && changed; round++) {
                changed = shortenAll();
            }
        }

        private boolean shortenAll() {
            boolean changed = false;
            for (int l = 0; l < story.linkCount; l++) {
                changed |= shorten(story.from[l], story.to[l]);
                if (story.both[l]) {
                    changed |= shorten(story.to[l], story.from[l]);
                }
            }
            return changed;
        }

        private boolean shorten(int here, int next) {
            if (ahead[next] + 1 >= ahead[here]) {
                return false;
            }
            ahead[here] = ahead[next] + 1;
            return true;
        }

        /** Of the directions that lead nearer to the goal the least; NONE at the goal. */
        private int leastGoodDirection(int here) {
            for (int way = 0; way < DIRECTIONS; way++) {
                int next = story.beyond(here, way);
                if (next >= 0 && ahead[next] + 1 == ahead[here]) {
                    return way;
                }
            }
            return NONE;
        }
    }

    /** The map as signs; each sign is found by itself, what is drawn first being asked first. */
    private static final class Sheet {
        private static final int BLANK = 32;
        private static final int UP_MARK = 94;
        private static final int DOWN_MARK = 118;
        private static final int FIRST_LETTER = 65;
        private static final int PLACE_COLUMNS = 6;
        private static final int PLACE_ROWS = 2;
        private static final int SLANT_COLUMN = 3;
        /** By direction: the sign of a straight link. */
        private static final int[] LINE = {124, 47, 45, 92, 124, 47, 45, 92};

        private final Story story;
        private final Places places;
        private int west;
        private int north;

        Sheet(Story story, Places places) {
            this.story = story;
            this.places = places;
        }

        int signAt(int level, int column, int row) {
            west = places.lowest(places.x);
            north = places.lowest(places.y);
            int found = letterAt(level, column, row);
            if (found == BLANK) {
                found = stairsAt(level, column, row);
            }
            return found == BLANK ? lineAt(level, column, row) : found;
        }

        private int letterAt(int level, int column, int row) {
            for (int r = 0; r < story.roomCount; r++) {
                if (isInRow(r, level, row) && column >= columnOf(r) && column < columnBehind(r)) {
                    return FIRST_LETTER + r;
                }
            }
            return BLANK;
        }

        private int stairsAt(int level, int column, int row) {
            for (int r = 0; r < story.roomCount; r++) {
                if (isInRow(r, level, row)) {
                    int next = columnBehind(r);
                    if (story.leading(r, UPWARDS) >= 0) {
                        if (column == next) {
                            return UP_MARK;
                        }
                        next++;
                    }
                    if (column == next && story.leading(r, DOWNWARDS) >= 0) {
                        return DOWN_MARK;
                    }
                }
            }
            return BLANK;
        }

        private int lineAt(int level, int column, int row) {
            for (int l = 0; l < story.linkCount; l++) {
                boolean flat = story.direction[l] < UPWARDS && places.hasBothEnds(l);
                if (flat && places.level[story.from[l]] == level && isOnLine(l, column, row)) {
                    return LINE[story.direction[l]];
                }
            }
            return BLANK;
        }

        private boolean isOnLine(int l, int column, int row) {
            int d = places.straightLength(l);
            if (d == 0) {
                return false;
            }
            int way = story.direction[l];
            // seen from its western end, or the northern one, each link goes by one of four directions
            boolean turned = EAST[way] < 0 || (EAST[way] == 0 && SOUTH[way] < 0);
            int start = turned ? story.to[l] : story.from[l];
            int end = turned ? story.from[l] : story.to[l];
            if (EAST[way] == 0) {
                return column == columnOf(start) && row > rowOf(start) && row < rowOf(end);
            }
            if (SOUTH[way] == 0) {
                return row == rowOf(start) && column >= columnBehind(start) && column < columnOf(end);
            }
            int slope = EAST[way] * SOUTH[way];
            return isOnSlant(column - columnOf(start), slope * (row - rowOf(start)), d);
        }

        /** Columns to the east and rows ahead are counted from the western end. */
        private boolean isOnSlant(int columns, int rows, int d) {
            for (int i = 0; i < d; i++) {
                if (columns == PLACE_COLUMNS * i + SLANT_COLUMN && rows == PLACE_ROWS * i + 1) {
                    return true;
                }
            }
            return false;
        }

        private boolean isInRow(int r, int level, int row) {
            return places.placed[r] && places.level[r] == level && rowOf(r) == row;
        }

        private int columnOf(int r) {
            return PLACE_COLUMNS * (places.x[r] - west);
        }

        private int columnBehind(int r) {
            return columnOf(r) + story.width[r];
        }

        private int rowOf(int r) {
            return PLACE_ROWS * (places.y[r] - north);
        }
    }
}
