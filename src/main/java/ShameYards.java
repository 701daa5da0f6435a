import java.util.Arrays;

/**
 * A ministry whose passages are as long as one's conscience. The numbered promises of DOC.md say
 * what each call answers; every row that a call works on is made once, with the object.
 */
public final class ShameYards {
    public static final int NONE = -1, UNKNOWN = -101, OUTSIDE = -102, STATE = -103, FULL = -104;

    private static final int MOST_LETTERS = 52;
    private static final int MOST_ROOMS = 5;
    private static final int MOST_PASSAGES = 7;
    private static final int MOST_PEOPLE = 5;
    private static final int MOST_SEEN = 6;
    private static final int MOST_SENDS = 30;
    private static final int MOST_FAULTS = 9;
    private static final int TIRED = 9000;
    private static final int KINDS = 5;
    private static final String KIND_LETTERS = "cbmwl";

    private final Page page = new Page();
    private final House now = new House();
    private final House kept = new House();
    private final Ways ways = new Ways();
    private final Pairing pairing = new Pairing();
    private final Wander wander = new Wander();
    private boolean imageStands;
    private int reads;
    private int sends;

    public ShameYards() {
    }

    // ---- the ministry

    public int letter(int code) {
        if (code < 32 || code > 126) {
            return OUTSIDE;
        }
        if (page.size >= MOST_LETTERS) {
            return FULL;
        }
        page.append(code);
        return page.size;
    }

    public int blank() {
        int had = page.size;
        page.size = 0;
        return had;
    }

    public int fault() {
        return page.firstFault();
    }

    public int ministry() {
        if (!page.isWhole()) {
            return STATE;
        }
        now.settle(page);
        page.size = 0;
        imageStands = false;
        reads++;
        return now.peopleCount;
    }

    // ---- people, passages

    public int person(int person, int what) {
        if (!now.hasPerson(person)) {
            return UNKNOWN;
        }
        return tellPerson(person, what);
    }

    private int tellPerson(int person, int what) {
        switch (what) {
            case 0: return now.kinds[person];
            case 1: return now.deeds[person];
            case 2: return now.lies[person];
            case 3: return now.places[person];
            case 4: return now.taken[person];
            case 5: return Sight.possibleLies(now, person);
            case 6: return Sight.bestQuestion(now, person, Sight.possibleLies(now, person));
            default: return OUTSIDE;
        }
    }

    public int as(int person, int kind) {
        if (!now.hasPerson(person)) {
            return UNKNOWN;
        }
        if (kind < 0 || kind >= KINDS) {
            return OUTSIDE;
        }
        return isOfKind(now.clerk(person), kind) ? person : NONE;
    }

    private static boolean isOfKind(Clerk who, int kind) {
        switch (kind) {
            case 1: return who instanceof Boy;
            case 2: return who instanceof Minister;
            case 3: return who instanceof Woman;
            case 4: return who instanceof Lamp;
            default: return true;
        }
    }

    public int passage(int passage, int what) {
        if (!now.hasPassage(passage)) {
            return UNKNOWN;
        }
        return tellPassage(passage, what);
    }

    private int tellPassage(int passage, int what) {
        switch (what) {
            case 0: return now.oneEnd[passage];
            case 1: return now.otherEnd[passage];
            case 2: return now.lengths[passage];
            default: return OUTSIDE;
        }
    }

    public int steps(int person, int passage, int with) {
        if (!now.knows(person, passage, with)) {
            return UNKNOWN;
        }
        return now.stepsOf(person, passage, with);
    }

    // ---- what is done

    public int go(int person, int passage, int with) {
        if (!now.knows(person, passage, with)) {
            return UNKNOWN;
        }
        if (!now.mayLeaveBy(person, passage, with)) {
            return STATE;
        }
        if (now.taken[person] > TIRED || (with != NONE && now.taken[with] > TIRED)) {
            return FULL;
        }
        return now.walk(person, passage, with);
    }

    public int sin(int person) {
        if (!now.hasPerson(person)) {
            return UNKNOWN;
        }
        if (now.deeds[person] >= MOST_FAULTS) {
            return FULL;
        }
        now.deeds[person]++;
        return now.deeds[person];
    }

    public int lie(int person) {
        if (!now.hasPerson(person)) {
            return UNKNOWN;
        }
        if (now.lies[person] >= MOST_FAULTS) {
            return FULL;
        }
        now.lies[person]++;
        return now.lies[person];
    }

    public int confess(int person) {
        if (!now.hasPerson(person)) {
            return UNKNOWN;
        }
        if (now.deeds[person] <= 0) {
            return STATE;
        }
        now.deeds[person]--;
        return now.deeds[person];
    }

    public int carpet(int passage, int length) {
        if (!now.hasPassage(passage)) {
            return UNKNOWN;
        }
        if (length < 1 || length > 9) {
            return OUTSIDE;
        }
        int had = now.lengths[passage];
        now.lengths[passage] = length;
        return had;
    }

    // ---- what would be

    public int far(int person, int from, int to, int what) {
        if (!now.hasPerson(person) || !now.hasRoom(from) || !now.hasRoom(to)) {
            return UNKNOWN;
        }
        if (what != 0 && (what < 10 || what > 13)) {
            return OUTSIDE;
        }
        ways.measure(now, person, to);
        return what == 0 ? ways.stepsFrom(from) : ways.legFrom(now, from, what - 10);
    }

    public int send(int what) {
        if (what != 0 && (what < 11 || what > 14)) {
            return OUTSIDE;
        }
        if (!now.isThere() || sends >= MOST_SENDS) {
            return STATE;
        }
        sends++;
        ways.assign(now);
        return what == 0 ? ways.assignedSteps() : ways.assignedTo(now, what - 10);
    }

    public int pairs(int passage, int what) {
        if (!now.hasPassage(passage)) {
            return UNKNOWN;
        }
        if (what != 0 && (what < 10 || what > 14)) {
            return OUTSIDE;
        }
        pairing.arrange(now, passage);
        return what == 0 ? pairing.leastMost : pairing.partnerOf(now, what - 10);
    }

    public long meet(int a, int b, int times, int what) {
        if (!now.hasPerson(a) || !now.hasPerson(b) || a == b) {
            return UNKNOWN;
        }
        if (times < 1 || times > 3 || what < 0 || what > 1) {
            return OUTSIDE;
        }
        wander.compare(now, a, b, times);
        return what == 0 ? wander.above : wander.below;
    }

    // ---- what is seen

    public int see(int person, int passage, int with, int steps) {
        if (!now.knows(person, passage, with)) {
            return UNKNOWN;
        }
        if (steps < 0 || steps > 120) {
            return OUTSIDE;
        }
        if (now.seenCount >= MOST_SEEN) {
            return FULL;
        }
        now.note(person, passage, with, steps);
        return now.seenCount;
    }

    public int forget() {
        int had = now.seenCount;
        now.seenCount = 0;
        return had;
    }

    public int days(int times, int seed, int what) {
        if (times < 1 || times > 60 || seed < 0 || what < 0 || what > 2) {
            return OUTSIDE;
        }
        if (!now.isThere()) {
            return STATE;
        }
        wander.dream(now, times, seed);
        switch (what) {
            case 0: return wander.dreamtSteps;
            case 1: return wander.dreamtInRoomZero();
            default: return wander.seed;
        }
    }

    // ---- what is told of all

    public int image() {
        if (!now.isThere()) {
            return STATE;
        }
        kept.copyFrom(now);
        imageStands = true;
        return now.sumOfPeople(now.taken);
    }

    public int restore() {
        if (!imageStands) {
            return STATE;
        }
        now.copyFrom(kept);
        return now.sumOfPeople(now.taken);
    }

    public int count(int what) {
        switch (what) {
            case 0: return now.roomCount;
            case 1: return now.passageCount;
            case 2: return now.peopleCount;
            case 3: return now.sumOfPeople(now.deeds);
            case 4: return now.sumOfPeople(now.lies);
            case 5: return now.sumOfPeople(now.taken);
            case 6: return now.walksTogether;
            case 7: return now.peopleInRoomZero();
            case 8: return now.seenCount;
            case 9: return page.size;
            case 10: return reads;
            case 11: return sends;
            default: return OUTSIDE;
        }
    }

    public long digest() {
        long h = 1193;
        for (int person = 0; person < now.peopleCount; person++) {
            for (int what = 0; what <= 6; what++) {
                h = mix(h, tellPerson(person, what));
            }
            h = mixWays(h, person);
        }
        for (int passage = 0; passage < now.passageCount; passage++) {
            h = mixPassage(h, passage);
        }
        if (now.peopleCount >= 2) {
            wander.compare(now, 0, 1, 2);
            h = mix(mix(h, wander.above), wander.below);
        }
        for (int place = 0; place < page.size; place++) {
            h = mix(h, page.codeAt(place));
        }
        for (int what = 0; what <= 11; what++) {
            h = mix(h, count(what));
        }
        return h;
    }

    private long mixWays(long before, int person) {
        long h = before;
        int from = now.places[person];
        for (int to = 0; to < now.roomCount; to++) {
            ways.measure(now, person, to);
            h = mix(h, ways.stepsFrom(from));
            h = mix(h, ways.legFrom(now, from, 0));
        }
        return h;
    }

    private long mixPassage(long before, int passage) {
        long h = before;
        for (int what = 0; what <= 2; what++) {
            h = mix(h, tellPassage(passage, what));
        }
        pairing.arrange(now, passage);
        h = mix(h, pairing.leastMost);
        for (int person = 0; person < MOST_PEOPLE; person++) {
            h = mix(h, pairing.partnerOf(now, person));
        }
        return h;
    }

    private static long mix(long h, long number) {
        return 31 * h + number;
    }

    // ---- the kinds: all are clerks, a lamp is a minister, too

    private static class Clerk {
        int yards(int length, int deeds, int lies) {
            return length + deeds + 2 * lies;
        }
    }

    private static final class Boy extends Clerk {
        int yards(int length, int deeds, int lies) {
            return (super.yards(length, deeds, lies) + 1) / 2;
        }
    }

    private static class Minister extends Clerk {
        int yards(int length, int deeds, int lies) {
            return length + 3 * deeds + 2 * lies;
        }
    }

    private static final class Woman extends Clerk {
        int yards(int length, int deeds, int lies) {
            return (super.yards(length, deeds, lies) + 4) / 5;
        }
    }

    private static final class Lamp extends Minister {
        int yards(int length, int deeds, int lies) {
            return 2 * super.yards(length, deeds, lies);
        }
    }

    /**
     * The letters that wait to be read. Passages and people take four letters each, the sign behind
     * them included, so that the place of a letter alone tells which part it must be.
     */
    private static final class Page {
        private static final int FIRST_PASSAGE = 2;
        private static final int GROUP = 4;

        final int[] codes = new int[MOST_LETTERS];
        int size;

        void append(int code) {
            if (size < MOST_LETTERS) {
                codes[size] = code;
                size++;
            }
        }

        int codeAt(int place) {
            return place >= 0 && place < size ? codes[place] : 0;
        }

        int digitAt(int place) {
            return codeAt(place) - '0';
        }

        int kindAt(int place) {
            return KIND_LETTERS.indexOf((char) codeAt(place));
        }

        /** The place of the ';' that ends the passages; the page's size, if it is not there yet. */
        int border() {
            for (int place = FIRST_PASSAGE + GROUP - 1; place < size; place += GROUP) {
                if (codes[place] == ';') {
                    return place;
                }
            }
            return size;
        }

        int firstFault() {
            int border = border();
            for (int place = 0; place < size; place++) {
                if (!fits(place, border)) {
                    return place;
                }
            }
            return size;
        }

        boolean isWhole() {
            int behind = size - border();
            return behind > 0 && behind % GROUP == 0 && firstFault() == size;
        }

        private boolean fits(int place, int border) {
            if (place == 0) {
                return isDigit(place, 2, MOST_ROOMS);
            }
            if (place == 1) {
                return codeAt(place) == ';';
            }
            if (place < border) {
                return fitsPassage(place);
            }
            return place == border || fitsPerson(place, place - border - 1);
        }

        private boolean fitsPassage(int place) {
            int highestRoom = digitAt(0) - 1;
            switch ((place - FIRST_PASSAGE) % GROUP) {
                case 0: return isDigit(place, 0, highestRoom);
                case 1: return isDigit(place, 0, highestRoom) && codeAt(place) != codeAt(place - 1);
                case 2: return isDigit(place, 1, 9);
                default: return codeAt(place) == ',' && place - FIRST_PASSAGE < GROUP * (MOST_PASSAGES - 1);
            }
        }

        private boolean fitsPerson(int place, int offset) {
            switch (offset % GROUP) {
                case 0: return kindAt(place) >= 0;
                case 1: return isDigit(place, 0, 9);
                case 2: return isDigit(place, 0, 9);
                default: return codeAt(place) == ',' && offset < GROUP * (MOST_PEOPLE - 1);
            }
        }

        private boolean isDigit(int place, int low, int high) {
            int digit = codeAt(place) - '0';
            return digit >= low && digit <= high;
        }
    }

    /** A ministry as it stands: its rooms and passages, its people, and what is seen of them. */
    private static final class House {
        final Clerk[] clerks = {new Clerk(), new Boy(), new Minister(), new Woman(), new Lamp()};
        int roomCount;
        int passageCount;
        int peopleCount;
        final int[] oneEnd = new int[MOST_PASSAGES];
        final int[] otherEnd = new int[MOST_PASSAGES];
        final int[] lengths = new int[MOST_PASSAGES];
        final int[] kinds = new int[MOST_PEOPLE];
        final int[] deeds = new int[MOST_PEOPLE];
        final int[] lies = new int[MOST_PEOPLE];
        final int[] places = new int[MOST_PEOPLE];
        final int[] taken = new int[MOST_PEOPLE];
        int walksTogether;
        int seenCount;
        final int[] seenPerson = new int[MOST_SEEN];
        final int[] seenPassage = new int[MOST_SEEN];
        final int[] seenWith = new int[MOST_SEEN];
        final int[] seenSteps = new int[MOST_SEEN];

        /** Takes over what a page says that has been found to be whole. */
        void settle(Page page) {
            int border = page.border();
            roomCount = page.digitAt(0);
            passageCount = Math.min((border - 1) / Page.GROUP, MOST_PASSAGES);
            peopleCount = Math.min((page.size - border) / Page.GROUP, MOST_PEOPLE);
            for (int i = 0; i < passageCount; i++) {
                int at = Page.FIRST_PASSAGE + Page.GROUP * i;
                oneEnd[i] = page.digitAt(at);
                otherEnd[i] = page.digitAt(at + 1);
                lengths[i] = page.digitAt(at + 2);
            }
            for (int i = 0; i < peopleCount; i++) {
                int at = border + 1 + Page.GROUP * i;
                kinds[i] = page.kindAt(at);
                deeds[i] = page.digitAt(at + 1);
                lies[i] = page.digitAt(at + 2);
                places[i] = 0;
                taken[i] = 0;
            }
            walksTogether = 0;
            seenCount = 0;
        }

        void copyFrom(House other) {
            roomCount = other.roomCount;
            passageCount = other.passageCount;
            peopleCount = other.peopleCount;
            walksTogether = other.walksTogether;
            seenCount = other.seenCount;
            System.arraycopy(other.oneEnd, 0, oneEnd, 0, MOST_PASSAGES);
            System.arraycopy(other.otherEnd, 0, otherEnd, 0, MOST_PASSAGES);
            System.arraycopy(other.lengths, 0, lengths, 0, MOST_PASSAGES);
            System.arraycopy(other.kinds, 0, kinds, 0, MOST_PEOPLE);
            System.arraycopy(other.deeds, 0, deeds, 0, MOST_PEOPLE);
            System.arraycopy(other.lies, 0, lies, 0, MOST_PEOPLE);
            System.arraycopy(other.places, 0, places, 0, MOST_PEOPLE);
            System.arraycopy(other.taken, 0, taken, 0, MOST_PEOPLE);
            System.arraycopy(other.seenPerson, 0, seenPerson, 0, MOST_SEEN);
            System.arraycopy(other.seenPassage, 0, seenPassage, 0, MOST_SEEN);
            System.arraycopy(other.seenWith, 0, seenWith, 0, MOST_SEEN);
            System.arraycopy(other.seenSteps, 0, seenSteps, 0, MOST_SEEN);
        }

        boolean isThere() {
            return roomCount > 0;
        }

        boolean hasPerson(int number) {
            return number >= 0 && number < peopleCount;
        }

        boolean hasPassage(int number) {
            return number >= 0 && number < passageCount;
        }

        boolean hasRoom(int number) {
            return number >= 0 && number < roomCount;
        }

        boolean knows(int person, int passage, int with) {
            return hasPerson(person) && hasPassage(passage)
                    && (with == NONE || (hasPerson(with) && with != person));
        }

        Clerk clerk(int person) {
            return clerks[kinds[person]];
        }

        int aloneSteps(int person, int passage) {
            return clerk(person).yards(lengths[passage], deeds[person], lies[person]);
        }

        /** The steps that a person would have, alone or with another one, had he told so many lies. */
        int stepsWithLies(int person, int passage, int with, int supposed) {
            int length = lengths[passage];
            int own = clerk(person).yards(length, deeds[person], supposed);
            if (with == NONE) {
                return own;
            }
            return (own + clerk(with).yards(length, deeds[with], lies[with]) + 1) / 2;
        }

        int stepsOf(int person, int passage, int with) {
            return stepsWithLies(person, passage, with, lies[person]);
        }

        boolean endsAt(int passage, int room) {
            return oneEnd[passage] == room || otherEnd[passage] == room;
        }

        int across(int passage, int room) {
            return oneEnd[passage] == room ? otherEnd[passage] : oneEnd[passage];
        }

        int doorsOf(int room) {
            int doors = 0;
            for (int passage = 0; passage < passageCount; passage++) {
                if (endsAt(passage, room)) {
                    doors++;
                }
            }
            return doors;
        }

        /** The passage behind the door of that number, counted from 0; NONE beyond the last. */
        int doorOf(int room, int number) {
            int left = number;
            for (int passage = 0; passage < passageCount; passage++) {
                if (endsAt(passage, room)) {
                    if (left == 0) {
                        return passage;
                    }
                    left--;
                }
            }
            return NONE;
        }

        boolean mayLeaveBy(int person, int passage, int with) {
            return endsAt(passage, places[person]) && (with == NONE || places[with] == places[person]);
        }

        int walk(int person, int passage, int with) {
            int has = stepsWithLies(person, passage, with, lies[person]);
            int goal = across(passage, places[person]);
            places[person] = goal;
            taken[person] += has;
            if (with != NONE) {
                places[with] = goal;
                taken[with] += has;
                walksTogether++;
            }
            return has;
        }

        void note(int person, int passage, int with, int stepsSeen) {
            if (seenCount < MOST_SEEN) {
                seenPerson[seenCount] = person;
                seenPassage[seenCount] = passage;
                seenWith[seenCount] = with;
                seenSteps[seenCount] = stepsSeen;
                seenCount++;
            }
        }

        int sumOfPeople(int[] row) {
            int sum = 0;
            for (int person = 0; person < peopleCount; person++) {
                sum += row[person];
            }
            return sum;
        }

        int peopleInRoomZero() {
            int there = 0;
            for (int person = 0; person < peopleCount; person++) {
                if (places[person] == 0) {
                    there++;
                }
            }
            return there;
        }
    }

    /** How far it is to a room for one alone, and who is best sent to which room. */
    private static final class Ways {
        private static final int NEVER = 1000000;

        private final int[] tolls = new int[MOST_PASSAGES];
        private final int[] reach = new int[MOST_ROOMS];
        private final int[][] costs = new int[MOST_PEOPLE][MOST_ROOMS];
        private final int[] trial = new int[MOST_ROOMS];
        private final int[] best = new int[MOST_ROOMS];
        private int fewest = NEVER;

        /** Measures from every room to the goal; a passage is as long either way. */
        void measure(House house, int person, int goal) {
            for (int passage = 0; passage < house.passageCount; passage++) {
                tolls[passage] = house.aloneSteps(person, passage);
            }
            Arrays.fill(reach, NEVER);
            reach[goal] = 0;
            // a shortest way enters no room twice, so it has fewer passages than there are rooms
            for (int round = 1; round < house.roomCount; round++) {
                for (int passage = 0; passage < house.passageCount; passage++) {
                    shorten(house.oneEnd[passage], house.otherEnd[passage], tolls[passage]);
                }
            }
        }

        private void shorten(int a, int b, int toll) {
            reach[a] = Math.min(reach[a], reach[b] + toll);
            reach[b] = Math.min(reach[b], reach[a] + toll);
        }

        int stepsFrom(int room) {
            return reach[room] < NEVER ? reach[room] : NONE;
        }

        /** The passage of that number, from 0, on the first of the shortest ways to the goal. */
        int legFrom(House house, int from, int number) {
            int room = from;
            int leg = nextLeg(house, room);
            for (int i = 0; i < number && leg != NONE; i++) {
                room = house.across(leg, room);
                leg = nextLeg(house, room);
            }
            return leg;
        }

        // the goal has no next leg, as every toll is at least 1, nor has a room that is cut off
        private int nextLeg(House house, int room) {
            for (int passage = 0; passage < house.passageCount; passage++) {
                if (house.endsAt(passage, room)
                        && tolls[passage] + reach[house.across(passage, room)] == reach[room]) {
                    return passage;
                }
            }
            return NONE;
        }

        void assign(House house) {
            for (int person = 0; person < house.peopleCount; person++) {
                measure(house, person, house.places[person]);
                System.arraycopy(reach, 0, costs[person], 0, MOST_ROOMS);
            }
            fewest = NEVER;
            assignFrom(this, house, 1, 0, 0);
        }

        // those sent already are bits; assignments come in the order of their numbers, so that a
        // later one must be better to be kept
        private static void assignFrom(Ways ways, House house, int room, int sent, int sum) {
            if (sum >= ways.fewest) {
                return;
            }
            if (room >= house.roomCount || room >= MOST_ROOMS) {
                ways.fewest = sum;
                System.arraycopy(ways.trial, 0, ways.best, 0, MOST_ROOMS);
                return;
            }
            for (int person = 0; person < house.peopleCount; person++) {
                if (((sent >> person) & 1) == 0) {
                    ways.trial[room] = person;
                    assignFrom(ways, house, room + 1, sent | (1 << person), sum + ways.costs[person][room]);
                }
            }
        }

        int assignedSteps() {
            return fewest < NEVER ? fewest : NONE;
        }

        int assignedTo(House house, int room) {
            return fewest < NEVER && house.hasRoom(room) ? best[room] : NONE;
        }
    }

    /** Who should go with whom through a passage, so that the last one is there soonest. */
    private static final class Pairing {
        private static final int ENDLESS = 1000000;

        private final int[][] has = new int[MOST_PEOPLE][MOST_PEOPLE];
        private final int[] trial = new int[MOST_PEOPLE];
        private final int[] best = new int[MOST_PEOPLE];
        private int people;
        int leastMost;
        private int leastPairs;

        void arrange(House house, int passage) {
            people = house.peopleCount;
            for (int a = 0; a < people; a++) {
                has[a][a] = house.aloneSteps(a, passage);
                for (int b = a + 1; b < people; b++) {
                    has[a][b] = house.stepsOf(a, passage, b);
                }
            }
            leastMost = ENDLESS;
            leastPairs = ENDLESS;
            arrangeFrom(this, 0, 0, 0, 0);
        }

        // those placed already are bits; arrangements come in the order of their numbers, so that a
        // later one must be better to be kept
        private static void arrangeFrom(Pairing plan, int person, int placed, int most, int pairCount) {
            if (!plan.isBetter(most, pairCount)) {
                return;
            }
            if (person >= plan.people || person >= MOST_PEOPLE) {
                plan.keep(most, pairCount);
                return;
            }
            if (((placed >> person) & 1) != 0) {
                arrangeFrom(plan, person + 1, placed, most, pairCount);
                return;
            }
            plan.trial[person] = NONE;
            arrangeFrom(plan, person + 1, placed, Math.max(most, plan.has[person][person]), pairCount);
            for (int other = person + 1; other < plan.people; other++) {
                if (((placed >> other) & 1) == 0) {
                    plan.trial[person] = other;
                    plan.trial[other] = person;
                    arrangeFrom(plan, person + 1, placed | (1 << other),
                            Math.max(most, plan.has[person][other]), pairCount + 1);
                }
            }
        }

        private boolean isBetter(int most, int pairCount) {
            return most < leastMost || (most == leastMost && pairCount < leastPairs);
        }

        private void keep(int most, int pairCount) {
            leastMost = most;
            leastPairs = pairCount;
            System.arraycopy(trial, 0, best, 0, MOST_PEOPLE);
        }

        int partnerOf(House house, int person) {
            return house.hasPerson(person) ? best[person] : NONE;
        }
    }

    /** Those who go about by chance: how likely two meet, and days by a seed. */
    private static final class Wander {
        // can be shared out evenly among 1 to 7 passages; its sixth power is still a long
        private static final long PARTS = 420;
        private static final int EUCLID_ROUNDS = 200;

        private final long[] chancesOfA = new long[MOST_ROOMS];
        private final long[] chancesOfB = new long[MOST_ROOMS];
        private final long[] next = new long[MOST_ROOMS];
        private final House dreamt = new House();
        long above;
        long below = 1;
        int dreamtSteps;
        int seed;

        void compare(House house, int a, int b, int turns) {
            spread(house, house.places[a], turns, chancesOfA);
            spread(house, house.places[b], turns, chancesOfB);
            above = 0;
            for (int room = 0; room < house.roomCount; room++) {
                above += chancesOfA[room] * chancesOfB[room];
            }
            below = 1;
            for (int turn = 0; turn < turns; turn++) {
                below *= PARTS * PARTS;
            }
            long common = commonDivisor(above, below);
            if (common > 0) {
                above /= common;
                below /= common;
            }
        }

        private void spread(House house, int from, int turns, long[] chances) {
            Arrays.fill(chances, 0L);
            chances[from] = 1;
            for (int turn = 0; turn < turns; turn++) {
                Arrays.fill(next, 0L);
                for (int room = 0; room < house.roomCount; room++) {
                    shareOut(house, room, chances[room]);
                }
                System.arraycopy(next, 0, chances, 0, MOST_ROOMS);
            }
        }

        private void shareOut(House house, int room, long chance) {
            int doors = house.doorsOf(room);
            if (doors <= 0) {
                next[room] += chance * PARTS;
                return;
            }
            long share = chance * (PARTS / doors);
            for (int passage = 0; passage < house.passageCount; passage++) {
                if (house.endsAt(passage, room)) {
                    next[house.across(passage, room)] += share;
                }
            }
        }

        private static long commonDivisor(long a, long b) {
            long x = a;
            long y = b;
            for (int round = 0; round < EUCLID_ROUNDS && y != 0; round++) {
                long rest = x % y;
                x = y;
                y = rest;
            }
            return x;
        }

        void dream(House house, int times, int firstSeed) {
            dreamt.copyFrom(house);
            seed = firstSeed;
            dreamtSteps = 0;
            for (int i = 0; i < times; i++) {
                dreamOfOne();
            }
        }

        private void dreamOfOne() {
            int person = draw(dreamt.peopleCount);
            int room = dreamt.places[person];
            int doors = dreamt.doorsOf(room);
            if (doors > 0) {
                int passage = dreamt.doorOf(room, draw(doors));
                if (passage != NONE) {
                    dreamtSteps += dreamt.walk(person, passage, NONE);
                }
            }
            if (draw(4) == 0 && dreamt.lies[person] < MOST_FAULTS) {
                dreamt.lies[person]++;
            }
        }

        private int draw(int of) {
            seed = (int) ((1103515245L * seed + 12345) & 0x7fffffffL);
            return of > 0 ? (seed / 65536) % of : 0;
        }

        int dreamtInRoomZero() {
            return dreamt.peopleInRoomZero();
        }
    }

    /** What can be told of one's lies by what is seen of him, and how to learn most. */
    private static final class Sight {
        static int possibleLies(House house, int person) {
            int bits = 0;
            for (int supposed = 0; supposed <= MOST_FAULTS; supposed++) {
                if (isAsSeen(house, person, supposed)) {
                    bits |= 1 << supposed;
                }
            }
            return bits;
        }

        private static boolean isAsSeen(House house, int person, int supposed) {
            for (int i = 0; i < house.seenCount && i < MOST_SEEN; i++) {
                if (house.seenPerson[i] == person && house.seenSteps[i]
                        != house.stepsWithLies(person, house.seenPassage[i], house.seenWith[i], supposed)) {
                    return false;
                }
            }
            return true;
        }

        static int bestQuestion(House house, int person, int possible) {
            if (possible == 0) {
                return NONE;
            }
            int best = NONE;
            int fewestLeft = MOST_FAULTS + 2;
            for (int passage = 0; passage < house.passageCount; passage++) {
                for (int with = NONE; with < house.peopleCount; with++) {
                    if (with == person) {
                        continue;
                    }
                    int left = leftAtWorst(house, person, passage, with, possible);
                    if (left < fewestLeft) {
                        fewestLeft = left;
                        best = 10 * passage + with + 1;
                    }
                }
            }
            return best;
        }

        // more lies are never fewer steps, so that those with like steps stand side by side
        private static int leftAtWorst(House house, int person, int passage, int with, int possible) {
            int worst = 0;
            int alike = 0;
            int before = NONE;
            for (int supposed = 0; supposed <= MOST_FAULTS; supposed++) {
                if (((possible >> supposed) & 1) != 0) {
                    int has = house.stepsWithLies(person, passage, with, supposed);
                    alike = has == before ? alike + 1 : 1;
                    before = has;
                    worst = Math.max(worst, alike);
                }
            }
            return worst;
        }
    }
}
