import java.math.BigInteger;
import java.util.ArrayList;
import java.util.Arrays;
import java.util.HashMap;
import java.util.List;
import java.util.Map;
import java.util.TreeMap;
import java.util.function.IntUnaryOperator;
import java.util.regex.Matcher;
import java.util.regex.Pattern;

/**
 * The document once more, as slowly and literally as can be: every way, every assignment and every
 * pairing is written down and the first best one is taken. Nothing here is shared with the class.
 */
final class Oracle {
    private static final int NONE = -1;
    private static final int UNKNOWN = -101;
    private static final int OUTSIDE = -102;
    private static final int STATE = -103;
    private static final int FULL = -104;
    private static final Pattern MINISTRY = Pattern.compile(ministryPattern());

    /** What an image keeps. */
    private static final class Things {
        int[] deeds;
        int[] lies;
        int[] rooms;
        int[] lengths;
        int[] steps;
        int together;
        List<int[]> seen = new ArrayList<>();

        Things copy() {
            Things other = new Things();
            other.deeds = deeds.clone();
            other.lies = lies.clone();
            other.rooms = rooms.clone();
            other.lengths = lengths.clone();
            other.steps = steps.clone();
            other.together = together;
            other.seen = new ArrayList<>(seen);
            return other;
        }
    }

    private String page = "";
    private int roomCount;
    private int[][] ends = new int[0][];
    private char[] kinds = new char[0];
    private Things things = new Things();
    private Things kept;
    private int reads;
    private int sends;

    Oracle() {
        things.deeds = things.lies = things.rooms = things.lengths = things.steps = new int[0];
    }

    private static String ministryPattern() {
        StringBuilder all = new StringBuilder();
        for (int rooms = 2; rooms <= 5; rooms++) {
            StringBuilder pair = new StringBuilder();
            for (int a = 0; a < rooms; a++) {
                for (int b = 0; b < rooms; b++) {
                    if (a != b) {
                        pair.append(pair.length() == 0 ? "" : "|").append(a).append(b);
                    }
                }
            }
            String passage = "(?:" + pair + ")[1-9]";
            all.append(rooms == 2 ? "" : "|").append(rooms).append(";").append(passage)
                    .append("(?:,").append(passage).append("){0,6};[cbmwl][0-9][0-9](?:,[cbmwl][0-9][0-9]){0,4}");
        }
        return all.toString();
    }

    int letter(int code) {
        if (code < 32 || code > 126) {
            return OUTSIDE;
        }
        if (page.length() + 1 > 52) {
            return FULL;
        }
        page += (char) code;
        return page.length();
    }

    int blank() {
        int had = page.length();
        page = "";
        return had;
    }

    int fault() {
        for (int size = 1; size <= page.length(); size++) {
            Matcher matcher = MINISTRY.matcher(page.substring(0, size));
            if (!matcher.matches() && !matcher.hitEnd()) {
                return size - 1;
            }
        }
        return page.length();
    }

    int ministry() {
        if (!MINISTRY.matcher(page).matches()) {
            return STATE;
        }
        String[] parts = page.split(";");
        String[] passages = parts[1].split(",");
        String[] people = parts[2].split(",");
        roomCount = Integer.parseInt(parts[0]);
        ends = new int[passages.length][];
        things = new Things();
        things.lengths = new int[passages.length];
        for (int i = 0; i < passages.length; i++) {
            ends[i] = new int[] {digit(passages[i], 0), digit(passages[i], 1)};
            things.lengths[i] = digit(passages[i], 2);
        }
        kinds = new char[people.length];
        things.deeds = new int[people.length];
        things.lies = new int[people.length];
        things.rooms = new int[people.length];
        things.steps = new int[people.length];
        for (int i = 0; i < people.length; i++) {
            kinds[i] = people[i].charAt(0);
            things.deeds[i] = digit(people[i], 1);
            things.lies[i] = digit(people[i], 2);
        }
        kept = null;
        reads++;
        page = "";
        return people.length;
    }

    private static int digit(String text, int place) {
        return Character.digit(text.charAt(place), 10);
    }

    private boolean noPerson(int person) {
        return person < 0 || person >= kinds.length;
    }

    private boolean noPassage(int passage) {
        return passage < 0 || passage >= ends.length;
    }

    private boolean noRoom(int room) {
        return room < 0 || room >= roomCount;
    }

    private boolean noWalk(int person, int passage, int with) {
        return noPerson(person) || noPassage(passage) || with != NONE && (noPerson(with) || with == person);
    }

    int person(int person, int what) {
        if (noPerson(person)) {
            return UNKNOWN;
        }
        return switch (what) {
            case 0 -> "cbmwl".indexOf(kinds[person]);
            case 1 -> things.deeds[person];
            case 2 -> things.lies[person];
            case 3 -> things.rooms[person];
            case 4 -> things.steps[person];
            case 5 -> possible(person).stream().mapToInt(lies -> 1 << lies).sum();
            case 6 -> ask(person);
            default -> OUTSIDE;
        };
    }

    private List<Integer> possible(int person) {
        List<Integer> possible = new ArrayList<>();
        for (int lies = 0; lies <= 9; lies++) {
            boolean all = true;
            for (int[] one : things.seen) {
                all &= one[0] != person || both(person, lies, one[1], one[2]) == one[3];
            }
            if (all) {
                possible.add(lies);
            }
        }
        return possible;
    }

    private int ask(int person) {
        List<Integer> possible = possible(person);
        if (possible.isEmpty()) {
            return NONE;
        }
        TreeMap<Integer, Integer> firstByLeft = new TreeMap<>();
        for (int told = 0; told < 10 * ends.length; told++) {
            int with = told % 10 - 1;
            if (noWalk(person, told / 10, with)) {
                continue;
            }
            Map<Integer, Integer> left = new HashMap<>();
            for (int lies : possible) {
                left.merge(both(person, lies, told / 10, with), 1, Integer::sum);
            }
            int worst = left.values().stream().mapToInt(i -> i).max().getAsInt();
            firstByLeft.putIfAbsent(worst, told);
        }
        return firstByLeft.firstEntry().getValue();
    }

    int as(int person, int kind) {
        if (noPerson(person)) {
            return UNKNOWN;
        }
        if (kind < 0 || kind > 4) {
            return OUTSIDE;
        }
        String is = Map.of('c', "0", 'b', "01", 'm', "02", 'w', "03", 'l', "024").get(kinds[person]);
        return is.contains(String.valueOf(kind)) ? person : NONE;
    }

    int passage(int passage, int what) {
        if (noPassage(passage)) {
            return UNKNOWN;
        }
        if (what < 0 || what > 2) {
            return OUTSIDE;
        }
        return what == 2 ? things.lengths[passage] : ends[passage][what];
    }

    private static int roundedUp(int a, int b) {
        return (int) Math.ceil(a / (double) b);
    }

    private int alone(int person, int lies, int passage) {
        int length = things.lengths[passage];
        int deeds = things.deeds[person];
        int clerk = length + deeds + 2 * lies;
        int minister = length + 3 * deeds + 2 * lies;
        return switch (kinds[person]) {
            case 'b' -> roundedUp(clerk, 2);
            case 'm' -> minister;
            case 'l' -> 2 * minister;
            case 'w' -> roundedUp(clerk, 5);
            default -> clerk;
        };
    }

    private int both(int person, int lies, int passage, int with) {
        int own = alone(person, lies, passage);
        return with == NONE ? own : roundedUp(own + alone(with, things.lies[with], passage), 2);
    }

    int steps(int person, int passage, int with) {
        return noWalk(person, passage, with) ? UNKNOWN : both(person, things.lies[person], passage, with);
    }

    private boolean endsIn(int passage, int room) {
        return ends[passage][0] == room || ends[passage][1] == room;
    }

    private int other(int passage, int room) {
        return ends[passage][0] + ends[passage][1] - room;
    }

    int go(int person, int passage, int with) {
        if (noWalk(person, passage, with)) {
            return UNKNOWN;
        }
        int room = things.rooms[person];
        if (!endsIn(passage, room) || with != NONE && things.rooms[with] != room) {
            return STATE;
        }
        if (things.steps[person] > 9000 || with != NONE && things.steps[with] > 9000) {
            return FULL;
        }
        int has = steps(person, passage, with);
        for (int who : with == NONE ? new int[] {person} : new int[] {person, with}) {
            things.rooms[who] = other(passage, room);
            things.steps[who] += has;
        }
        things.together += with == NONE ? 0 : 1;
        return has;
    }

    int sin(int person) {
        return noPerson(person) ? UNKNOWN : things.deeds[person] == 9 ? FULL : ++things.deeds[person];
    }

    int lie(int person) {
        return noPerson(person) ? UNKNOWN : things.lies[person] == 9 ? FULL : ++things.lies[person];
    }

    int confess(int person) {
        return noPerson(person) ? UNKNOWN : things.deeds[person] == 0 ? STATE : --things.deeds[person];
    }

    int carpet(int passage, int length) {
        if (noPassage(passage)) {
            return UNKNOWN;
        }
        if (length < 1 || length > 9) {
            return OUTSIDE;
        }
        int had = things.lengths[passage];
        things.lengths[passage] = length;
        return had;
    }

    int far(int person, int from, int to, int what) {
        if (noPerson(person) || noRoom(from) || noRoom(to)) {
            return UNKNOWN;
        }
        if (what != 0 && (what < 10 || what > 13)) {
            return OUTSIDE;
        }
        List<Integer> way = bestWay(person, from, to);
        if (way == null) {
            return NONE;
        }
        if (what == 0) {
            return length(person, way);
        }
        return what - 10 < way.size() ? way.get(what - 10) : NONE;
    }

    private int length(int person, List<Integer> way) {
        return way.stream().mapToInt(passage -> alone(person, things.lies[person], passage)).sum();
    }

    private List<Integer> bestWay(int person, int from, int to) {
        List<List<Integer>> all = new ArrayList<>();
        addWays(from, to, new ArrayList<>(), 1 << from, all);
        List<Integer> best = null;
        for (List<Integer> way : all) {
            int less = best == null ? -1 : Integer.compare(length(person, way), length(person, best));
            if (less < 0 || less == 0 && isFirst(way, best)) {
                best = way;
            }
        }
        return best;
    }

    private void addWays(int at, int to, List<Integer> way, int been, List<List<Integer>> all) {
        if (at == to) {
            all.add(new ArrayList<>(way));
            return;
        }
        for (int passage = ends.length - 1; passage >= 0; passage--) {
            if (endsIn(passage, at) && (been >> other(passage, at) & 1) == 0) {
                way.add(passage);
                addWays(other(passage, at), to, way, been | 1 << other(passage, at), all);
                way.remove(way.size() - 1);
            }
        }
    }

    private static boolean isFirst(List<Integer> a, List<Integer> b) {
        for (int i = 0; i < a.size() && i < b.size(); i++) {
            if (!a.get(i).equals(b.get(i))) {
                return a.get(i) < b.get(i);
            }
        }
        return a.size() < b.size();
    }

    int send(int what) {
        if (what != 0 && (what < 11 || what > 14)) {
            return OUTSIDE;
        }
        if (roomCount == 0 || sends == 30) {
            return STATE;
        }
        sends++;
        int fewest = Integer.MAX_VALUE;
        int[] best = null;
        int choices = (int) Math.pow(kinds.length, roomCount - 1);
        for (int choice = 0; choice < choices; choice++) {
            int[] who = new int[roomCount - 1];
            int rest = choice;
            for (int i = who.length - 1; i >= 0; i--) {
                who[i] = rest % kinds.length;
                rest /= kinds.length;
            }
            int sum = sumOf(who);
            if (sum != NONE && sum < fewest) {
                fewest = sum;
                best = who;
            }
        }
        if (best == null) {
            return NONE;
        }
        return what == 0 ? fewest : what - 11 < best.length ? best[what - 11] : NONE;
    }

    private int sumOf(int[] who) {
        if (Arrays.stream(who).distinct().count() < who.length) {
            return NONE;
        }
        int sum = 0;
        for (int i = 0; i < who.length; i++) {
            int steps = far(who[i], things.rooms[who[i]], i + 1, 0);
            if (steps == NONE) {
                return NONE;
            }
            sum += steps;
        }
        return sum;
    }

    int pairs(int passage, int what) {
        if (noPassage(passage)) {
            return UNKNOWN;
        }
        if (what != 0 && (what < 10 || what > 14)) {
            return OUTSIDE;
        }
        int[] best = bestPairs(passage);
        if (what == 0) {
            return mostSteps(passage, best);
        }
        return what - 10 < best.length ? best[what - 10] : NONE;
    }

    private int mostSteps(int passage, int[] with) {
        int most = 0;
        for (int i = 0; i < with.length; i++) {
            most = Math.max(most, steps(i, passage, with[i]));
        }
        return most;
    }

    private int[] bestPairs(int passage) {
        int people = kinds.length;
        int[] best = null;
        int choices = (int) Math.pow(people + 1, people);
        for (int choice = 0; choice < choices; choice++) {
            int[] with = new int[people];
            int rest = choice;
            for (int i = people - 1; i >= 0; i--) {
                with[i] = rest % (people + 1) - 1;
                rest /= people + 1;
            }
            if (isPairing(with) && (best == null || isBetter(passage, with, best))) {
                best = with;
            }
        }
        return best;
    }

    private static boolean isPairing(int[] with) {
        for (int i = 0; i < with.length; i++) {
            if (with[i] == i || with[i] != NONE && with[with[i]] != i) {
                return false;
            }
        }
        return true;
    }

    private boolean isBetter(int passage, int[] with, int[] best) {
        int less = Integer.compare(mostSteps(passage, with), mostSteps(passage, best));
        return less < 0 || less == 0 && going(with) < going(best);
    }

    private static long going(int[] with) {
        return Arrays.stream(with).filter(i -> i != NONE).count();
    }

    long meet(int a, int b, int times, int what) {
        if (noPerson(a) || noPerson(b) || a == b) {
            return UNKNOWN;
        }
        if (times < 1 || times > 3 || what < 0 || what > 1) {
            return OUTSIDE;
        }
        BigInteger[] sum = {BigInteger.ZERO, BigInteger.ONE};
        for (int room = 0; room < roomCount; room++) {
            BigInteger[] first = likely(things.rooms[a], room, times);
            BigInteger[] second = likely(things.rooms[b], room, times);
            sum = plus(sum, new BigInteger[] {first[0].multiply(second[0]), first[1].multiply(second[1])});
        }
        return sum[what].longValueExact();
    }

    private BigInteger[] likely(int at, int goal, int times) {
        if (times == 0) {
            return new BigInteger[] {at == goal ? BigInteger.ONE : BigInteger.ZERO, BigInteger.ONE};
        }
        List<Integer> doors = doors(at);
        if (doors.isEmpty()) {
            return likely(at, goal, times - 1);
        }
        BigInteger[] sum = {BigInteger.ZERO, BigInteger.ONE};
        for (int door : doors) {
            sum = plus(sum, likely(other(door, at), goal, times - 1));
        }
        return new BigInteger[] {sum[0], sum[1].multiply(BigInteger.valueOf(doors.size()))};
    }

    private static BigInteger[] plus(BigInteger[] a, BigInteger[] b) {
        BigInteger above = a[0].multiply(b[1]).add(b[0].multiply(a[1]));
        BigInteger below = a[1].multiply(b[1]);
        BigInteger common = above.gcd(below);
        return new BigInteger[] {above.divide(common), below.divide(common)};
    }

    private List<Integer> doors(int room) {
        List<Integer> doors = new ArrayList<>();
        for (int passage = 0; passage < ends.length; passage++) {
            if (endsIn(passage, room)) {
                doors.add(passage);
            }
        }
        return doors;
    }

    int see(int person, int passage, int with, int steps) {
        if (noWalk(person, passage, with)) {
            return UNKNOWN;
        }
        if (steps < 0 || steps > 120) {
            return OUTSIDE;
        }
        if (things.seen.size() == 6) {
            return FULL;
        }
        things.seen.add(new int[] {person, passage, with, steps});
        return things.seen.size();
    }

    int forget() {
        int had = things.seen.size();
        things.seen.clear();
        return had;
    }

    int days(int times, int seed, int what) {
        if (times < 1 || times > 60 || seed < 0 || what < 0 || what > 2) {
            return OUTSIDE;
        }
        if (roomCount == 0) {
            return STATE;
        }
        Things truth = things;
        things = truth.copy();
        BigInteger[] at = {BigInteger.valueOf(seed)};
        IntUnaryOperator draw = of -> {
            at[0] = at[0].multiply(BigInteger.valueOf(1103515245)).add(BigInteger.valueOf(12345))
                    .mod(BigInteger.TWO.pow(31));
            return at[0].divide(BigInteger.valueOf(65536)).mod(BigInteger.valueOf(of)).intValue();
        };
        int sum = 0;
        for (int i = 0; i < times; i++) {
            int who = draw.applyAsInt(kinds.length);
            List<Integer> doors = doors(things.rooms[who]);
            if (!doors.isEmpty()) {
                int passage = doors.get(draw.applyAsInt(doors.size()));
                sum += alone(who, things.lies[who], passage);
                things.rooms[who] = other(passage, things.rooms[who]);
            }
            if (draw.applyAsInt(4) == 0) {
                things.lies[who] = Math.min(9, things.lies[who] + 1);
            }
        }
        int told = what == 0 ? sum : what == 1 ? count(7) : at[0].intValueExact();
        things = truth;
        return told;
    }

    int image() {
        if (roomCount == 0) {
            return STATE;
        }
        kept = things.copy();
        return count(5);
    }

    int restore() {
        if (kept == null) {
            return STATE;
        }
        things = kept.copy();
        return count(5);
    }

    int count(int what) {
        return switch (what) {
            case 0 -> roomCount;
            case 1 -> ends.length;
            case 2 -> kinds.length;
            case 3 -> Arrays.stream(things.deeds).sum();
            case 4 -> Arrays.stream(things.lies).sum();
            case 5 -> Arrays.stream(things.steps).sum();
            case 6 -> things.together;
            case 7 -> (int) Arrays.stream(things.rooms).filter(room -> room == 0).count();
            case 8 -> things.seen.size();
            case 9 -> page.length();
            case 10 -> reads;
            case 11 -> sends;
            default -> OUTSIDE;
        };
    }

    long digest() {
        List<Long> told = new ArrayList<>();
        for (int who = 0; who < kinds.length; who++) {
            for (int what = 0; what <= 6; what++) {
                told.add((long) person(who, what));
            }
            for (int room = 0; room < roomCount; room++) {
                told.add((long) far(who, things.rooms[who], room, 0));
                told.add((long) far(who, things.rooms[who], room, 10));
            }
        }
        for (int passage = 0; passage < ends.length; passage++) {
            for (int what = 0; what <= 2; what++) {
                told.add((long) passage(passage, what));
            }
            int[] best = bestPairs(passage);
            told.add((long) mostSteps(passage, best));
            for (int i = 0; i < 5; i++) {
                told.add((long) (i < best.length ? best[i] : NONE));
            }
        }
        if (kinds.length >= 2) {
            told.add(meet(0, 1, 2, 0));
            told.add(meet(0, 1, 2, 1));
        }
        page.chars().forEach(code -> told.add((long) code));
        for (int what = 0; what <= 11; what++) {
            told.add((long) count(what));
        }
        long h = 1193;
        for (long one : told) {
            h = 31 * h + one;
        }
        return h;
    }
}
