import java.util.ArrayDeque;
import java.util.ArrayList;
import java.util.Comparator;
import java.util.Deque;
import java.util.HashMap;
import java.util.List;
import java.util.Map;
import java.util.TreeMap;
import java.util.TreeSet;
import java.util.regex.Matcher;
import java.util.regex.Pattern;
import java.util.stream.IntStream;

/**
 * The document once more, written for its words and not for room or speed: every answer is worked out
 * anew from the state, with the collections of the Java library. Mixed runs compare the class with it.
 */
final class Model {
    private static final int NO_SUCH = -101, BAD_VALUE = -102, BAD_TEXT = -103, TOO_MANY = -104, NOT_POSSIBLE = -105, NONE = -106;
    private static final String RIDER = "([0-5])([a-f])(0|[1-9][0-9]?)(?:x([1-4]))?";
    private static final Pattern ONE = Pattern.compile(RIDER);
    private static final Pattern TEXT = Pattern.compile(RIDER + "(?:," + RIDER + ")*");

    private record Rider(int flight, int area, int door, int people) { }

    private static final class Airport {
        List<Integer> settings = new ArrayList<>(List.of(30, 60, 3, 60, 6));
        List<Integer> lands = new ArrayList<>(List.of(0, 60, 120, 180, 240, 300));
        List<Integer> delays = new ArrayList<>(List.of(0, 0, 0, 0, 0, 0));
        List<Integer> leaves = new ArrayList<>(List.of(60, 120, 180, 240, 300, 360, 420, 480));
        List<Integer> seats = new ArrayList<>(List.of(6, 6, 6, 6, 6, 6, 6, 6));
        List<Rider> riders = new ArrayList<>();

        Airport copy() {
            Airport copy = new Airport();
            copy.settings = new ArrayList<>(settings);
            copy.lands = new ArrayList<>(lands);
            copy.delays = new ArrayList<>(delays);
            copy.leaves = new ArrayList<>(leaves);
            copy.seats = new ArrayList<>(seats);
            copy.riders = new ArrayList<>(riders);
            return copy;
        }

        int ready(int r) {
            int f = riders.get(r).flight;
            return lands.get(f) + delays.get(f) + settings.get(0);
        }

        /** The van of each rider, null for those who are stranded. */
        Map<Integer, Integer> vans() {
            Map<Integer, Integer> vans = new HashMap<>();
            List<Integer> line = new ArrayList<>(IntStream.range(0, riders.size()).boxed().toList());
            line.sort(Comparator.comparing((Integer r) -> ready(r)).thenComparing(r -> r));
            List<Integer> fleet = new ArrayList<>(IntStream.range(0, 8).boxed().toList());
            fleet.sort(Comparator.comparing((Integer v) -> leaves.get(v)).thenComparing(v -> v));
            for (int r : line) {
                for (int v : fleet) {
                    if (leaves.get(v) < ready(r) || leaves.get(v) > ready(r) + settings.get(1)) {
                        continue;
                    }
                    List<Rider> aboard = new ArrayList<>();
                    vans.forEach((other, w) -> {
                        if (w == v) {
                            aboard.add(riders.get(other));
                        }
                    });
                    aboard.add(riders.get(r));
                    boolean seated = aboard.stream().mapToInt(Rider::people).sum() <= seats.get(v);
                    boolean near = aboard.stream().map(Rider::area).distinct().count() <= settings.get(2);
                    if (seated && near) {
                        vans.put(r, v);
                        break;
                    }
                }
            }
            return vans;
        }

        List<Integer> ridersOf(int van) {
            Map<Integer, Integer> vans = vans();
            return IntStream.range(0, riders.size()).filter(r -> vans.getOrDefault(r, -1) == van).boxed().toList();
        }

        int people(List<Integer> some) {
            return some.stream().mapToInt(r -> riders.get(r).people).sum();
        }

        /** From area and door to the minute, in the order of the way. */
        TreeMap<List<Integer>, Integer> way(int van) {
            TreeSet<List<Integer>> stops = new TreeSet<>(Comparator.comparing((List<Integer> s) -> s.get(0)).thenComparing(s -> s.get(1)));
            for (int r : ridersOf(van)) {
                stops.add(List.of(riders.get(r).area, riders.get(r).door));
            }
            TreeMap<List<Integer>, Integer> way = new TreeMap<>(stops.comparator());
            int minute = leaves.get(van) + 10;
            int area = 0;
            boolean first = true;
            for (List<Integer> stop : stops) {
                boolean stays = !first && stop.get(0) == area;
                minute += stays ? 3 : 5 * (stop.get(0) - area);
                area = stop.get(0);
                first = false;
                way.put(stop, minute);
            }
            return way;
        }

        List<Integer> atStop(int van, List<Integer> stop) {
            return ridersOf(van).stream().filter(r -> List.of(riders.get(r).area, riders.get(r).door).equals(stop)).toList();
        }

        /** What each of the sharers pays of the coins. */
        void split(int coins, List<Integer> sharers, Map<Integer, Integer> fares) {
            int left = coins;
            for (int r : sharers) {
                int part = coins * riders.get(r).people / people(sharers);
                fares.merge(r, part, Integer::sum);
                left -= part;
            }
            for (int r : sharers) {
                if (left > 0) {
                    fares.merge(r, 1, Integer::sum);
                    left--;
                }
            }
        }

        Map<Integer, Integer> fares() {
            Map<Integer, Integer> fares = new HashMap<>();
            for (int v = 0; v < 8; v++) {
                split(settings.get(3), ridersOf(v), fares);
                for (List<Integer> stop : way(v).keySet()) {
                    split(settings.get(4), atStop(v, stop), fares);
                }
            }
            return fares;
        }

        int stranded() {
            Map<Integer, Integer> vans = vans();
            return people(IntStream.range(0, riders.size()).filter(r -> !vans.containsKey(r)).boxed().toList());
        }

        int waiting() {
            return vans().entrySet().stream()
                .mapToInt(e -> riders.get(e.getKey()).people * (leaves.get(e.getValue()) - ready(e.getKey()))).sum();
        }

        int last() {
            return IntStream.range(0, 8).flatMap(v -> way(v).values().stream().mapToInt(m -> m)).max().orElse(NONE);
        }
    }

    private Airport now = new Airport();
    private String pad = "";
    private final Deque<Airport> history = new ArrayDeque<>();
    private final Map<Integer, Airport> slots = new HashMap<>();

    private static boolean in(long value, long least, long most) {
        return least <= value && value <= most;
    }

    private void record() {
        history.addLast(now.copy());
        if (history.size() > 6) {
            history.removeFirst();
        }
    }

    int set(int setting, int value) {
        int[][] range = {{0, 90}, {0, 240}, {1, 6}, {0, 300}, {0, 40}};
        if (!in(setting, 0, 4) || !in(value, range[setting][0], range[setting][1])) {
            return BAD_VALUE;
        }
        record();
        return now.settings.set(setting, value);
    }

    int land(int flight, int minute) {
        if (!in(flight, 0, 5)) {
            return NO_SUCH;
        }
        if (!in(minute, 0, 1200)) {
            return BAD_VALUE;
        }
        record();
        return now.lands.set(flight, minute);
    }

    int delay(int flight, int minutes) {
        if (!in(flight, 0, 5)) {
            return NO_SUCH;
        }
        if (!in(minutes, -30, 300)) {
            return BAD_VALUE;
        }
        record();
        now.delays.set(flight, minutes);
        return now.lands.get(flight) + minutes + now.settings.get(0);
    }

    int van(int van, int minute, int seats) {
        if (!in(van, 0, 7)) {
            return NO_SUCH;
        }
        if (!in(minute, 0, 1500) || !in(seats, 0, 12)) {
            return BAD_VALUE;
        }
        record();
        now.leaves.set(van, minute);
        now.seats.set(van, seats);
        return now.stranded();
    }

    int ride(int flight, int area, int door, int people) {
        if (!in(flight, 0, 5) || !in(area, 0, 5)) {
            return NO_SUCH;
        }
        if (!in(door, 0, 99) || !in(people, 1, 4)) {
            return BAD_VALUE;
        }
        if (now.riders.size() == 24) {
            return TOO_MANY;
        }
        record();
        now.riders.add(new Rider(flight, area, door, people));
        return now.riders.size() - 1;
    }

    int read() {
        if (fault() != NONE) {
            return BAD_TEXT;
        }
        List<Rider> more = new ArrayList<>();
        for (String text : pad.split(",")) {
            Matcher m = ONE.matcher(text);
            if (!m.matches()) {
                throw new IllegalStateException(text);
            }
            int people = m.group(4) == null ? 1 : Integer.parseInt(m.group(4));
            more.add(new Rider(Integer.parseInt(m.group(1)), m.group(2).charAt(0) - 'a', Integer.parseInt(m.group(3)), people));
        }
        if (now.riders.size() + more.size() > 24) {
            return TOO_MANY;
        }
        record();
        now.riders.addAll(more);
        pad = "";
        return now.riders.size();
    }

    int cancel(int rider) {
        if (!in(rider, 0, now.riders.size() - 1)) {
            return NO_SUCH;
        }
        int fare = now.fares().getOrDefault(rider, 0);
        record();
        now.riders.remove(rider);
        return fare;
    }

    int rebook(int rider, int flight) {
        if (!in(rider, 0, now.riders.size() - 1) || !in(flight, 0, 5)) {
            return NO_SUCH;
        }
        Rider old = now.riders.get(rider);
        if (old.flight == flight) {
            return NOT_POSSIBLE;
        }
        record();
        now.riders.set(rider, new Rider(flight, old.area, old.door, old.people));
        return now.vans().getOrDefault(rider, NONE);
    }

    int rider(int rider, int what) {
        if (!in(rider, 0, now.riders.size() - 1)) {
            return NO_SUCH;
        }
        if (!in(what, 0, 9)) {
            return BAD_VALUE;
        }
        Rider r = now.riders.get(rider);
        Integer van = now.vans().get(rider);
        List<Integer> stop = List.of(r.area, r.door);
        return switch (what) {
            case 0 -> r.flight;
            case 1 -> r.area;
            case 2 -> r.door;
            case 3 -> r.people;
            case 4 -> now.ready(rider);
            case 5 -> van == null ? NONE : van;
            case 6 -> van == null ? NONE : now.leaves.get(van) - now.ready(rider);
            case 7 -> van == null ? NONE : now.way(van).get(stop);
            case 8 -> now.fares().getOrDefault(rider, 0);
            default -> van == null ? 0 : now.atStop(van, stop).size() - 1;
        };
    }

    int vanOf(int van, int what) {
        if (!in(van, 0, 7)) {
            return NO_SUCH;
        }
        if (!in(what, 0, 7)) {
            return BAD_VALUE;
        }
        List<Integer> aboard = now.ridersOf(van);
        Map<Integer, Integer> fares = now.fares();
        return switch (what) {
            case 0 -> now.leaves.get(van);
            case 1 -> now.seats.get(van);
            case 2 -> now.people(aboard);
            case 3 -> aboard.stream().mapToInt(r -> 1 << r).sum();
            case 4 -> aboard.stream().mapToInt(r -> 1 << now.riders.get(r).area).distinct().sum();
            case 5 -> now.way(van).size();
            case 6 -> now.way(van).values().stream().mapToInt(m -> m).max().orElse(NONE);
            default -> aboard.stream().mapToInt(fares::get).sum();
        };
    }

    int flight(int flight, int what) {
        if (!in(flight, 0, 5)) {
            return NO_SUCH;
        }
        if (!in(what, 0, 4)) {
            return BAD_VALUE;
        }
        Map<Integer, Integer> vans = now.vans();
        List<Integer> all = IntStream.range(0, now.riders.size()).filter(r -> now.riders.get(r).flight == flight).boxed().toList();
        return switch (what) {
            case 0 -> now.lands.get(flight);
            case 1 -> now.delays.get(flight);
            case 2 -> now.lands.get(flight) + now.delays.get(flight) + now.settings.get(0);
            case 3 -> now.people(all);
            default -> now.people(all.stream().filter(r -> !vans.containsKey(r)).toList());
        };
    }

    int stop(int van, int place, int what) {
        if (!in(van, 0, 7) || !in(place, 0, now.way(van).size() - 1)) {
            return NO_SUCH;
        }
        if (!in(what, 0, 3)) {
            return BAD_VALUE;
        }
        List<Integer> stop = new ArrayList<>(now.way(van).keySet()).get(place);
        return switch (what) {
            case 0 -> stop.get(0);
            case 1 -> stop.get(1);
            case 2 -> now.way(van).get(stop);
            default -> now.people(now.atStop(van, stop));
        };
    }

    int count(int what) {
        Map<Integer, Integer> vans = now.vans();
        return switch (what) {
            case 0, 1, 2, 3, 4 -> now.settings.get(what);
            case 5 -> now.riders.size();
            case 6 -> now.riders.stream().mapToInt(Rider::people).sum();
            case 7 -> now.riders.size() - vans.size();
            case 8 -> now.stranded();
            case 9 -> now.waiting();
            case 10 -> now.fares().values().stream().mapToInt(f -> f).sum();
            case 11 -> (int) vans.values().stream().distinct().count();
            case 12 -> IntStream.range(0, 8).map(v -> now.way(v).size()).sum();
            case 13 -> now.last();
            case 14 -> pad.length();
            case 15 -> history.size();
            default -> BAD_VALUE;
        };
    }

    int kerb(int minute) {
        if (!in(minute, 0, 3000)) {
            return BAD_VALUE;
        }
        Map<Integer, Integer> vans = now.vans();
        return now.people(IntStream.range(0, now.riders.size()).filter(r -> {
            int until = vans.containsKey(r) ? now.leaves.get(vans.get(r)) - 1 : now.ready(r) + now.settings.get(1);
            return in(minute, now.ready(r), until);
        }).boxed().toList());
    }

    int ifDelayed(int flight, int minutes, int what) {
        if (!in(flight, 0, 5)) {
            return NO_SUCH;
        }
        if (!in(minutes, -30, 300) || !in(what, 0, 2)) {
            return BAD_VALUE;
        }
        Airport then = now.copy();
        then.delays.set(flight, minutes);
        return what == 0 ? then.stranded() : what == 1 ? then.waiting() : then.last();
    }

    int mostDelay(int flight) {
        if (!in(flight, 0, 5)) {
            return NO_SUCH;
        }
        int stranded = now.stranded();
        return IntStream.rangeClosed(-30, 300).filter(m -> ifDelayed(flight, m, 0) <= stranded).max().orElseThrow();
    }

    int bestMinute(int van) {
        if (!in(van, 0, 7)) {
            return NO_SUCH;
        }
        TreeMap<List<Integer>, Integer> marks = new TreeMap<>(Comparator.comparing((List<Integer> m) -> m.get(0))
            .thenComparing(m -> m.get(1)).thenComparing(m -> m.get(2)));
        for (int minute = 0; minute <= 1500; minute += 5) {
            Airport then = now.copy();
            then.leaves.set(van, minute);
            marks.put(List.of(then.stranded(), then.waiting(), minute), minute);
        }
        return marks.firstEntry().getValue();
    }

    int fullest() {
        int most = IntStream.range(0, 8).map(v -> vanOf(v, 2)).max().orElseThrow();
        return most == 0 ? NONE : IntStream.range(0, 8).filter(v -> vanOf(v, 2) == most).findFirst().orElseThrow();
    }

    int put(long characters) {
        StringBuilder more = new StringBuilder();
        boolean over = false;
        for (int i = 0; i < 8; i++) {
            int code = (int) (characters >> 8 * i) & 255;
            if (code == 0) {
                over = true;
            } else if (over || !in(code, 33, 126)) {
                return BAD_VALUE;
            } else {
                more.insert(0, (char) code);
            }
        }
        if (more.length() == 0) {
            return BAD_VALUE;
        }
        if (pad.length() + more.length() > 60) {
            return TOO_MANY;
        }
        pad += more;
        return pad.length();
    }

    int wipe() {
        int length = pad.length();
        pad = "";
        return length;
    }

    int fault() {
        for (int i = 0; i < pad.length(); i++) {
            Matcher m = TEXT.matcher(pad.substring(0, i + 1));
            // A start of some text matches, or would if more followed.
            if (!m.matches() && !m.hitEnd()) {
                return i;
            }
        }
        return TEXT.matcher(pad).matches() ? NONE : pad.length();
    }

    int undo() {
        if (history.isEmpty()) {
            return NOT_POSSIBLE;
        }
        now = history.removeLast();
        return history.size();
    }

    int save(int slot) {
        if (!in(slot, 0, 1)) {
            return BAD_VALUE;
        }
        slots.put(slot, now.copy());
        return now.riders.size();
    }

    int restore(int slot) {
        if (!in(slot, 0, 1)) {
            return BAD_VALUE;
        }
        if (!slots.containsKey(slot)) {
            return NOT_POSSIBLE;
        }
        record();
        now = slots.get(slot).copy();
        return now.riders.size();
    }
}
