import java.math.BigInteger;
import java.util.ArrayList;
import java.util.Collections;
import java.util.Comparator;
import java.util.HashMap;
import java.util.List;
import java.util.Map;
import java.util.NoSuchElementException;
import java.util.Random;
import java.util.stream.Collectors;
import java.util.stream.IntStream;

/**
 * All promises: long runs of ordinary, edge and wrong calls against a second writing of the document,
 * which shares nothing with the class. A call that throws must change nothing, or later answers differ.
 */
public final class ModelTest {
    private static final int RUNS = 400;
    private static final int CALLS = 512;

    public static void main(String[] args) {
        for (int run = 0; run < RUNS; run++) {
            oneRun(run);
        }
        Due.end();
    }

    private static void oneRun(int run) {
        Random random = new Random(run);
        AuditDraws x = new AuditDraws();
        Model model = new Model();
        int wantedThings = random.nextInt(70);
        for (int i = 0; i < CALLS; i++) {
            oneCall(run, i, random, x, model, wantedThings);
        }
    }

    /** Mostly 0 .. bound - 1, now and then just outside or far outside. */
    private static int pick(Random random, int bound) {
        int dice = random.nextInt(60);
        if (dice == 0) {
            return -1;
        }
        if (dice == 1) {
            return bound;
        }
        if (dice == 2) {
            return random.nextInt();
        }
        return random.nextInt(Math.max(1, bound));
    }

    private static int pickHour(Random random) {
        int dice = random.nextInt(40);
        int[] edges = {-1, 0, 1000000, 1000001};
        return dice < edges.length ? edges[dice] : random.nextInt(12);
    }

    private static int pickGrams(Random random) {
        int dice = random.nextInt(12);
        int[] edges = {-1, 0, 1, 1000000000, 1000000001};
        return dice < edges.length ? edges[dice] : random.nextInt(1000000000);
    }

    private static long pickNumber(Random random) {
        int dice = random.nextInt(30);
        long most = 100000000000000000L;
        long[] edges = {-1, 0, most, most + 1, most - 1, Long.MAX_VALUE, Long.MIN_VALUE, 9, 10};
        if (dice < edges.length) {
            return edges[dice];
        }
        long bound = most;
        for (int i = random.nextInt(17); i > 0; i--) {
            bound /= 10;
        }
        return Math.floorMod(random.nextLong(), bound);
    }

    private static void oneCall(int run, int i, Random random, AuditDraws x, Model model, int wantedThings) {
        boolean filling = model.places.size() < wantedThings && i < 3 * wantedThings;
        int method = filling && random.nextInt(3) > 0 ? 1 : random.nextInt(17);
        int size = model.places.size();
        int t = pick(random, size);
        int place = pick(random, random.nextBoolean() ? 16 : 3);
        int stratum = pick(random, 6);
        int k = pick(random, 5);
        int a = pick(random, 10);
        int b = random.nextInt(5) == 0 ? a : pick(random, 10);
        int hour = pickHour(random);
        int told = random.nextInt(4) == 0 ? pickHour(random) : hour + random.nextInt(6);
        int grams = pickGrams(random);
        long number = pickNumber(random);
        int kind = pick(random, 3);
        long s = random.nextLong();
        // A few things get most of the rows, so that some come to 24.
        int few = random.nextInt(4) > 0 ? pick(random, Math.min(size, 2)) : t;
        String what = "run " + run + ", call " + i + ": ";
        switch (method) {
            case 0 -> both(what + "seed", () -> seeded(() -> x.seed(s)), () -> seeded(() -> model.seed(s)));
            case 1 -> both(what + "thing", () -> x.thing(stratum, place), () -> model.thing(stratum, place));
            case 2 -> {
                int n = random.nextInt(6) == 0 ? pick(random, size + 1) : size - random.nextInt(3);
                both(what + "list(" + n + ")", () -> x.list(n), () -> model.list(n));
            }
            case 3 -> {
                int at = pick(random, model.latest.size());
                both(what + "drawn", () -> x.drawn(at), () -> model.drawn(at));
            }
            case 4 -> {
                int told2 = random.nextBoolean() ? model.placeOr(t, place) : place;
                both(what + "check", () -> x.check(t, a, b, told2), () -> model.check(t, a, b, told2));
            }
            case 5 -> both(what + "gone", () -> x.gone(t), () -> model.gone(t));
            case 6 -> {
                int part = pick(random, 2);
                both(what + "share", () -> x.share(stratum, part), () -> model.share(stratum, part));
            }
            case 7 -> both(what + "next", () -> x.next(stratum), () -> model.next(stratum));
            case 8 -> both(what + "digit " + number, () -> x.digit(kind, number), () -> model.digit(kind, number));
            case 9 -> both(what + "good " + number, () -> x.good(kind, number), () -> model.good(kind, number));
            case 10, 11 -> both(what + "tag", () -> x.tag(few, hour, place, told),
                () -> model.tag(few, hour, place, told));
            case 12 -> both(what + "first", () -> x.first(few, told), () -> model.first(few, told));
            case 13 -> both(what + "seen", () -> x.seen(few, told), () -> model.seen(few, told));
            case 14 -> both(what + "weight", () -> x.weight(t, grams), () -> model.weight(t, grams));
            case 15 -> {
                int state = pick(random, 4);
                both(what + "report", () -> x.report(state, k), () -> model.report(state, k));
            }
            default -> both(what + "room", () -> x.room(place, k), () -> model.room(place, k));
        }
    }

    private static Object seeded(Runnable seeding) {
        seeding.run();
        return "nothing";
    }

    private static void both(String what, Due.Call got, Due.Call want) {
        Due.compare(what, Due.outcome(want), Due.outcome(got));
    }

    /** The document once more, in the Java library's own terms. */
    private static final class Model {
        private static final BigInteger WRAP = BigInteger.TWO.pow(64);

        private BigInteger state = BigInteger.ZERO;
        private final List<Integer> strata = new ArrayList<>();
        private final List<Integer> places = new ArrayList<>();
        private final Map<Integer, Integer> grams = new HashMap<>();
        private final Map<Integer, List<int[]>> rows = new HashMap<>();
        private List<Integer> latest = new ArrayList<>();
        private Map<Integer, Character> states = new HashMap<>();

        private static void none(boolean wrong) {
            if (wrong) {
                throw new NoSuchElementException();
            }
        }

        private static void argument(boolean wrong) {
            if (wrong) {
                throw new IllegalArgumentException();
            }
        }

        private static void state(boolean wrong) {
            if (wrong) {
                throw new IllegalStateException();
            }
        }

        private static boolean outside(long value, long least, long most) {
            return value < least || value > most;
        }

        private boolean noThing(int t) {
            return outside(t, 0, places.size() - 1);
        }

        int placeOr(int t, int other) {
            return noThing(t) ? other : places.get(t);
        }

        void seed(long s) {
            state = BigInteger.valueOf(s).mod(WRAP);
        }

        int thing(int stratum, int place) {
            none(outside(stratum, 0, 5) || outside(place, 0, 15));
            state(places.size() == 64);
            strata.add(stratum);
            places.add(place);
            return places.size() - 1;
        }

        int draw(int n) {
            state = state.multiply(new BigInteger("6364136223846793005"))
                .add(new BigInteger("1442695040888963407")).mod(WRAP);
            return state.shiftRight(33).mod(BigInteger.valueOf(n)).intValue();
        }

        int list(int n) {
            argument(outside(n, 0, places.size()));
            latest = new ArrayList<>();
            states = new HashMap<>();
            int total = places.size();
            List<List<Integer>> byStratum = IntStream.range(0, 6).mapToObj(s -> IntStream.range(0, total)
                .filter(t -> strata.get(t) == s).boxed().collect(Collectors.toList())).collect(Collectors.toList());
            int[] take = byStratum.stream().mapToInt(r -> total == 0 ? 0 : n * r.size() / total).toArray();
            int missing = n - IntStream.of(take).sum();
            IntStream.range(0, 6).boxed()
                .sorted(Comparator.comparing((Integer s) -> total == 0 ? 0 : -(n * byStratum.get(s).size() % total))
                    .thenComparing(s -> s))
                .limit(missing).forEach(s -> take[s]++);
            for (int s = 0; s < 6; s++) {
                List<Integer> row = byStratum.get(s);
                for (int i = 0; i < take[s]; i++) {
                    Collections.swap(row, i, i + draw(row.size() - i));
                }
                latest.addAll(row.subList(0, take[s]));
            }
            latest.forEach(t -> states.put(t, 'U'));
            return latest.size();
        }

        int drawn(int k) {
            none(outside(k, 0, latest.size() - 1));
            return latest.get(k);
        }

        int check(int t, int a, int b, int place) {
            none(noThing(t) || outside(a, 0, 9) || outside(b, 0, 9) || outside(place, 0, 15));
            state(!latest.contains(t));
            if (a == b) {
                return 2;
            }
            boolean inPlace = places.get(t) == place;
            states.put(t, inPlace ? 'F' : 'E');
            places.set(t, place);
            return inPlace ? 0 : 1;
        }

        boolean gone(int t) {
            none(noThing(t));
            state(!latest.contains(t));
            return states.put(t, 'G') != 'G';
        }

        private int count(int stratum, String which) {
            return (int) latest.stream()
                .filter(t -> strata.get(t) == stratum && which.indexOf(states.get(t)) >= 0).count();
        }

        int share(int stratum, int part) {
            none(outside(stratum, 0, 5) || outside(part, 0, 1));
            BigInteger found = BigInteger.valueOf(count(stratum, "F"));
            BigInteger checked = BigInteger.valueOf(count(stratum, "FEG"));
            if (checked.signum() == 0) {
                return part == 0 ? 0 : 1;
            }
            return (part == 0 ? found : checked).divide(found.gcd(checked)).intValue();
        }

        int next(int stratum) {
            none(outside(stratum, 0, 5));
            int checked = count(stratum, "FEG");
            return checked == 0 ? 100 : (int) (50 + Math.ceil(950.0 * count(stratum, "EG") / checked));
        }

        private static int sum(int kind, long number) {
            String text = new StringBuilder(Long.toString(number)).reverse().toString();
            int sum = 0;
            for (int k = 0; k < text.length(); k++) {
                int d = text.charAt(k) - '0';
                boolean even = k % 2 == 0;
                sum += switch (kind) {
                    case 0 -> even ? "0246813579".charAt(d) - '0' : d;
                    case 1 -> even ? 3 * d : d;
                    default -> d * new int[] {2, 3, 4, 5, 6, 7}[k % 6];
                };
            }
            return sum;
        }

        int digit(int kind, long number) {
            none(outside(kind, 0, 2));
            argument(outside(number, 0, 100000000000000000L));
            return Math.floorMod(-sum(kind, number), kind == 2 ? 11 : 10);
        }

        boolean good(int kind, long number) {
            none(outside(kind, 0, 2));
            argument(outside(number, 0, 100000000000000000L));
            long last = number % 10;
            return kind == 2 ? (last + sum(2, number / 10)) % 11 == 0 : last == digit(kind, number / 10);
        }

        int tag(int t, int hour, int place, int told) {
            none(noThing(t) || outside(place, 0, 15));
            argument(outside(hour, 0, 1000000) || outside(told, hour, 1000000));
            List<int[]> own = rows.computeIfAbsent(t, key -> new ArrayList<>());
            state(own.size() == 24);
            own.add(new int[] {hour, told, own.size(), place});
            return own.size();
        }

        private int[] last(int t, int by) {
            none(noThing(t));
            argument(outside(by, 0, 1000000));
            return rows.getOrDefault(t, List.of()).stream().filter(r -> r[1] <= by)
                .max(Comparator.comparing((int[] r) -> r[0]).thenComparing(r -> r[1]).thenComparing(r -> r[2]))
                .orElse(new int[] {-1, -1, -1, -1});
        }

        int first(int t, int by) {
            return last(t, by)[0] + 1;
        }

        int seen(int t, int by) {
            return last(t, by)[3];
        }

        int weight(int t, int told) {
            none(noThing(t));
            argument(outside(told, 1, 1000000000));
            Integer before = grams.put(t, told);
            return before == null ? 0 : Math.abs(told - before);
        }

        int report(int which, int k) {
            none(outside(which, 0, 3) || k < 0);
            return latest.stream().filter(t -> states.get(t) == "UFEG".charAt(which)).sorted()
                .skip(k).findFirst().orElse(-1);
        }

        int room(int place, int k) {
            none(outside(place, 0, 15) || k < 0);
            return IntStream.range(0, places.size()).filter(t -> places.get(t) == place).skip(k)
                .findFirst().orElse(-1);
        }
    }
}
