import java.math.BigInteger;
import java.util.ArrayList;
import java.util.List;
import java.util.Map;
import java.util.TreeMap;

/** Long runs of mixed calls against a model that is written another way: a sweep over changes of cover, and BigInteger. */
public final class ModelTest {
    private static final long NO = Desks.NO;
    private static final long FAR = Desks.FAR;
    private static final long LATEST = Desks.LATEST;
    private static final Check CHECK = new Check();

    public static void main(String[] args) {
        long[] spans = {3, 12, 60, 5000, 1L << 42, FAR};
        for (int run = 0; run < 1200; run++) {
            new Run(run, spans[run % spans.length]).play();
        }
        CHECK.end();
    }

    /** The same numbers in every run of the test: a plain congruence, so that a failure comes again. */
    private static final class Numbers {
        private long state;

        Numbers(long seed) {
            state = seed * 0x9E3779B97F4A7C15L + 1;
        }

        long next() {
            state = state * 6364136223846793005L + 1442695040888963407L;
            return state >>> 1 ^ state >>> 29;
        }

        long between(long low, long high) {
            return low + Math.floorMod(next(), high - low + 1);
        }
    }

    private static final class Run {
        private final int number;
        private final long span;
        private final int drops;
        private final Numbers numbers;
        private final ClockDesk desk = new ClockDesk();
        private final TreeMap<Integer, long[]> intervals = new TreeMap<>();
        private int calls = 0;
        private long now = 0;
        private long offset = 0;
        private long goal = 0;

        Run(int number, long span) {
            this.number = number;
            this.span = span;
            this.drops = 1 + number / 7 % 5;
            this.numbers = new Numbers(number);
        }

        /** No step makes more than five calls, so a desk is not asked beyond its 512th. */
        void play() {
            while (calls <= 507) {
                step((int) numbers.between(0, 21));
            }
        }

        /** Each call of the desk comes through here. */
        private void due(String call, long got, long want) {
            calls++;
            CHECK.due("run " + number + ": " + call, got, want);
        }

        private int source() {
            return (int) numbers.between(-1, 24);
        }

        private void step(int kind) {
            switch (kind) {
                case 0, 1, 2, 3, 4 -> interval(source(), numbers.between(-span, span));
                case 5 -> exchange(source());
                case 6 -> dropSome();
                case 7 -> tick();
                case 8, 9 -> steer();
                case 10 -> region();
                case 11 -> hull((int) numbers.between(-1, 24));
                case 12 -> chosen(source());
                case 13, 14 -> mean(numbers.between(-1, span * 2));
                case 15, 16 -> survivors((int) numbers.between(0, 25));
                case 17, 18 -> rank(source(), (int) numbers.between(0, 25));
                case 19 -> clock();
                case 20 -> covers(numbers.between(-span - 1, span + 1));
                default -> due("sources", desk.sources(), intervals.size());
            }
        }

        private void interval(int source, long low) {
            long high = numbers.between(low - 1, Math.min(FAR + 1, low + 1 + span / 3));
            boolean right = isSource(source) && low >= -FAR && low <= high && high <= FAR;
            due("interval", desk.interval(source, low, high) ? 1 : 0, right ? 1 : 0);
            if (right) {
                intervals.put(source, new long[] {low, high});
            }
        }

        private void exchange(int source) {
            long reach = Math.min(span, LATEST);
            long sent = numbers.between(-1, reach);
            long came = numbers.between(Math.max(0, sent - 1), reach);
            long told = numbers.between(0, reach);
            boolean right = isSource(source) && sent >= 0 && sent <= came;
            long want = right ? floor(big(2 * told).add(big(came - sent)), 2) - came : NO;
            due("exchange", desk.exchange(source, sent, told, came), want);
            if (right) {
                intervals.put(source, new long[] {told - came, told - sent});
            }
        }

        /** Some runs drop more at a time, so that desks with few sources come too. */
        private void dropSome() {
            for (int i = 0; i < drops; i++) {
                int source = source();
                due("drop", desk.drop(source) ? 1 : 0, intervals.remove(source) != null ? 1 : 0);
            }
        }

        private void tick() {
            long stride = Math.min(span, 1L << 50) * 30 + 5000;
            long next = numbers.between(now - 1, Math.min(LATEST + 1, now + stride));
            boolean right = next >= now && next <= LATEST;
            due("tick", desk.tick(next) ? 1 : 0, right ? 1 : 0);
            if (right) {
                long step = (next - now) / 2000;
                offset = goal > offset ? Math.min(goal, offset + step) : Math.max(goal, offset - step);
                now = next;
            }
            clock();
        }

        private void clock() {
            due("read", desk.read(), now + offset);
            due("offset(0)", desk.offset(0), offset);
            due("offset(1)", desk.offset(1), goal);
            long apart = Math.max(goal, offset) - Math.min(goal, offset);
            due("settles", desk.settles(), apart > 1L << 40 ? NO : apart * 2000);
        }

        private void steer() {
            long[] region = rowsOf(most());
            boolean right = most() * 2 > intervals.size();
            due("steer", desk.steer() ? 1 : 0, right ? 1 : 0);
            if (right) {
                goal = floor(big(region[0]).add(big(region[1])), 2);
            }
            due("goal", desk.offset(1), goal);
        }

        private void region() {
            long[] region = rowsOf(most());
            due("greatest", desk.greatest(), most());
            due("region(0)", desk.region(0), region[0]);
            due("region(1)", desk.region(1), region[1]);
        }

        private void hull(int f) {
            boolean right = f >= 0 && f < intervals.size();
            long[] rows = rowsOf(right ? intervals.size() - f : 99);
            due("hull(" + f + ", 0)", desk.hull(f, 0), rows[0]);
            due("hull(" + f + ", 1)", desk.hull(f, 1), rows[2]);
        }

        private void chosen(int source) {
            long[] own = intervals.get(source);
            long[] region = rowsOf(most());
            boolean want = own != null && own[0] <= region[0] && own[1] >= region[1];
            due("chosen", desk.chosen(source) ? 1 : 0, want ? 1 : 0);
        }

        private void covers(long point) {
            Map.Entry<Long, Integer> piece = pieces().floorEntry(point);
            due("covers", desk.covers(point), piece == null ? 0 : piece.getValue());
        }

        private void mean(long limit) {
            boolean right = limit >= 0 && !intervals.isEmpty();
            long mean = NO;
            long count = NO;
            if (right) {
                List<Integer> all = byMiddle(new ArrayList<>(intervals.keySet()));
                long median = middle(all.get((all.size() - 1) / 2));
                all.removeIf(source -> big(middle(source)).subtract(big(median)).abs().compareTo(big(limit)) > 0);
                mean = meanOf(all);
                count = all.size();
            }
            due("mean(" + limit + ", 0)", desk.mean(limit, 0), mean);
            due("mean(" + limit + ", 1)", desk.mean(limit, 1), count);
        }

        private void survivors(int k) {
            long want = 0;
            for (int source : left(k)) {
                want |= 1L << source;
            }
            due("survivors " + k, desk.survivors(k), k < 1 || k > 24 ? -1 : want);
        }

        private void rank(int source, int k) {
            int want = k < 1 || k > 24 ? -1 : byMiddle(left(k)).indexOf(source);
            due("rank(" + source + ", " + k + ")", desk.rank(source, k), want);
        }

        private List<Integer> left(int k) {
            List<Integer> left = new ArrayList<>(intervals.keySet());
            while (left.size() > Math.max(k, 0)) {
                long mean = meanOf(left);
                Integer farthest = left.get(0);
                for (Integer source : left) {
                    BigInteger distance = big(middle(source)).subtract(big(mean)).abs();
                    if (distance.compareTo(big(middle(farthest)).subtract(big(mean)).abs()) >= 0) {
                        farthest = source;
                    }
                }
                left.remove(farthest);
            }
            return left;
        }

        /** The list sort is stable, and the keys come in order of number. */
        private List<Integer> byMiddle(List<Integer> sources) {
            sources.sort((a, b) -> Long.compare(middle(a), middle(b)));
            return sources;
        }

        private long middle(int source) {
            long[] own = intervals.get(source);
            return floor(big(own[0]).add(big(own[1])), 2);
        }

        private long meanOf(List<Integer> sources) {
            BigInteger sum = BigInteger.ZERO;
            for (int source : sources) {
                sum = sum.add(big(middle(source)));
            }
            return floor(sum, sources.size());
        }

        /** Where each piece of equal cover begins, and that cover. */
        private TreeMap<Long, Integer> pieces() {
            TreeMap<Long, Integer> changes = new TreeMap<>();
            for (long[] own : intervals.values()) {
                changes.merge(own[0], 1, Integer::sum);
                changes.merge(own[1] + 1, -1, Integer::sum);
            }
            int cover = 0;
            for (Map.Entry<Long, Integer> change : changes.entrySet()) {
                cover += change.getValue();
                change.setValue(cover);
            }
            return changes;
        }

        private int most() {
            return pieces().values().stream().mapToInt(Integer::intValue).max().orElse(0);
        }

        /** Of the points with at least that cover: the first, the end of the first row, and the last. */
        private long[] rowsOf(int enough) {
            long[] rows = {NO, NO, NO};
            if (intervals.isEmpty()) {
                return rows;
            }
            boolean inside = false;
            for (Map.Entry<Long, Integer> piece : pieces().entrySet()) {
                boolean covered = piece.getValue() >= enough;
                if (covered && !inside && rows[0] == NO) {
                    rows[0] = piece.getKey();
                }
                if (!covered && inside) {
                    rows[1] = rows[1] == NO ? piece.getKey() - 1 : rows[1];
                    rows[2] = piece.getKey() - 1;
                }
                inside = covered;
            }
            return rows;
        }

        private static boolean isSource(int source) {
            return source >= 0 && source <= 23;
        }

        private static BigInteger big(long value) {
            return BigInteger.valueOf(value);
        }

        private static long floor(BigInteger sum, long parts) {
            BigInteger[] both = sum.divideAndRemainder(big(parts));
            return both[0].subtract(both[1].signum() < 0 ? BigInteger.ONE : BigInteger.ZERO).longValueExact();
        }
    }
}
