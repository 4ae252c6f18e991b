import java.util.ArrayDeque;
import java.util.HashMap;
import java.util.Map;

/** Counts what can come by plans, without any limit, from the house's own text: to know on which side of 3000 a house is. */
final class PlanCount {
    interface Worth {
        int of(int wished, int standing);
    }

    private final int floors;
    private final int dog;
    private final Worth law;
    private final int riders;
    private final int[] home;
    private final int[] wish;
    private final String first;

    /** Riders are told as in house(), all standing; the lift is on 0, no ride has been. */
    PlanCount(int floors, String house, int dog, Worth law) {
        this.floors = floors;
        this.dog = dog;
        this.law = law;
        String[] lines = house.split(";");
        riders = lines.length;
        home = new int[riders];
        wish = new int[riders];
        StringBuilder start = new StringBuilder();
        for (int i = 0; i < riders; i++) {
            home[i] = lines[i].charAt(0) - '0';
            wish[i] = lines[i].charAt(2) == '-' ? -1 : lines[i].charAt(2) - '0';
            start.append(lines[i].charAt(4));
        }
        first = start.append("00").toString();
    }

    /** How many states come by so many rides or fewer. */
    int within(int rides) {
        Map<String, Integer> depth = new HashMap<>();
        ArrayDeque<String> open = new ArrayDeque<>();
        depth.put(first, 0);
        open.add(first);
        while (!open.isEmpty()) {
            String state = open.remove();
            if (depth.get(state) == rides) {
                continue;
            }
            for (int those = 0; those < 1 << riders; those++) {
                String next = after(state, those);
                if (next != null && !depth.containsKey(next)) {
                    depth.put(next, depth.get(state) + 1);
                    open.add(next);
                }
            }
        }
        return depth.size();
    }

    /** A state is a floor (or h) for each, then the lift's floor, then what is left of rides by 7. */
    private String after(String state, int those) {
        int lift = state.charAt(riders) - '0';
        int ride = state.charAt(riders + 1) - '0' + 1;
        for (int i = 0; i < riders; i++) {
            if ((those >> i & 1) != 0 && state.charAt(i) - '0' != lift) {
                return null;
            }
        }
        int stop = ride == 7 && dog >= 0 && dog != lift ? dog : byLaw(state, those, lift);
        StringBuilder next = new StringBuilder();
        for (int i = 0; i < riders; i++) {
            boolean rides = (those >> i & 1) != 0;
            next.append(!rides ? state.charAt(i) : home[i] == stop ? 'h' : (char) ('0' + stop));
        }
        return next.append(stop).append(ride % 7).toString();
    }

    private int byLaw(String state, int those, int lift) {
        int best = -1;
        long least = Long.MAX_VALUE;
        for (int f = 0; f < floors; f++) {
            int wished = 0;
            int standing = 0;
            for (int i = 0; i < riders; i++) {
                boolean rides = (those >> i & 1) != 0;
                wished += rides && wish[i] == f ? 1 : 0;
                standing += !rides && state.charAt(i) - '0' == f ? 1 : 0;
            }
            // Of equal laws the nearest, then the lower: one number for all three.
            long rank = law.of(wished, standing) * 1000L + Math.abs(f - lift) * 10L + f;
            if (f != lift && rank < least) {
                least = rank;
                best = f;
            }
        }
        return best;
    }
}
