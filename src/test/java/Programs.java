import java.util.ArrayList;
import java.util.Arrays;
import java.util.List;
import java.util.Random;

/** Programs made by chance, from a seed: of any shape, or such that have bounds with large numbers and fractions. */
final class Programs {
    final Random random;
    int[] takes;
    int[][] words;
    private int nodesLeft;
    private int deepest;
    private int[] weights;
    private List<Integer> out;
    private boolean isTall;

    Programs(long seed) {
        random = new Random(seed);
    }

    void anyShape() {
        int count = 1 + random.nextInt(4);
        takes = new int[count];
        for (int f = 0; f < count; f++) {
            takes[f] = random.nextInt(4);
        }
        otherBodies();
    }

    /** Bodies of any shape for the functions that there are. */
    void otherBodies() {
        int count = takes.length;
        words = new int[count][];
        weights = new int[] {1 + random.nextInt(3), 1 + random.nextInt(4), random.nextInt(8), random.nextInt(8),
            random.nextInt(6), 1 + random.nextInt(4), random.nextInt(5)};
        int nodes = 10 + random.nextInt(45);
        for (int f = 0; f < count; f++) {
            out = new ArrayList<>();
            nodesLeft = Math.min(40, 3 + nodes / count);
            deepest = 4 + random.nextInt(14);
            expression(takes[f], 1);
            words[f] = spoiled();
        }
    }

    /** The words made; now and then with another one among them, or cut. */
    private int[] spoiled() {
        int[] made = made();
        if (random.nextInt(12) == 0) {
            made[random.nextInt(made.length)] = random.nextInt(9) - 1;
        }
        if (random.nextInt(20) == 0) {
            made = Arrays.copyOf(made, random.nextInt(made.length + 2));
        }
        return made.length > 200 ? Arrays.copyOf(made, 200) : made;
    }

    private int[] made() {
        int[] made = new int[out.size()];
        for (int i = 0; i < made.length; i++) {
            made[i] = out.get(i);
        }
        return made;
    }

    private void expression(int known, int depth) {
        nodesLeft--;
        int kind = kind(known, depth);
        out.add(kind);
        if (kind == 1 || kind == 3) {
            out.add(variable(known));
        } else if (kind == 4) {
            out.add(random.nextInt(random.nextBoolean() ? 10 : 1001));
        } else if (kind == 5) {
            int f = random.nextInt(takes.length);
            if (takes[f] > 0 && known == 0) {
                out.set(out.size() - 1, 0);
                return;
            }
            out.add(f);
            for (int i = 0; i < takes[f]; i++) {
                out.add(variable(known));
            }
        }
        if (kind == 2 || kind == 3 || kind == 4 || kind == 6) {
            expression(known, depth + 1);
        }
        if (kind == 3 || kind == 6) {
            expression(known + 1, depth + 1);
        }
    }

    private int kind(int known, int depth) {
        int kind = 0;
        if (depth >= deepest || nodesLeft <= 2) {
            kind = new int[] {0, 1, 5}[random.nextInt(3)];
        } else {
            int at = random.nextInt(Arrays.stream(weights).sum());
            while (at >= weights[kind]) {
                at -= weights[kind];
                kind++;
            }
        }
        return known == 0 && (kind == 1 || kind == 3) ? 0 : kind;
    }

    /** Mostly one of the newest. */
    private int variable(int known) {
        return random.nextInt(3) > 0 ? known - 1 - random.nextInt(Math.min(known, 2)) : random.nextInt(known);
    }

    /** Each function takes elements off, pays, calls one before it for a list that it makes, and then itself. */
    void heavy() {
        isTall = random.nextInt(4) == 0;
        int count = isTall ? 4 : 2 + random.nextInt(3);
        takes = new int[count];
        words = new int[count][];
        for (int f = 0; f < count; f++) {
            takes[f] = !isTall && random.nextInt(3) == 0 ? 2 : 1;
        }
        for (int f = 0; f < count; f++) {
            out = new ArrayList<>();
            heavyBody(f);
            words[f] = made();
        }
    }

    private void heavyBody(int f) {
        int known = takes[f];
        int rest = 0;
        int taken = 1 + random.nextInt(isTall ? 2 : 4);
        for (int i = 0; i < taken; i++) {
            out.addAll(List.of(3, rest, 0));
            rest = known++;
        }
        int paid = f == 0 ? 14 - taken : random.nextInt(isTall ? 1 : 4);
        for (int i = 0; i < paid; i++) {
            out.addAll(List.of(4, isTall ? 990 + random.nextInt(11) : random.nextInt(1001)));
        }
        if (f > 0 && (isTall || random.nextInt(5) > 0)) {
            known = heavyCalls(f, known, 15 - taken - paid);
        }
        out.addAll(List.of(5, f, rest));
        for (int i = 1; i < takes[f]; i++) {
            out.add(random.nextInt(3) > 0 ? i : random.nextInt(known));
        }
    }

    /** Makes a list and hands it over; how many variables are known then. */
    private int heavyCalls(int f, int known, int room) {
        int g = isTall || random.nextInt(3) > 0 ? f - 1 : random.nextInt(f);
        out.addAll(List.of(6, 6));
        longer(room - 2);
        out.add(0);
        longer(Math.min(room - 2, 10));
        out.addAll(List.of(1, known));
        int list = known;
        int calls = isTall ? 2 + random.nextInt(3) : 1;
        for (int i = 0; i < calls; i++) {
            out.addAll(List.of(6, 5, g));
            for (int k = 0; k < takes[g]; k++) {
                out.add(list);
            }
        }
        return known + 1 + calls;
    }

    private void longer(int most) {
        int count = isTall ? most - random.nextInt(2) : random.nextInt(most + 1);
        for (int i = 0; i < count; i++) {
            out.add(2);
        }
    }
}
