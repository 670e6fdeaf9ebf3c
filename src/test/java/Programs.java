import java.util.ArrayList;
import java.util.Arrays;
import java.util.List;
import java.util.Random;

/** Programs made by chance, from a seed: of any shape, or such that have bounds with large numbers and fractions. */
final class Programs {
    final Random random;
    int[] takes;
    int[][] words;
    private int nodesLeft;
    private int deepest;
    private int[] weights;
    private List<Integer> out;
    private boolean isLargest;

    Programs(long seed) {
        random = new Random(seed);
    }

    void anyShape() {
        int count = 1 + random.nextInt(4);
        takes = new int[count];
        words = new int[count][];
        for (int f = 0; f < count; f++) {
            takes[f] = random.nextInt(4);
        }
        weights = new int[] {1 + random.nextInt(3), 1 + random.nextInt(4), random.nextInt(8), random.nextInt(8),
            random.nextInt(6), 1 + random.nextInt(4), random.nextInt(5)};
        int nodes = 10 + random.nextInt(45);
        for (int f = 0; f < count; f++) {
            out = new ArrayList<>();
            nodesLeft = Math.min(40, 3 + nodes / count);
            deepest = 4 + random.nextInt(14);
            expression(takes[f], 1);
            words[f] = spoiled();
        }
    }

    /** The words made; now and then with another one among them, or cut. */
    private int[] spoiled() {
        int[] made = new int[out.size()];
        for (int i = 0; i < made.length; i++) {
            made[i] = out.get(i);
        }
        if (random.nextInt(12) == 0) {
            made[random.nextInt(made.length)] = random.nextInt(9) - 1;
        }
        if (random.nextInt(20) == 0) {
            made = Arrays.copyOf(made, random.nextInt(made.length + 2));
        }
        return made.length > 200 ? Arrays.copyOf(made, 200) : made;
    }

    private void expression(int known, int depth) {
        nodesLeft--;
        int kind = kind(known, depth);
        out.add(kind);
        if (kind == 1 || kind == 3) {
            out.add(variable(known));
        } else if (kind == 4) {
            out.add(random.nextInt(random.nextBoolean() ? 10 : 1001));
        } else if (kind == 5) {
            int f = random.nextInt(takes.length);
            if (takes[f] > 0 && known == 0) {
                out.set(out.size() - 1, 0);
                return;
            }
            out.add(f);
            for (int i = 0; i < takes[f]; i++) {
                out.add(variable(known));
            }
        }
        if (kind == 2 || kind == 3 || kind == 4 || kind == 6) {
            expression(known, depth + 1);
        }
        if (kind == 3 || kind == 6) {
            expression(known + 1, depth + 1);
        }
    }

    private int kind(int known, int depth) {
        int kind = 0;
        if (depth >= deepest || nodesLeft <= 2) {
            kind = new int[] {0, 1, 5}[random.nextInt(3)];
        } else {
            int at = random.nextInt(Arrays.stream(weights).sum());
            while (at >= weights[kind]) {
                at -= weights[kind];
                kind++;
            }
        }
        return known == 0 && (kind == 1 || kind == 3) ? 0 : kind;
    }

    /** Mostly one of the newest. */
    private int variable(int known) {
        return random.nextInt(3) > 0 ? known - 1 - random.nextInt(Math.min(known, 2)) : random.nextInt(known);
    }

    void heavy() {
        isLargest = random.nextInt(5) == 0;
        int count = isLargest ? 4 : 2 + random.nextInt(3);
        takes = new int[count];
        words = new int[count][];
        for (int f = 0; f < count; f++) {
            takes[f] = 1 + random.nextInt(!isLargest && random.nextInt(3) == 0 ? 2 : 1);
        }
        for (int f = 0; f < count; f++) {
            out = new ArrayList<>();
            heavyBody(f);
            words[f] = new int[out.size()];
            for (int i = 0; i < words[f].length; i++) {
                words[f][i] = out.get(i);
            }
        }
    }

    /** Some elements are taken off, numbers are paid, functions before it are called for lists made here, and it again. */
    private void heavyBody(int f) {
        int known = takes[f];
        int rest = 0;
        int depth = 1;
        int taken = 1 + random.nextInt(isLargest || random.nextBoolean() ? 1 : 4);
        for (int i = 0; i < taken; i++) {
            out.addAll(List.of(3, rest, 0));
            rest = known++;
            depth++;
        }
        int paid = f == 0 ? 13 - taken : random.nextInt(isLargest ? 1 : 4);
        for (int i = 0; i < paid; i++) {
            out.addAll(List.of(4, isLargest ? 990 + random.nextInt(11) : random.nextInt(1001)));
            depth++;
        }
        if (f > 0 && (isLargest || random.nextInt(5) > 0)) {
            int g = isLargest || random.nextInt(3) > 0 ? f - 1 : random.nextInt(f);
            out.add(6);
            depth++;
            int longer = isLargest ? 15 - depth : random.nextInt(16 - depth);
            for (int i = 0; i < longer; i++) {
                out.add(2);
            }
            out.add(0);
            out.addAll(List.of(6, 5, g));
            depth++;
            for (int i = 0; i < takes[g]; i++) {
                out.add(known);
            }
            known += 2;
        }
        out.addAll(List.of(5, f, rest));
        for (int i = 1; i < takes[f]; i++) {
            out.add(random.nextInt(3) > 0 ? i : random.nextInt(known));
        }
    }
}
