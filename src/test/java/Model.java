import java.util.ArrayDeque;
import java.util.ArrayList;
import java.util.Collections;
import java.util.List;
import java.util.TreeSet;

/**
 * The document once more, by lists of cards that are handled as hands would do it, and by searches
 * that try everything: slow, and with no line in common with the program.
 */
final class Model {
    private static final class Mind {
        boolean sharp;
        List<TreeSet<Integer>> sets = new ArrayList<>();
        int anew;
        int glimpses;
    }

    private static final class Guest {
        int habit;
        int latest = -1;
    }

    private List<Integer> pack = ordered();
    private final List<Mind> minds = new ArrayList<>();
    private final List<Guest> guests = new ArrayList<>();
    private int ways;
    private int falseCuts;
    private int lean;
    private int taken;

    private static List<Integer> ordered() {
        List<Integer> cards = new ArrayList<>();
        for (int k = 0; k < 16; k++) {
            cards.add(k);
        }
        return cards;
    }

    private static TreeSet<Integer> everyCard() {
        return new TreeSet<>(ordered());
    }

    static <T> List<T> handled(List<T> cards, int kind, int number) {
        List<T> out = new ArrayList<>();
        List<T> upper = cards.subList(0, 8);
        List<T> lower = cards.subList(8, 16);
        if (kind == 0) {
            out.addAll(cards.subList(number, 16));
            out.addAll(cards.subList(0, number));
        } else if (kind == 1 || kind == 2) {
            for (int k = 0; k < 8; k++) {
                out.add(kind == 1 ? upper.get(k) : lower.get(k));
                out.add(kind == 1 ? lower.get(k) : upper.get(k));
            }
        } else if (kind == 3) {
            out.addAll(cards.subList(0, number));
            Collections.reverse(out);
            out.addAll(cards.subList(number, 16));
        } else {
            ArrayDeque<T> left = new ArrayDeque<>(cards);
            while (left.size() > 1) {
                left.addLast(left.removeFirst());
                out.add(0, left.removeFirst());
            }
            out.add(0, left.removeFirst());
        }
        return out;
    }

    private static void askWay(int kind, int number) {
        boolean known = kind == 0 && number > 0 && number < 16
            || kind == 3 && number > 1 && number < 17
            || (kind == 1 || kind == 2 || kind == 4) && number == 0;
        if (!known) {
            throw new IllegalArgumentException();
        }
    }

    private static void askIndex(int number, int many) {
        if (number < 0 || number >= many) {
            throw new IndexOutOfBoundsException();
        }
    }

    int go(int kind, int number, boolean isOpen) {
        askWay(kind, number);
        pack = handled(pack, kind, number);
        for (Mind mind : minds) {
            if (isOpen) {
                mind.sets = handled(mind.sets, kind, number);
            }
        }
        ways++;
        return pack.get(0);
    }

    int falseCut(int number) {
        askWay(0, number);
        int astray = 0;
        for (Mind mind : minds) {
            if (!mind.sharp) {
                mind.sets = handled(mind.sets, 0, number);
                astray++;
            }
        }
        falseCuts++;
        return astray;
    }

    int comes(int kind, int number, int place) {
        askWay(kind, number);
        askIndex(place, 16);
        return handled(ordered(), kind, number).indexOf(place);
    }

    int card(int place) {
        askIndex(place, 16);
        return pack.get(place);
    }

    int find(int card) {
        askIndex(card, 16);
        return pack.indexOf(card);
    }

    int watch(boolean sharp) {
        if (minds.size() == 4) {
            throw new IllegalStateException();
        }
        Mind mind = new Mind();
        mind.sharp = sharp;
        for (int place = 0; place < 16; place++) {
            mind.sets.add(everyCard());
        }
        minds.add(mind);
        return minds.size() - 1;
    }

    int glimpse(int watcher, int place) {
        askIndex(watcher, minds.size());
        askIndex(place, 16);
        Mind mind = minds.get(watcher);
        Integer seen = pack.get(place);
        mind.glimpses++;
        mind.sets.set(place, new TreeSet<>(List.of(seen)));
        if (!conclude(mind.sets)) {
            mind.anew++;
            for (int other = 0; other < 16; other++) {
                TreeSet<Integer> set = everyCard();
                set.remove(seen);
                mind.sets.set(other, other == place ? new TreeSet<>(List.of(seen)) : set);
            }
        }
        return seen;
    }

    /** Step by step as the document says, and it stops at once when of a place no card is left. */
    private static boolean conclude(List<TreeSet<Integer>> sets) {
        while (true) {
            boolean changed = false;
            for (int p = 0; p < 16; p++) {
                if (sets.get(p).size() == 1) {
                    Integer only = sets.get(p).first();
                    for (int q = 0; q < 16; q++) {
                        if (q != p && sets.get(q).remove(only)) {
                            changed = true;
                            if (sets.get(q).isEmpty()) {
                                return false;
                            }
                        }
                    }
                }
            }
            if (!changed) {
                return true;
            }
        }
    }

    int thinks(int watcher, int place) {
        askIndex(watcher, minds.size());
        askIndex(place, 16);
        int told = 0;
        for (int card : minds.get(watcher).sets.get(place)) {
            told += (int) Math.pow(2, card);
        }
        return told;
    }

    int sure(int watcher, int card) {
        askIndex(watcher, minds.size());
        askIndex(card, 16);
        return minds.get(watcher).sets.indexOf(new TreeSet<>(List.of(card)));
    }

    int watcher(int watcher, int what) {
        askIndex(watcher, minds.size());
        askIndex(what, 6);
        Mind mind = minds.get(watcher);
        int possible = 0;
        int alone = 0;
        int right = 0;
        for (int place = 0; place < 16; place++) {
            TreeSet<Integer> set = mind.sets.get(place);
            boolean has = set.contains(pack.get(place));
            possible += has ? 1 : 0;
            alone += set.size() == 1 ? 1 : 0;
            right += has && set.size() == 1 ? 1 : 0;
        }
        return new int[] {mind.sharp ? 1 : 0, possible, alone, right, mind.anew, mind.glimpses}[what];
    }

    int sit(int habit) {
        if (habit < 0 || habit > 15) {
            throw new IllegalArgumentException();
        }
        if (guests.size() == 4) {
            throw new IllegalStateException();
        }
        Guest guest = new Guest();
        guest.habit = habit;
        guests.add(guest);
        return guests.size() - 1;
    }

    int fan(int newLean) {
        if (newLean < 0 || newLean > 15) {
            throw new IllegalArgumentException();
        }
        int before = lean;
        lean = newLean;
        return before;
    }

    private int takenCard(int player, int withLean) {
        return pack.get((guests.get(player).habit + withLean + taken) % 16);
    }

    int take(int player) {
        askIndex(player, guests.size());
        guests.get(player).latest = takenCard(player, lean);
        taken++;
        return guests.get(player).latest;
    }

    int force(int player, int card) {
        askIndex(player, guests.size());
        askIndex(card, 16);
        int tried = 0;
        while (takenCard(player, tried) != card) {
            tried++;
        }
        return tried;
    }

    int took(int player) {
        askIndex(player, guests.size());
        return guests.get(player).latest;
    }

    int count(int what) {
        askIndex(what, 7);
        int inOrder = 0;
        for (int k = 0; k < 16; k++) {
            inOrder += pack.get(k) == k ? 1 : 0;
        }
        return new int[] {ways, falseCuts, minds.size(), guests.size(), lean, taken, inOrder}[what];
    }

    int back(int kind, int number) {
        askWay(kind, number);
        int times = 1;
        List<Integer> cards = handled(ordered(), kind, number);
        while (!cards.equals(ordered())) {
            cards = handled(cards, kind, number);
            times++;
        }
        return times;
    }

    /** A queue of places from the wanted one backwards. */
    int bring(int card, int place) {
        askIndex(card, 16);
        askIndex(place, 16);
        int[] far = new int[16];
        java.util.Arrays.fill(far, -1);
        far[place] = 0;
        ArrayDeque<Integer> open = new ArrayDeque<>(List.of(place));
        while (!open.isEmpty()) {
            int to = open.removeFirst();
            for (int[] way : new int[][] {{1, 0}, {2, 0}, {4, 0}, {3, 8}}) {
                int from = handled(ordered(), way[0], way[1]).get(to);
                if (far[from] < 0) {
                    far[from] = far[to] + 1;
                    open.addLast(from);
                }
            }
        }
        return far[pack.indexOf(card)];
    }

    /** As fewer riffles are a smaller number, the first number that fits is the one. */
    int riffles(int card, int place) {
        askIndex(card, 16);
        askIndex(place, 16);
        for (int told = 1; told < 1024; told++) {
            int at = pack.indexOf(card);
            for (char riffle : Integer.toBinaryString(told).substring(1).toCharArray()) {
                at = riffle == '1' ? (at * 2 + 1) % 17 : at == 15 ? 15 : at * 2 % 15;
            }
            if (at == place) {
                return told;
            }
        }
        return -1;
    }

    double mean() {
        int cards = 0;
        for (Mind mind : minds) {
            for (TreeSet<Integer> set : mind.sets) {
                cards += set.size();
            }
        }
        return minds.isEmpty() ? 0.0 : cards / (16.0 * minds.size());
    }

    long digest() {
        List<Integer> numbers = new ArrayList<>();
        for (int what = 0; what < 7; what++) {
            numbers.add(count(what));
        }
        numbers.addAll(pack);
        for (int w = 0; w < minds.size(); w++) {
            for (int what = 0; what < 6; what++) {
                numbers.add(watcher(w, what));
            }
            for (int place = 0; place < 16; place++) {
                numbers.add(thinks(w, place));
            }
        }
        for (Guest guest : guests) {
            numbers.add(guest.habit);
            numbers.add(guest.latest);
        }
        long d = 929;
        for (int x : numbers) {
            d = d * 31 + x;
        }
        return d;
    }
}
