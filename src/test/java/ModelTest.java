/** All promises: long mixed runs answer as the model does, call for call, wrong inputs among them. */
public final class ModelTest {
    private static final int RUNS = 400;
    private static final int CALLS = 512;
    private static final int KINDS_OF_CALLS = 21;
    private static final int[] WILD = {-1, 4, 5, 6, 7, 16, 17, -16, 32, Integer.MIN_VALUE, Integer.MAX_VALUE};

    private static long drawn = 20261119L;

    public static void main(String[] args) {
        Checks checks = new Checks("ModelTest");
        for (int run = 0; run < RUNS; run++) {
            CardFans x = new CardFans();
            Model model = new Model();
            // Some runs glimpse much and hide little, so that the watchers come to know the pack.
            boolean isQuiet = run % 3 == 0;
            for (int call = 0; call < CALLS / 2; call++) {
                int what = isQuiet && draw(3) > 0 ? 6 : draw(KINDS_OF_CALLS);
                int a = what == 6 || what == 7 || what == 8 || what == 9 ? number(4) : number(16);
                int b = number(16);
                int c = number(16);
                boolean is = draw(isQuiet ? 12 : 2) > 0;
                if (what == 0 && isQuiet && draw(2) == 0 || what < 3 || what == 17) {
                    a = what == 1 ? a : number(5);
                    b = a == 0 || a == 3 || draw(9) == 0 ? b : 0;
                }
                String name = "run " + run + ", call " + call + ": " + what + "(" + a + ", " + b + ", " + c + ", " + is + ")";
                String want = answerOf(model, what, a, b, c, is);
                String got = answerOf(x, what, a, b, c, is);
                checks.that(name + " answered " + got + ", the model " + want, got.equals(want));
                checks.due(name + ", the digest then", model.digest(), x.digest());
            }
        }
        checks.end();
    }

    private static int draw(int bound) {
        drawn = drawn * 6364136223846793005L + 1442695040888963407L;
        return (int) ((drawn >>> 33) % bound);
    }

    private static int number(int usual) {
        return draw(25) == 0 ? WILD[draw(WILD.length)] : draw(usual);
    }

    private static String answerOf(CardFans x, int what, int a, int b, int c, boolean is) {
        try {
            switch (what) {
                case 0: return "" + x.go(a, b, is);
                case 1: return "" + x.falseCut(a);
                case 2: return "" + x.comes(a, b, c);
                case 3: return "" + x.card(a);
                case 4: return "" + x.find(a);
                case 5: return "" + x.watch(is);
                case 6: return "" + x.glimpse(a, b);
                case 7: return "" + x.thinks(a, b);
                case 8: return "" + x.sure(a, b);
                case 9: return "" + x.watcher(a, b % 8);
                case 10: return "" + x.sit(a);
                case 11: return "" + x.fan(a);
                case 12: return "" + x.take(a % 5);
                case 13: return "" + x.force(a % 5, b);
                case 14: return "" + x.took(a % 5);
                case 15: return "" + x.count(a % 9);
                case 16: return "" + x.mean();
                case 17: return "" + x.back(a, b);
                case 18: return "" + x.bring(a, b);
                case 19: return "" + x.riffles(a, b);
                default: return "" + x.digest();
            }
        } catch (RuntimeException e) {
            return e.getClass().getName();
        }
    }

    private static String answerOf(Model x, int what, int a, int b, int c, boolean is) {
        try {
            switch (what) {
                case 0: return "" + x.go(a, b, is);
                case 1: return "" + x.falseCut(a);
                case 2: return "" + x.comes(a, b, c);
                case 3: return "" + x.card(a);
                case 4: return "" + x.find(a);
                case 5: return "" + x.watch(is);
                case 6: return "" + x.glimpse(a, b);
                case 7: return "" + x.thinks(a, b);
                case 8: return "" + x.sure(a, b);
                case 9: return "" + x.watcher(a, b % 8);
                case 10: return "" + x.sit(a);
                case 11: return "" + x.fan(a);
                case 12: return "" + x.take(a % 5);
                case 13: return "" + x.force(a % 5, b);
                case 14: return "" + x.took(a % 5);
                case 15: return "" + x.count(a % 9);
                case 16: return "" + x.mean();
                case 17: return "" + x.back(a, b);
                case 18: return "" + x.bring(a, b);
                case 19: return "" + x.riffles(a, b);
                default: return "" + x.digest();
            }
        } catch (RuntimeException e) {
            return e.getClass().getName();
        }
    }
}
