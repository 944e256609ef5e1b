import java.util.Random;

/** Long runs of calls, wrong ones among them, each answered as the model answers. */
public final class ModelTest {
    private static final int RUNS = 2000;
    private static final int CALLS = 512;
    private static final String[] NAMES = {
        "join", "leave", "publish", "end", "mute", "setLevel", "people", "pin", "setPlaces",
        "setEstimate", "setTimes", "pass", "now", "speaker", "seen", "seenAt", "target",
        "targetBySteps", "layer", "sent", "keys", "isAsked"
    };
    /** How often each call is made: those that empty the room are rare. */
    private static final int[] WEIGHTS = {
        5, 1, 6, 2, 2, 8, 1, 4, 3, 6, 2, 16, 1, 4, 3, 6, 6, 6, 10, 5, 5, 5
    };

    public static void main(String[] args) {
        for (int run = 0; run < RUNS; run++) {
            Random random = new Random(run);
            Confroom room = new Confroom();
            Model model = new Model();
            for (int call = 0; call < CALLS; call++) {
                int name = call < 4 ? 0 : pick(random);
                int[] given = arguments(name, random);
                String due = modelAnswer(model, name, given);
                String got = roomAnswer(room, name, given);
                if (!got.equals(due)) {
                    Check.same("run " + run + ", call " + call + ": " + NAMES[name] + "("
                            + given[0] + ", " + given[1] + ", " + given[2] + ")", got, due);
                    break;
                }
            }
        }
        Check.end();
    }

    private static int pick(Random random) {
        int all = 0;
        for (int weight : WEIGHTS) {
            all += weight;
        }
        int left = random.nextInt(all);
        int name = 0;
        while (left >= WEIGHTS[name]) {
            left -= WEIGHTS[name];
            name++;
        }
        return name;
    }

    private static int[] arguments(int name, Random random) {
        int person = number(random, -1, 6, 40);
        switch (NAMES[name]) {
            case "publish": {
                int most = random.nextBoolean() ? 100 : 30;
                return new int[] {person, number(random, 1, most, 40), number(random, 1, most, 40)};
            }
            case "setLevel":
                return new int[] {person, random.nextInt(3) == 0 ? number(random, 0, 100, 20)
                        : number(random, 28, 32, 100), 0};
            case "pin":
                return new int[] {person, number(random, -1, 5, 40), 0};
            case "setPlaces":
                return new int[] {person, number(random, 0, 5, 20), 0};
            case "setEstimate":
                return new int[] {person, random.nextInt(3) == 0 ? number(random, 0, 2000, 20)
                        : number(random, 0, 200, 100), 0};
            case "setTimes":
                return new int[] {number(random, 1, 10, 10), number(random, 0, 10, 10), 0};
            case "pass":
                return new int[] {random.nextInt(5) == 0 ? number(random, 1, 20, 10)
                        : number(random, 1, 3, 100), 0, 0};
            case "seenAt":
                return new int[] {person, number(random, 0, 4, 10), 0};
            default:
                return new int[] {person, number(random, 0, 5, 40), 0};
        }
    }

    /** A number in the range, or one time in so many a number that is just or far outside. */
    private static int number(Random random, int least, int most, int rarity) {
        if (random.nextInt(rarity) != 0) {
            return least + random.nextInt(most - least + 1);
        }
        int[] wild = {least - 1, most + 1, -1, Integer.MIN_VALUE, Integer.MAX_VALUE};
        return wild[random.nextInt(wild.length)];
    }

    private static String roomAnswer(Confroom room, int name, int[] given) {
        int a = given[0];
        int b = given[1];
        try {
            switch (NAMES[name]) {
                case "join": return "" + room.join();
                case "leave": room.leave(a); return "";
                case "publish": room.publish(a, b, given[2]); return "";
                case "end": room.end(a); return "";
                case "mute": return "" + room.mute(a);
                case "setLevel": return "" + room.setLevel(a, b);
                case "people": return "" + room.people();
                case "pin": return "" + room.pin(a, b);
                case "setPlaces": return "" + room.setPlaces(a, b);
                case "setEstimate": return "" + room.setEstimate(a, b);
                case "setTimes": room.setTimes(a, b); return "";
                case "pass": return "" + room.pass(a);
                case "now": return "" + room.now();
                case "speaker": return "" + room.speaker();
                case "seen": return "" + room.seen(a);
                case "seenAt": return "" + room.seenAt(a, b);
                case "target": return "" + room.target(a, b);
                case "targetBySteps": return "" + room.targetBySteps(a, b);
                case "layer": return "" + room.layer(a, b);
                case "sent": return "" + room.sent(a);
                case "keys": return "" + room.keys(a);
                default: return "" + room.isAsked(a);
            }
        } catch (RuntimeException e) {
            return e.getClass().getName();
        }
    }

    private static String modelAnswer(Model model, int name, int[] given) {
        int a = given[0];
        int b = given[1];
        try {
            switch (NAMES[name]) {
                case "join": return "" + model.join();
                case "leave": model.leave(a); return "";
                case "publish": model.publish(a, b, given[2]); return "";
                case "end": model.end(a); return "";
                case "mute": return "" + model.mute(a);
                case "setLevel": return "" + model.setLevel(a, b);
                case "people": return "" + model.people();
                case "pin": return "" + model.pin(a, b);
                case "setPlaces": return "" + model.setPlaces(a, b);
                case "setEstimate": return "" + model.setEstimate(a, b);
                case "setTimes": model.setTimes(a, b); return "";
                case "pass": return "" + model.pass(a);
                case "now": return "" + model.now();
                case "speaker": return "" + model.speaker();
                case "seen": return "" + model.seen(a);
                case "seenAt": return "" + model.seenAt(a, b);
                case "target": return "" + model.target(a, b);
                case "targetBySteps": return "" + model.target(a, b);
                case "layer": return "" + model.layer(a, b);
                case "sent": return "" + model.sent(a);
                case "keys": return "" + model.keys(a);
                default: return "" + model.isAsked(a);
            }
        } catch (RuntimeException e) {
            return e.getClass().getName();
        }
    }
}
