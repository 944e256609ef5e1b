import java.util.NoSuchElementException;

/** Promises 16 to 19: seen, seenAt, target, targetBySteps. */
public final class SeenTest {
    private static final int[] NOBODY = {-1, 3, 5, 6, Integer.MIN_VALUE, Integer.MAX_VALUE};

    public static void main(String[] args) {
        promise16Seen();
        promise17SeenAt();
        promise17SeenAtWrong();
        promise18Target();
        promise18TargetOrder();
        promise18And19TargetWrong();
        promise19BothWaysAgree();
        Check.end();
    }

    private static Confroom room(int people) {
        Confroom room = new Confroom();
        for (int i = 0; i < people; i++) {
            room.join();
        }
        return room;
    }

    private static void targets(String what, Confroom room, int receiver, int... due) {
        for (int other = 0; other < due.length; other++) {
            String call = "(" + receiver + ", " + other + "), " + what;
            Check.is("18: target" + call, room.target(receiver, other), due[other]);
            Check.is("19: targetBySteps" + call, room.targetBySteps(receiver, other), due[other]);
        }
    }

    private static void promise16Seen() {
        Confroom room = room(3);
        Check.is("16: nothing is published", room.seen(0), 0);
        room.publish(0, 1, 1);
        Check.is("16: not the own one", room.seen(0), 0);
        Check.is("16: others see it", room.seen(1), 1);
        room.publish(1, 1, 1);
        Check.is("16: the other one", room.seen(0), 1);
        Check.is("16: two", room.seen(2), 2);
        room.setEstimate(2, 0);
        Check.is("16: seen though nothing fits", room.seen(2), 2);
        room.setPlaces(2, 1);
        Check.is("16: as many as places at most", room.seen(2), 1);
        room.end(0);
        Check.is("16: one is ended", room.seen(2), 1);
        room.end(1);
        Check.is("16: all are ended", room.seen(2), 0);
        for (int wrong : NOBODY) {
            Check.fails("16: seen(" + wrong + ")", NoSuchElementException.class,
                    () -> room.seen(wrong));
        }
    }

    private static void promise17SeenAt() {
        Confroom room = room(6);
        room.setTimes(1, 0);
        int[] order = {3, 1, 5, 0, 4};
        for (int person : order) {
            room.publish(person, 1, 1);
        }
        room.setPlaces(2, 5);
        for (int place = 0; place < 5; place++) {
            Check.is("17: as published", room.seenAt(2, place), order[place]);
        }
        room.setLevel(0, 50);
        room.pass(1);
        room.setLevel(2, 60);
        room.pass(1);
        room.setLevel(4, 70);
        room.pass(1);
        room.pin(2, 5);
        int[] due = {5, 4, 0, 3, 1};
        for (int place = 0; place < 5; place++) {
            Check.is("17: pinned, speakers, others", room.seenAt(2, place), due[place]);
        }
        room.setPlaces(2, 2);
        Check.is("17: the first places stay", room.seenAt(2, 1), 4);
        Check.is("17: a speaker does not see itself", room.seenAt(4, 0), 0);
        Check.is("17: but the others", room.seenAt(4, 1), 3);
        room.pin(0, 4);
        Check.is("17: a pinned speaker is first", room.seenAt(0, 0), 4);
        Check.is("17: and not seen twice", room.seenAt(0, 1), 3);
        room.publish(2, 1, 1);
        Check.is("17: who spoke without a stream comes in", room.seenAt(1, 1), 2);
        room.end(4);
        Check.is("17: an ended stream takes no place", room.seenAt(1, 0), 2);
    }

    private static void promise17SeenAtWrong() {
        Confroom room = room(3);
        room.publish(1, 1, 1);
        Check.is("17: seenAt(0, 0)", room.seenAt(0, 0), 1);
        for (int wrong : new int[] {1, 2, 3, 5, 6, -1, Integer.MIN_VALUE, Integer.MAX_VALUE}) {
            Check.fails("17: seenAt(0, " + wrong + ")", IndexOutOfBoundsException.class,
                    () -> room.seenAt(0, wrong));
            Check.fails("17: no receiver first", NoSuchElementException.class,
                    () -> room.seenAt(3, wrong));
        }
        Check.fails("17: it sees nothing", IndexOutOfBoundsException.class,
                () -> room.seenAt(1, 0));
        for (int wrong : NOBODY) {
            Check.fails("17: seenAt(" + wrong + ", 0)", NoSuchElementException.class,
                    () -> room.seenAt(wrong, 0));
        }
    }

    private static void promise18Target() {
        Confroom room = room(4);
        room.publish(1, 20, 30);
        targets("others publish nothing", room, 0, 0, 3, 0, 0);
        room.setEstimate(0, 19);
        targets("just too little", room, 0, 0, 0, 0, 0);
        room.setEstimate(0, 20);
        targets("just the base", room, 0, 0, 1, 0, 0);
        room.setEstimate(0, 49);
        targets("just no step", room, 0, 0, 1, 0, 0);
        room.setEstimate(0, 50);
        targets("just one step", room, 0, 0, 2, 0, 0);
        room.setEstimate(0, 79);
        targets("just not two steps", room, 0, 0, 2, 0, 0);
        room.setEstimate(0, 80);
        targets("just two steps", room, 0, 0, 3, 0, 0);
        room.setEstimate(0, 2000);
        targets("no more than three", room, 0, 0, 3, 0, 0);
        targets("not its own", room, 1, 0, 0, 0, 0);
        room.publish(0, 1, 1);
        targets("not its own though published", room, 0, 0, 3, 0, 0);
        targets("of another receiver", room, 2, 3, 3, 0, 0);
    }


    private static void promise18TargetOrder() {
        Confroom room = room(4);
        room.publish(1, 50, 10);
        room.publish(2, 60, 15);
        room.publish(3, 30, 5);
        targets("first layers before next ones", room, 0, 0, 3, 0, 1);
        room.setEstimate(0, 160);
        targets("the first stream takes the steps", room, 0, 0, 3, 1, 1);
        room.setEstimate(0, 154);
        targets("as many steps as fit", room, 0, 0, 2, 1, 1);
        room.setEstimate(0, 145);
        targets("a step too large is passed over", room, 0, 0, 1, 1, 2);
        room.setEstimate(0, 49);
        targets("a base too large is passed over", room, 0, 0, 0, 0, 3);
        room.setEstimate(0, 100);
        room.pin(0, 3);
        targets("the pinned one first", room, 0, 0, 2, 0, 3);
        room.setPlaces(0, 1);
        targets("not seen", room, 0, 0, 0, 0, 3);
        room.pin(0, 2);
        targets("another pinned one", room, 0, 0, 0, 3, 0);
        room.setPlaces(0, 0);
        targets("no places", room, 0, 0, 0, 0, 0);
    }

    private static void promise18And19TargetWrong() {
        Confroom room = room(2);
        for (int wrong : NOBODY) {
            Check.fails("18: target(" + wrong + ", 0)", NoSuchElementException.class,
                    () -> room.target(wrong, 0));
            Check.fails("18: target(0, " + wrong + ")", NoSuchElementException.class,
                    () -> room.target(0, wrong));
            Check.fails("18: target of nobody", NoSuchElementException.class,
                    () -> room.target(wrong, wrong));
            Check.fails("19: targetBySteps(" + wrong + ", 0)", NoSuchElementException.class,
                    () -> room.targetBySteps(wrong, 0));
            Check.fails("19: targetBySteps(0, " + wrong + ")", NoSuchElementException.class,
                    () -> room.targetBySteps(0, wrong));
            Check.fails("19: targetBySteps of nobody", NoSuchElementException.class,
                    () -> room.targetBySteps(wrong, wrong));
        }
    }

    private static void promise19BothWaysAgree() {
        int[] bases = {10, 11, 12, 13, 14, 15};
        int[] steps = {5, 10, 15, 20, 25, 30};
        for (int estimate = 0; estimate <= 266; estimate++) {
            Confroom room = room(6);
            for (int person = 0; person < 6; person++) {
                room.publish(person, bases[person], steps[person]);
            }
            room.setPlaces(0, 5);
            room.setEstimate(0, estimate);
            int sum = 0;
            for (int other = 1; other < 6; other++) {
                int layer = room.targetBySteps(0, other);
                Check.is("19: both ways, estimate " + estimate, room.target(0, other), layer);
                sum += layer == 0 ? 0 : bases[other] + (layer - 1) * steps[other];
            }
            Check.is("19: not more than the estimate " + estimate, sum <= estimate, true);
            Check.is("19: all layers, estimate " + estimate, sum == 265, estimate >= 265);
        }
    }
}
