import java.util.NoSuchElementException;

/** Promises 9 to 12: pin, setPlaces, setEstimate, setTimes. */
public final class SettingsTest {
    private static final int[] FAR = {-1, Integer.MIN_VALUE, Integer.MAX_VALUE};

    public static void main(String[] args) {
        promise09Pin();
        promise09PinWrong();
        promise10SetPlaces();
        promise11SetEstimate();
        promise12SetTimesHold();
        promise12SetTimesLimit();
        promise12SetTimesWrong();
        Check.end();
    }

    /** People who publish each a stream of the rates 10, 20 and 30, in the order of their numbers. */
    private static Confroom room(int people) {
        Confroom room = new Confroom();
        for (int i = 0; i < people; i++) {
            room.publish(room.join(), 10, 10);
        }
        return room;
    }

    private static void promise09Pin() {
        Confroom room = room(4);
        Check.is("9: pin(0, 3)", room.pin(0, 3), -1);
        Check.is("9: the pinned one is first", room.seenAt(0, 0), 3);
        Check.is("9: then the others", room.seenAt(0, 1), 1);
        Check.is("9: and the last", room.seenAt(0, 2), 2);
        Check.is("9: pinned once, seen once", room.seen(0), 3);
        Check.is("9: another receiver sees as before", room.seenAt(1, 0), 0);
        Check.is("9: pin(0, 2) in place of 3", room.pin(0, 2), 3);
        Check.is("9: now 2 is first", room.seenAt(0, 0), 2);
        Check.is("9: pin(0, 2) again", room.pin(0, 2), 2);
        Check.is("9: pin(0, NONE)", room.pin(0, Confroom.NONE), 2);
        Check.is("9: nobody is pinned", room.seenAt(0, 0), 1);
        Check.is("9: pin(0, NONE) again", room.pin(0, -1), -1);
        room.pin(1, 3);
        room.end(3);
        Check.is("9: who publishes nothing takes no place", room.seenAt(1, 0), 0);
        room.publish(3, 1, 1);
        Check.is("9: the pin stays for the next stream", room.seenAt(1, 0), 3);
        Check.is("9: the pin is still there", room.pin(1, 2), 3);
    }

    private static void promise09PinWrong() {
        Confroom room = room(2);
        room.pin(0, 1);
        Check.fails("9: pin(0, 0)", IllegalArgumentException.class, () -> room.pin(0, 0));
        Check.fails("9: pin(0, 2)", NoSuchElementException.class, () -> room.pin(0, 2));
        Check.fails("9: pin(0, 6)", NoSuchElementException.class, () -> room.pin(0, 6));
        Check.fails("9: pin(0, -2)", NoSuchElementException.class, () -> room.pin(0, -2));
        Check.fails("9: pin(2, 0)", NoSuchElementException.class, () -> room.pin(2, 0));
        Check.fails("9: pin(2, 2)", NoSuchElementException.class, () -> room.pin(2, 2));
        Check.fails("9: pin(-1, -1)", NoSuchElementException.class, () -> room.pin(-1, -1));
        Check.fails("9: pin(2, -1)", NoSuchElementException.class, () -> room.pin(2, -1));
        Check.fails("9: pin(7, 7)", NoSuchElementException.class, () -> room.pin(7, 7));
        Check.is("9: a wrong call changes nothing", room.pin(0, -1), 1);
    }

    private static void promise10SetPlaces() {
        Confroom room = room(6);
        Check.is("10: 3 at first", room.seen(0), 3);
        Check.is("10: setPlaces(0, 5)", room.setPlaces(0, 5), 3);
        Check.is("10: all 5 others", room.seen(0), 5);
        Check.is("10: another receiver has 3", room.seen(1), 3);
        Check.is("10: setPlaces(0, 1)", room.setPlaces(0, 1), 5);
        Check.is("10: one", room.seen(0), 1);
        Check.is("10: setPlaces(0, 0)", room.setPlaces(0, 0), 1);
        Check.is("10: none", room.seen(0), 0);
        Check.is("10: none though pinned", room.pin(0, 1), -1);
        Check.is("10: none still", room.seen(0), 0);
        for (int wrong : new int[] {-1, 6, Integer.MIN_VALUE, Integer.MAX_VALUE}) {
            Check.fails("10: places " + wrong, IllegalArgumentException.class,
                    () -> room.setPlaces(0, wrong));
        }
        for (int wrong : FAR) {
            Check.fails("10: receiver " + wrong, NoSuchElementException.class,
                    () -> room.setPlaces(wrong, 9));
        }
        Check.is("10: a wrong call changes nothing", room.setPlaces(0, 2), 0);
        room.pass(1);
        Check.is("10: two are sent", room.sent(0), 60);
        room.setPlaces(0, 1);
        Check.is("10: what is sent is lowered by the next second", room.sent(0), 60);
        room.pass(1);
        Check.is("10: then one is sent", room.sent(0), 30);
        room.leave(5);
        Check.fails("10: receiver 5", NoSuchElementException.class, () -> room.setPlaces(5, 1));
    }

    private static void promise11SetEstimate() {
        Confroom room = room(3);
        Check.is("11: setEstimate(0, 0)", room.setEstimate(0, 0), 100);
        Check.is("11: nothing fits", room.target(0, 1), 0);
        Check.is("11: setEstimate(0, 2000)", room.setEstimate(0, 2000), 0);
        Check.is("11: all fits", room.target(0, 1) + room.target(0, 2), 6);
        Check.is("11: setEstimate(0, 50)", room.setEstimate(0, 50), 2000);
        Check.is("11: some fits", room.target(0, 1) + room.target(0, 2), 5);
        Check.is("11: another receiver has its own", room.setEstimate(1, 1), 100);
        for (int wrong : new int[] {-1, 2001, Integer.MIN_VALUE, Integer.MAX_VALUE}) {
            Check.fails("11: estimate " + wrong, IllegalArgumentException.class,
                    () -> room.setEstimate(0, wrong));
        }
        for (int wrong : FAR) {
            Check.fails("11: receiver " + wrong, NoSuchElementException.class,
                    () -> room.setEstimate(wrong, 2001));
        }
        Check.fails("11: receiver 3", NoSuchElementException.class, () -> room.setEstimate(3, 1));
        Check.fails("11: receiver 6", NoSuchElementException.class, () -> room.setEstimate(6, 1));
        Check.is("11: a wrong call changes nothing", room.setEstimate(0, 2000), 50);
        room.pass(1);
        room.setEstimate(0, 0);
        Check.is("11: what is sent is lowered by the next second", room.sent(0), 60);
        room.pass(1);
        Check.is("11: then nothing is sent", room.sent(0), 0);
    }

    private static void promise12SetTimesHold() {
        Confroom room = room(2);
        room.setLevel(0, 30);
        room.pass(1);
        Check.is("12: not before 2 seconds at first", room.speaker(), -1);
        room.pass(1);
        Check.is("12: 2 seconds at first", room.speaker(), 0);
        room.setTimes(10, 3);
        room.setLevel(1, 31);
        room.pass(9);
        Check.is("12: not in 9 seconds", room.speaker(), 0);
        room.pass(1);
        Check.is("12: in 10 seconds", room.speaker(), 1);
        room.setTimes(1, 3);
        room.setLevel(0, 32);
        Check.is("12: not before a second", room.speaker(), 1);
        room.pass(1);
        Check.is("12: in 1 second", room.speaker(), 0);

        Confroom shorter = room(2);
        shorter.setTimes(10, 3);
        shorter.setLevel(1, 50);
        shorter.pass(4);
        shorter.setTimes(3, 3);
        Check.is("12: a setting makes no speaker", shorter.speaker(), -1);
        shorter.pass(1);
        Check.is("12: the seconds before count", shorter.speaker(), 1);
    }

    private static void promise12SetTimesLimit() {
        for (int limit = 0; limit <= 10; limit++) {
            Confroom room = room(2);
            if (limit != 3) {
                room.setTimes(2, limit);
            }
            room.setEstimate(1, 10);
            Check.is("12: the first key pictures", room.pass(1), 2);
            room.setEstimate(1, 20);
            for (int wait = 0; wait < limit; wait++) {
                Check.is("12: limit " + limit + ", second " + wait, room.pass(1), 0);
                Check.is("12: asked", room.isAsked(0), true);
            }
            Check.is("12: after the limit " + limit, room.pass(1), 1);
            Check.is("12: asked no more", room.isAsked(0), false);
            Check.is("12: switched up", room.layer(1, 0), 2);
        }
        Confroom changed = room(2);
        changed.setTimes(2, 10);
        changed.setEstimate(1, 10);
        changed.pass(1);
        changed.setEstimate(1, 20);
        changed.pass(2);
        Check.is("12: asked under the limit 10", changed.isAsked(0), true);
        changed.setTimes(2, 2);
        Check.is("12: the new limit counts from the next second", changed.pass(1), 1);
    }

    private static void promise12SetTimesWrong() {
        Confroom room = room(2);
        room.setTimes(1, 0);
        for (int wrong : new int[] {0, 11, -1, Integer.MIN_VALUE, Integer.MAX_VALUE}) {
            Check.fails("12: hold " + wrong, IllegalArgumentException.class,
                    () -> room.setTimes(wrong, 5));
        }
        for (int wrong : new int[] {-1, 11, Integer.MIN_VALUE, Integer.MAX_VALUE}) {
            Check.fails("12: limit " + wrong, IllegalArgumentException.class,
                    () -> room.setTimes(5, wrong));
        }
        room.setLevel(0, 30);
        room.setEstimate(1, 10);
        room.pass(1);
        Check.is("12: a wrong call leaves the holding time", room.speaker(), 0);
        room.setEstimate(1, 20);
        Check.is("12: and the limit", room.pass(1), 1);
    }
}
