import java.util.NoSuchElementException;

/**
 * Every refused call, just beyond each bound and far beyond it: what it throws (the exception that
 * its throws clause names first, if several apply), and that it changes nothing.
 */
public final class RefusedTest {
    private interface Ask {
        void make(Confroom room);
    }

    private interface Answer {
        Object of(Confroom room);
    }

    private static final Class<NoSuchElementException> NO_SUCH = NoSuchElementException.class;
    private static final Class<IllegalArgumentException> OUT_OF_RANGE =
            IllegalArgumentException.class;
    private static final Class<IllegalStateException> NO_STREAM = IllegalStateException.class;
    private static final Class<IndexOutOfBoundsException> NO_PLACE =
            IndexOutOfBoundsException.class;

    /** Beyond the least and the greatest number, far beyond, one who left, and one never there. */
    private static final int[] NOBODY = {-1, 6, Integer.MIN_VALUE, Integer.MAX_VALUE, 3, 5};
    private static final int SILENT = 2;
    private static final int MOST_CALLS = 512;

    private static int calls = 0;

    public static void main(String[] args) {
        promise02Join();
        promise03Leave();
        promise04Publish();
        promise05End();
        promise06Mute();
        promise07SetLevel();
        promise09Pin();
        promise10SetPlaces();
        promise11SetEstimate();
        promise12SetTimes();
        promise13Pass();
        promise16To21Reading();
        promise17SeenAt();
        promise22And23OfAStream();
        theBusyRoom();
        theEmptyRoom();
        Check.end();
    }

    /**
     * 0, 1, 2 and 4 are there, 2 publishes nothing; 1 speaks; 0 is loud for 1 of 3 seconds; now is
     * the second 4, and a key picture is asked of 0 and 4, which can make it in the second 6.
     */
    private static Confroom busy() {
        Confroom room = new Confroom();
        for (int person = 0; person < 5; person++) {
            room.join();
        }
        room.leave(3);
        room.publish(4, 30, 7);
        room.publish(0, 10, 10);
        room.publish(1, 20, 5);
        room.setTimes(3, 4);
        room.pin(0, 4);
        room.pin(2, 1);
        room.setPlaces(2, 2);
        room.setEstimate(2, 90);
        room.setEstimate(0, 57);
        room.setEstimate(1, 10);
        room.mute(4);
        room.setLevel(4, 100);
        room.setLevel(1, 60);
        room.pass(3);
        room.setEstimate(1, 100);
        room.setLevel(0, 70);
        room.pass(1);
        calls = 24;
        return room;
    }

    private static void refused(String call, Class<? extends RuntimeException> due, Ask made) {
        Confroom room = busy();
        Check.fails(call, due, () -> made.make(room));
        Check.same(call + " changed something", traces(room), traces(busy()));
        Check.is(call + ": the calls are few enough", calls <= MOST_CALLS, true);
    }

    /** All that can be asked, now and after some seconds, and then all that was set. */
    private static String traces(Confroom room) {
        StringBuilder all = new StringBuilder();
        addState(all, room);
        for (int second = 0; second < 6; second++) {
            add(all, "pass", room, x -> x.pass(1));
            add(all, "speaker", room, Confroom::speaker);
        }
        addState(all, room);
        for (int person = 0; person < 6; person++) {
            int number = person;
            add(all, "level", room, x -> x.setLevel(number, 0));
            add(all, "muted", room, x -> x.mute(number));
            add(all, "pinned", room, x -> x.pin(number, Confroom.NONE));
            add(all, "places", room, x -> x.setPlaces(number, 5));
            add(all, "estimate", room, x -> x.setEstimate(number, 2000));
            add(all, "seen", room, x -> x.seen(number));
        }
        for (int free = 0; free < 3; free++) {
            add(all, "join", room, Confroom::join);
        }
        return all.toString();
    }

    private static void addState(StringBuilder all, Confroom room) {
        add(all, "people", room, Confroom::people);
        add(all, "now", room, Confroom::now);
        add(all, "speaker", room, Confroom::speaker);
        for (int person = 0; person < 6; person++) {
            int number = person;
            add(all, "sent", room, x -> x.sent(number));
            add(all, "keys", room, x -> x.keys(number));
            add(all, "asked", room, x -> x.isAsked(number));
            for (int i = 0; i < 6; i++) {
                int other = i;
                add(all, "at", room, x -> x.seenAt(number, other));
                add(all, "target", room, x -> x.target(number, other));
                add(all, "layer", room, x -> x.layer(number, other));
            }
        }
    }

    private static void add(StringBuilder all, String name, Confroom room, Answer asked) {
        calls++;
        Object answer;
        try {
            answer = asked.of(room);
        } catch (RuntimeException e) {
            answer = e.getClass().getName();
        }
        all.append(name).append(' ').append(answer).append("; ");
    }

    private static int[] beyond(int least, int most) {
        return new int[] {least - 1, most + 1, Integer.MIN_VALUE, Integer.MAX_VALUE};
    }

    private static void promise02Join() {
        Confroom room = busy();
        Check.is("2: the 5th", room.join(), 3);
        Check.is("2: the 6th", room.join(), 5);
        Confroom same = busy();
        same.join();
        same.join();
        for (int often = 0; often < 3; often++) {
            Check.fails("2: the 7th", IllegalStateException.class, room::join);
        }
        Check.same("2: the 7th changed something", traces(room), traces(same));
    }

    private static void promise03Leave() {
        for (int nobody : NOBODY) {
            refused("3: leave(" + nobody + ")", NO_SUCH, x -> x.leave(nobody));
        }
    }

    private static void promise04Publish() {
        for (int nobody : NOBODY) {
            refused("4: publish by " + nobody, NO_SUCH, x -> x.publish(nobody, 1, 1));
            refused("4: publish by " + nobody + ", base and step wrong, too", NO_SUCH,
                    x -> x.publish(nobody, 0, 101));
        }
        for (int wrong : beyond(1, 100)) {
            for (int person : new int[] {0, SILENT}) {
                refused("4: the base " + wrong, OUT_OF_RANGE, x -> x.publish(person, wrong, 100));
                refused("4: the step " + wrong, OUT_OF_RANGE, x -> x.publish(person, 100, wrong));
                refused("4: both " + wrong, OUT_OF_RANGE, x -> x.publish(person, wrong, wrong));
            }
        }
    }

    private static void promise05End() {
        for (int nobody : NOBODY) {
            refused("5: end(" + nobody + ")", NO_SUCH, x -> x.end(nobody));
        }
        refused("5: end without a stream", NO_STREAM, x -> x.end(SILENT));
    }

    private static void promise06Mute() {
        for (int nobody : NOBODY) {
            refused("6: mute(" + nobody + ")", NO_SUCH, x -> x.mute(nobody));
        }
    }

    private static void promise07SetLevel() {
        for (int nobody : NOBODY) {
            refused("7: setLevel(" + nobody + ", 0)", NO_SUCH, x -> x.setLevel(nobody, 0));
            refused("7: setLevel(" + nobody + ", 101)", NO_SUCH, x -> x.setLevel(nobody, 101));
        }
        for (int wrong : beyond(0, 100)) {
            refused("7: the level " + wrong, OUT_OF_RANGE, x -> x.setLevel(0, wrong));
        }
    }

    private static void promise09Pin() {
        for (int nobody : NOBODY) {
            refused("9: pin(" + nobody + ", 0)", NO_SUCH, x -> x.pin(nobody, 0));
            refused("9: pin(" + nobody + ", NONE)", NO_SUCH, x -> x.pin(nobody, Confroom.NONE));
            refused("9: nobody and the same " + nobody, NO_SUCH, x -> x.pin(nobody, nobody));
            if (nobody != Confroom.NONE) {
                refused("9: pin(0, " + nobody + ")", NO_SUCH, x -> x.pin(0, nobody));
            }
        }
        refused("9: just below NONE", NO_SUCH, x -> x.pin(0, -2));
        for (int person : new int[] {0, 1, 2, 4}) {
            refused("9: both are " + person, OUT_OF_RANGE, x -> x.pin(person, person));
        }
    }

    private static void promise10SetPlaces() {
        for (int nobody : NOBODY) {
            refused("10: setPlaces(" + nobody + ", 0)", NO_SUCH, x -> x.setPlaces(nobody, 0));
            refused("10: setPlaces(" + nobody + ", 6)", NO_SUCH, x -> x.setPlaces(nobody, 6));
        }
        for (int wrong : beyond(0, 5)) {
            refused("10: the places " + wrong, OUT_OF_RANGE, x -> x.setPlaces(2, wrong));
        }
    }

    private static void promise11SetEstimate() {
        for (int nobody : NOBODY) {
            refused("11: setEstimate(" + nobody + ", 0)", NO_SUCH, x -> x.setEstimate(nobody, 0));
            refused("11: setEstimate(" + nobody + ", -1)", NO_SUCH,
                    x -> x.setEstimate(nobody, -1));
        }
        for (int wrong : beyond(0, 2000)) {
            refused("11: the estimate " + wrong, OUT_OF_RANGE, x -> x.setEstimate(0, wrong));
        }
    }

    private static void promise12SetTimes() {
        for (int wrong : beyond(1, 10)) {
            refused("12: the holding time " + wrong, OUT_OF_RANGE, x -> x.setTimes(wrong, 0));
        }
        for (int wrong : beyond(0, 10)) {
            refused("12: the limit " + wrong, OUT_OF_RANGE, x -> x.setTimes(1, wrong));
            refused("12: both, the limit " + wrong, OUT_OF_RANGE, x -> x.setTimes(0, wrong));
        }
    }

    private static void promise13Pass() {
        for (int wrong : beyond(1, 20)) {
            refused("13: pass(" + wrong + ")", OUT_OF_RANGE, x -> x.pass(wrong));
        }
    }

    private static void promise16To21Reading() {
        for (int nobody : NOBODY) {
            refused("16: seen(" + nobody + ")", NO_SUCH, x -> x.seen(nobody));
            refused("21: sent(" + nobody + ")", NO_SUCH, x -> x.sent(nobody));
            int[][] pairs = {{nobody, 0}, {0, nobody}, {nobody, nobody}};
            for (int[] pair : pairs) {
                String both = "(" + pair[0] + ", " + pair[1] + ")";
                refused("18: target" + both, NO_SUCH, x -> x.target(pair[0], pair[1]));
                refused("19: targetBySteps" + both, NO_SUCH,
                        x -> x.targetBySteps(pair[0], pair[1]));
                refused("20: layer" + both, NO_SUCH, x -> x.layer(pair[0], pair[1]));
            }
        }
    }

    private static void promise17SeenAt() {
        for (int nobody : NOBODY) {
            refused("17: seenAt(" + nobody + ", 0)", NO_SUCH, x -> x.seenAt(nobody, 0));
            refused("17: no receiver and no place", NO_SUCH, x -> x.seenAt(nobody, -1));
            refused("17: no receiver and no place beyond", NO_SUCH, x -> x.seenAt(nobody, 9));
        }
        for (int receiver : new int[] {0, 1, 2, 4}) {
            Check.is("17: seen(" + receiver + ")", busy().seen(receiver), 2);
            busy().seenAt(receiver, 1);
            for (int wrong : beyond(0, 1)) {
                refused("17: seenAt(" + receiver + ", " + wrong + ")", NO_PLACE,
                        x -> x.seenAt(receiver, wrong));
            }
        }
    }

    private static void promise22And23OfAStream() {
        for (int nobody : NOBODY) {
            refused("22: keys(" + nobody + ")", NO_SUCH, x -> x.keys(nobody));
            refused("23: isAsked(" + nobody + ")", NO_SUCH, x -> x.isAsked(nobody));
        }
        refused("22: keys without a stream", NO_STREAM, x -> x.keys(SILENT));
        refused("23: isAsked without a stream", NO_STREAM, x -> x.isAsked(SILENT));
    }

    /** The room is as said above, so that a change of any part of it would be seen. */
    private static void theBusyRoom() {
        Confroom room = busy();
        Check.is("the busy room: people()", room.people(), 4);
        Check.is("the busy room: now()", room.now(), 4);
        Check.is("the busy room: speaker()", room.speaker(), 1);
        Check.is("the busy room: isAsked(0)", room.isAsked(0), true);
        Check.is("the busy room: isAsked(1)", room.isAsked(1), false);
        Check.is("the busy room: isAsked(4)", room.isAsked(4), true);
        Check.is("the busy room: the second 5", room.pass(1), 0);
        Check.is("the busy room: still asked", room.isAsked(0), true);
        Check.is("the busy room: the second 6", room.pass(1), 2);
        Check.is("the busy room: another speaker", room.speaker(), 0);
    }

    /** In a room without people there is nobody to ask about, whatever else is wrong, too. */
    private static void theEmptyRoom() {
        for (int person = -1; person <= 6; person++) {
            int number = person;
            Ask[] asks = {
                x -> x.leave(number), x -> x.publish(number, 0, 0), x -> x.end(number),
                x -> x.mute(number), x -> x.setLevel(number, -1), x -> x.pin(number, number),
                x -> x.pin(number, Confroom.NONE), x -> x.setPlaces(number, 6),
                x -> x.setEstimate(number, 2001), x -> x.seen(number), x -> x.seenAt(number, -1),
                x -> x.target(number, number), x -> x.targetBySteps(number, number),
                x -> x.layer(number, number), x -> x.sent(number), x -> x.keys(number),
                x -> x.isAsked(number),
            };
            for (int i = 0; i < asks.length; i++) {
                Confroom room = new Confroom();
                Ask ask = asks[i];
                Check.fails("1: call " + i + " of " + person, NO_SUCH, () -> ask.make(room));
                Check.is("1: nobody came by it", room.people(), 0);
                Check.is("1: the first one is still 0", room.join(), 0);
            }
        }
    }
}
