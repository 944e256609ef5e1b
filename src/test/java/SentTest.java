import java.util.NoSuchElementException;

/** Promises 20 to 23: layer, sent, keys, isAsked. */
public final class SentTest {
    private static final int[] NOBODY = {-1, 3, 5, 6, Integer.MIN_VALUE, Integer.MAX_VALUE};

    public static void main(String[] args) {
        promise20Layer();
        promise20LayerIsLowered();
        promise20LayerWrong();
        promise21Sent();
        promise22Keys();
        promise22And23Wrong();
        promise23IsAsked();
        promise23StaysAsked();
        Check.end();
    }

    private static Confroom room(int people) {
        Confroom room = new Confroom();
        for (int i = 0; i < people; i++) {
            room.join();
        }
        return room;
    }

    private static void promise20Layer() {
        Confroom room = room(3);
        Check.is("20: nothing is published", room.layer(0, 1), 0);
        room.publish(0, 10, 10);
        room.publish(1, 20, 20);
        Check.is("20: 0 at first", room.layer(0, 1), 0);
        Check.is("20: the target", room.target(0, 1), 3);
        Check.is("20: still 0", room.layer(0, 1), 0);
        room.pass(1);
        Check.is("20: the target in a second", room.layer(0, 1), 3);
        Check.is("20: of another receiver", room.layer(2, 0), 3);
        Check.is("20: the rest of it", room.layer(2, 1), 3);
        Check.is("20: itself", room.layer(0, 0), 0);
        Check.is("20: itself without a stream", room.layer(2, 2), 0);
        Check.is("20: one without a stream", room.layer(0, 2), 0);
    }

    private static void promise20LayerIsLowered() {
        Confroom room = room(3);
        room.publish(0, 10, 10);
        room.publish(1, 20, 20);
        room.pass(1);
        room.setEstimate(2, 40);
        Check.is("20: not lowered between seconds", room.layer(2, 0), 3);
        room.pin(2, 1);
        room.setPlaces(2, 1);
        Check.is("20: not lowered by a setting", room.layer(2, 0), 3);
        Check.is("20: nor the other one", room.layer(2, 1), 3);
        room.pass(1);
        Check.is("20: not seen any more", room.layer(2, 0), 0);
        Check.is("20: lowered at once, with no key picture", room.layer(2, 1), 2);
        Check.is("20: another receiver keeps its layer", room.layer(1, 0), 3);
        room.setEstimate(2, 60);
        room.pass(2);
        Check.is("20: raised at a key picture alone", room.layer(2, 1), 2);
        room.pass(1);
        Check.is("20: raised then", room.layer(2, 1), 3);
        room.leave(1);
        room.join();
        Check.is("20: a stream of one who left", room.layer(2, 1), 0);
    }

    private static void promise20LayerWrong() {
        Confroom room = room(2);
        for (int wrong : NOBODY) {
            Check.fails("20: layer(" + wrong + ", 0)", NoSuchElementException.class,
                    () -> room.layer(wrong, 0));
            Check.fails("20: layer(0, " + wrong + ")", NoSuchElementException.class,
                    () -> room.layer(0, wrong));
            Check.fails("20: layer of nobody", NoSuchElementException.class,
                    () -> room.layer(wrong, wrong));
        }
    }

    private static void promise21Sent() {
        Confroom room = room(6);
        Check.is("21: nothing at first", room.sent(0), 0);
        for (int person = 0; person < 6; person++) {
            room.publish(person, 100, 100 - person);
        }
        room.setPlaces(0, 5);
        room.setEstimate(0, 2000);
        Check.is("21: nothing before a second", room.sent(0), 0);
        room.pass(1);
        Check.is("21: all layers of all", room.sent(0), 5 * 300 - 2 * (1 + 2 + 3 + 4 + 5));
        Check.is("21: one layer", room.sent(1), 100);
        room.setEstimate(0, 500 + 99 + 99 + 98);
        room.pass(1);
        Check.is("21: some layers", room.sent(0), 500 + 99 + 99 + 98);
        room.end(1);
        Check.is("21: without the first one", room.sent(0), 400 + 98);
        room.leave(2);
        Check.is("21: without the second one", room.sent(0), 300);
        room.publish(3, 1, 1);
        Check.is("21: without the third one", room.sent(0), 200);
        for (int wrong : new int[] {-1, 2, 6, Integer.MIN_VALUE, Integer.MAX_VALUE}) {
            Check.fails("21: sent(" + wrong + ")", NoSuchElementException.class,
                    () -> room.sent(wrong));
        }
    }

    private static void promise22Keys() {
        Confroom room = room(3);
        room.publish(0, 10, 10);
        room.publish(1, 10, 10);
        Check.is("22: none at first", room.keys(0), 0);
        room.setEstimate(2, 20);
        room.pass(1);
        Check.is("22: the first one", room.keys(0), 1);
        Check.is("22: of the other one", room.keys(1), 1);
        room.pass(20);
        Check.is("22: none unless asked", room.keys(0), 1);
        room.setEstimate(2, 30);
        room.pass(1);
        Check.is("22: one for who goes up", room.keys(0), 2);
        Check.is("22: none for who doesn't", room.keys(1), 1);
        room.setEstimate(2, 40);
        room.pass(3);
        Check.is("22: not within the limit", room.keys(0), 2);
        room.pass(1);
        Check.is("22: in the 4th second", room.keys(0), 3);
        room.publish(0, 10, 10);
        Check.is("22: of the new stream", room.keys(0), 0);
    }

    private static void promise22And23Wrong() {
        Confroom room = room(2);
        room.publish(0, 10, 10);
        room.publish(1, 10, 10);
        room.end(1);
        Check.fails("22: keys(1) after end", IllegalStateException.class, () -> room.keys(1));
        Check.fails("23: isAsked(1) after end", IllegalStateException.class,
                () -> room.isAsked(1));
        room.leave(1);
        room.join();
        Check.fails("22: keys(1) of a new one", IllegalStateException.class, () -> room.keys(1));
        Check.fails("23: isAsked(1) of a new one", IllegalStateException.class,
                () -> room.isAsked(1));
        for (int wrong : NOBODY) {
            Check.fails("22: keys(" + wrong + ")", NoSuchElementException.class,
                    () -> room.keys(wrong));
            Check.fails("23: isAsked(" + wrong + ")", NoSuchElementException.class,
                    () -> room.isAsked(wrong));
        }
    }

    private static void promise23IsAsked() {
        Confroom room = room(2);
        room.publish(0, 10, 10);
        Check.is("23: not asked before a second", room.isAsked(0), false);
        room.setEstimate(1, 10);
        room.pass(1);
        Check.is("23: made at once", room.isAsked(0), false);
        room.setEstimate(1, 20);
        Check.is("23: not asked by a setting", room.isAsked(0), false);
        for (int second = 0; second < 3; second++) {
            room.pass(1);
            Check.is("23: asked, and not made yet", room.isAsked(0), true);
        }
        room.pass(1);
        Check.is("23: made", room.isAsked(0), false);
        Check.is("23: keys(0)", room.keys(0), 2);
        room.pass(20);
        room.setEstimate(1, 10);
        room.pass(1);
        Check.is("23: not asked to go down", room.isAsked(0), false);
    }

    private static void promise23StaysAsked() {
        Confroom room = room(3);
        room.publish(0, 10, 10);
        room.pass(1);
        room.setEstimate(1, 10);
        room.pass(1);
        room.setEstimate(1, 30);
        room.pass(1);
        Check.is("23: asked", room.isAsked(0), true);
        room.setEstimate(1, 10);
        room.leave(2);
        Check.is("23: asked whatever is set", room.isAsked(0), true);
        room.pass(1);
        Check.is("23: asked until it is made", room.isAsked(0), true);
        Check.is("23: it is made though nobody goes up", room.pass(1), 1);
        Check.is("23: and then it is not asked", room.isAsked(0), false);
        Check.is("23: layer(1, 0)", room.layer(1, 0), 1);
    }
}
