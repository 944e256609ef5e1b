/** The example of README.md, with the answers that it tells. */
public final class ReadmeTest {
    public static void main(String[] args) {
        Confroom room = new Confroom();
        int anna = room.join();
        int bert = room.join();
        Check.is("anna", anna, 0);
        Check.is("bert", bert, 1);
        room.publish(anna, 20, 30);
        room.setLevel(anna, 60);
        Check.is("pass(2)", room.pass(2), 1);
        Check.is("speaker()", room.speaker(), anna);
        Check.is("layer(bert, anna)", room.layer(bert, anna), 3);
        Check.is("sent(bert)", room.sent(bert), 80);
        Check.is("setEstimate(bert, 50)", room.setEstimate(bert, 50), 100);
        Check.is("target(bert, anna)", room.target(bert, anna), 2);
        Check.is("layer(bert, anna)", room.layer(bert, anna), 3);
        Check.is("pass(1)", room.pass(1), 0);
        Check.is("layer(bert, anna)", room.layer(bert, anna), 2);
        room.setEstimate(bert, 100);
        Check.is("pass(1)", room.pass(1), 0);
        Check.is("isAsked(anna)", room.isAsked(anna), true);
        Check.is("pass(1)", room.pass(1), 1);
        Check.is("layer(bert, anna)", room.layer(bert, anna), 3);
        Check.is("now()", room.now(), 5);
        Check.end();
    }
}
