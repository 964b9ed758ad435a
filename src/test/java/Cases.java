/** What the tests of texts have in common: a text, what a new object makes of it, and what is due. */
abstract class Cases {
    static final Check CHECK = new Check();

    /** A new object runs the text without a fault and writes these lines, parted by blanks. */
    static Session gives(String text, String lines) {
        Session session = new Session();
        CHECK.isTrue("fed: " + text, session.feed(text));
        String answer = session.go(Session.PLENTY);
        CHECK.same(text + " -> fault", session.run.fault(), 0);
        CHECK.same(text + " -> answer", answer, String.valueOf(session.run.steps()));
        CHECK.same(text + " -> output", session.out(), linesOf(lines));
        return session;
    }

    /** A new object runs the text into this fault and has written these lines before. */
    static Session fails(String text, int fault, String lines) {
        Session session = new Session();
        CHECK.isTrue("fed: " + text, session.feed(text));
        String answer = session.go(Session.PLENTY);
        CHECK.same(text + " -> fault", session.run.fault(), fault);
        CHECK.same(text + " -> answer", answer, Session.due(fault));
        CHECK.same(text + " -> output", session.out(), linesOf(lines));
        return session;
    }

    static void faulty(String... texts) {
        for (String text : texts) {
            fails(text, 1, "");
        }
    }

    /** The texts are not faulty; with no fuel, so that it does not matter what they would do. */
    static void sound(String... texts) {
        for (String text : texts) {
            Session session = new Session();
            CHECK.isTrue("fed: " + text, session.feed(text));
            session.go(0);
            CHECK.isTrue(text + " is not faulty", session.run.fault() != 1);
        }
    }

    /** The text makes so many steps: that much fuel is enough, and one less is not. */
    static void makes(String text, int steps) {
        Session session = new Session();
        CHECK.same(text + " -> steps", session.go(text, steps), String.valueOf(steps));
        if (steps > 0) {
            Session starved = new Session();
            CHECK.same(text + " with less fuel", starved.go(text, steps - 1), Session.due(4));
            CHECK.same(text + " with less fuel, fault", starved.run.fault(), 4);
            CHECK.same(text + " with less fuel, steps", starved.run.steps(), steps - 1);
        }
    }

    static String linesOf(String lines) {
        return lines.isEmpty() ? "" : lines.replace(' ', '\n') + "\n";
    }
}
