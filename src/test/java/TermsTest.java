/** The terms of the document, sentence by sentence. */
public final class TermsTest {
    private TermsTest() {
    }

    public static void main(String[] args) {
        Sentences terms = new Sentences(Sentences.TERMS);
        TimeTerms.tests(terms);
        JoinTerms.tests(terms);
        PathTerms.tests(terms);
        terms.test("A call that throws changes nothing", TermsTest::throwsAndChangesNothing);
        terms.test(Sentences.FIRST_NAMED, Edges::all);
        terms.end();
    }

    /** Six branches, one of them closed; a horizon, a text, 120 writes and a field of each kind. */
    private static final Scene BUSY = Scenes.writes(4).then(memory -> {
        memory.branch(0, 2);
        memory.branch(0, 3);
        memory.write(1, 1, 1, 2, 2);
        memory.write(2, 1, 1, 0, 2);
        memory.branch(1, 6);
        memory.branch(3, 6);
        memory.branch(2, 6);
        memory.close(5);
        memory.trim(3);
        Scenes.text("*.1~^1[0>-12]?3").play(memory);
        while (memory.state(2) < 120) {
            memory.write(0, 2, 2, 1, 1);
        }
    });

    private static void throwsAndChangesNothing() {
        Check.refused("branch", Check.STATE, BUSY, memory -> memory.branch(0, 6));
        Check.refused("branch of a closed one", Check.ARGUMENT, BUSY,
                memory -> memory.branch(5, 6));
        Check.refused("close a closed one", Check.STATE, BUSY, memory -> memory.close(5));
        Check.refused("close no branch", Check.INDEX, BUSY, memory -> memory.close(6));
        Check.refused("write", Check.UNSUPPORTED, BUSY, memory -> memory.write(1, 0, 0, 1, 9));
        Check.refused("write to a closed one", Check.STATE, BUSY,
                memory -> memory.write(5, 0, 0, 1, 9));
        Check.refused("write no value", Check.ARGUMENT, BUSY,
                memory -> memory.write(0, 0, 0, 2, 12));
        Check.refused("read", Check.ARGUMENT, BUSY, memory -> memory.read(0, 2, 0, 0, 0));
        Check.refused("history", Check.INDEX, BUSY, memory -> memory.history(0, 0, 4, 0));
        Check.refused("differs", Check.STATE, BUSY, memory -> memory.differs(0, 5, 0));
        Check.refused("meeting", Check.INDEX, BUSY, memory -> memory.meeting(0, 6));
        Check.refused("join", Check.UNSUPPORTED, BUSY, memory -> memory.join(0, 2));
        Check.refused("join behind the horizon", Check.STATE, BUSY, memory -> memory.join(3, 0));
        Check.refused("trim behind the horizon", Check.ARGUMENT, BUSY, memory -> memory.trim(2));
        Check.refused("trim after the clock", Check.ARGUMENT, BUSY, memory -> memory.trim(200));
        Check.refused("reach", Check.ARGUMENT, BUSY, memory -> memory.reach(5, 6, 0));
        Check.refused("type", Check.ARGUMENT, BUSY, memory -> memory.type(0x61616120));
        Check.refused("type too much", Check.STATE,
                BUSY.then(Scenes.text("[2=1][2=1][2=1]")), memory -> memory.type(0x61616161));
        Check.refused("find", Check.ARGUMENT, BUSY, memory -> memory.find(1, 2));
        Check.refused("state", Check.ARGUMENT, BUSY, memory -> memory.state(4));
        Check.refused("about", Check.ARGUMENT, BUSY, memory -> memory.about(0, 4));
    }
}
