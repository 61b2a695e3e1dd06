/** All that can be asked of an object, at all moments, as a text to compare. */
final class Picture {
    private final Scene scene;
    private final StringBuilder seen = new StringBuilder();
    private Past past;

    private Picture(Scene scene) {
        this.scene = scene;
        past = scene.past();
    }

    static String of(Scene scene) {
        Picture picture = new Picture(scene);
        picture.addStates();
        int branches = picture.past().state(3);
        for (int branch = 0; branch < branches; branch++) {
            picture.addAbout(branch);
            picture.addPairs(branch, branches);
            picture.addHistories(branch);
            if (picture.past().about(branch, 0) == 1) {
                picture.addReadings(branch);
            }
        }
        return picture.seen.toString();
    }

    /** An object that is where the scene ends, and may still be asked. */
    private Past past() {
        if (past.callsLeft() == 0) {
            past = scene.past();
        }
        return past;
    }

    private void line(String name) {
        seen.append('\n').append(name);
    }

    private void add(int answer) {
        seen.append(' ').append(answer);
    }

    private void addStates() {
        line("state");
        for (int what = 0; what < 4; what++) {
            add(past().state(what));
        }
        line("length of the text");
        // No byte is not 0: this adds nothing.
        add(past().type(0));
    }

    private void addAbout(int branch) {
        line("about " + branch);
        for (int what = 0; what < 4; what++) {
            add(past().about(branch, what));
        }
    }

    private void addPairs(int one, int branches) {
        for (int two = 0; two < branches; two++) {
            line("pair " + one + " " + two);
            add(past().meeting(one, two));
            if (past().about(one, 0) == 1 && past().about(two, 0) == 1) {
                addDifferences(one, two);
            }
        }
    }

    private void addDifferences(int one, int two) {
        for (int k = 0; k < 48; k++) {
            int cell = past().differs(one, two, k);
            if (cell == BranchedPast.NONE) {
                return;
            }
            add(cell);
        }
    }

    private void addHistories(int branch) {
        for (int cell = 0; cell < 48; cell++) {
            line("history " + branch + " " + cell / 4 + " " + cell % 4);
            addHistory(branch, cell / 4, cell % 4);
        }
    }

    private void addHistory(int branch, int object, int field) {
        for (int k = 0; k < 120; k++) {
            int moment = past().history(branch, object, field, k);
            if (moment == BranchedPast.NONE) {
                return;
            }
            add(moment);
        }
    }

    private void addReadings(int branch) {
        int first = Math.max(past().state(1), past().about(branch, 2));
        int clock = past().state(0);
        for (int moment = first; moment <= clock; moment++) {
            line("find " + branch + " " + moment);
            add(past().find(branch, moment));
            for (int object = 0; object < 12; object++) {
                line("object " + branch + " " + moment + " " + object);
                add(past().reach(branch, moment, object));
                addFields(branch, moment, object);
            }
        }
    }

    private void addFields(int branch, int moment, int object) {
        for (int field = 0; field < 4; field++) {
            for (int what = 0; what < 3; what++) {
                add(past().read(branch, moment, object, field, what));
            }
        }
    }
}
