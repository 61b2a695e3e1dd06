/** All that can be asked of an object without changing it, as a text to compare. */
final class Snapshot {
    private Snapshot() {
    }

    static String of(BranchedPast past) {
        StringBuilder all = new StringBuilder();
        for (int what = 0; what < 4; what++) {
            all.append(past.state(what)).append(' ');
        }
        for (int branch = 0; branch < past.state(3); branch++) {
            addBranch(all.append('\n'), past, branch);
        }
        // No bytes: this adds nothing and answers the length.
        return all.append("\ntext ").append(past.type(0)).toString();
    }

    private static void addBranch(StringBuilder all, BranchedPast past, int branch) {
        for (int what = 0; what < 4; what++) {
            all.append(past.about(branch, what)).append(' ');
        }
        for (int cell = 0; cell < 48; cell++) {
            addField(all, past, branch, cell / 4, cell % 4);
        }
        if (past.about(branch, 0) == 1) {
            all.append(" find ").append(past.find(branch, past.state(0)));
        }
    }

    private static void addField(StringBuilder all, BranchedPast past, int branch, int object,
            int field) {
        all.append(';');
        for (int k = 0; past.history(branch, object, field, k) != BranchedPast.NONE; k++) {
            int moment = past.history(branch, object, field, k);
            int seen = Math.max(moment, Math.max(past.state(1), past.about(branch, 2)));
            for (int what = 0; what < 3; what++) {
                all.append(past.read(branch, seen, object, field, what)).append(' ');
            }
        }
    }
}
