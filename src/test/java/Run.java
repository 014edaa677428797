import java.util.ArrayList;
import java.util.List;

/**
 * A run of calls on a new object, written as rows: "change 0 1000 1 7 = 2" with the answer that is due (a boolean
 * counts 1 or 0), "make 4 0 = PLACE" with an exception, "40 times add 0 0" with no answer, but nothing thrown.
 * Behind "//" stands a remark. MIN and MAX are the ends of the int numbers.
 */
final class Run {
    private static final int MOST_CALLS = 512;

    /** One call with the outcome that is due; null if any answer will do. */
    record Row(String call, int[] arguments, String due, String text) {
    }

    final FieldStore store = new FieldStore();
    private final Model model = new Model();
    private final String sentence;
    private int calls = 0;

    Run(String sentence) {
        this.sentence = sentence;
    }

    /** Makes the calls on a new object, and compares every answer with the one that is due. */
    static Run due(String sentence, String rows) {
        Run run = new Run(sentence);
        for (Row row : rows(rows)) {
            run.make(row);
        }
        Due.same(sentence + ": calls at the most " + MOST_CALLS, "true", "" + (run.calls <= MOST_CALLS));
        return run;
    }

    static List<Row> rows(String text) {
        List<Row> rows = new ArrayList<>();
        for (String line : text.split("\n")) {
            String row = line.replaceFirst("//.*", "").trim();
            if (!row.isEmpty()) {
                String[] words = row.split(" ");
                boolean repeated = words.length > 1 && words[1].equals("times");
                Row one = row(repeated ? row.substring(row.indexOf("times") + 6) : row);
                for (int i = 0; i < (repeated ? Integer.parseInt(words[0]) : 1); i++) {
                    rows.add(one);
                }
            }
        }
        return rows;
    }

    private static Row row(String text) {
        String[] sides = text.split(" = ");
        String[] words = sides[0].trim().split(" ");
        int[] arguments = new int[words.length - 1];
        for (int i = 0; i < arguments.length; i++) {
            arguments[i] = number(words[i + 1]);
        }
        if (arguments.length != Calls.ARGUMENTS.get(words[0])) {
            throw new AssertionError(text);
        }
        return new Row(words[0], arguments, sides.length == 1 ? null : outcome(sides[1].trim()), text);
    }

    private static int number(String word) {
        return word.equals("MIN") ? Integer.MIN_VALUE : word.equals("MAX") ? Integer.MAX_VALUE : Integer.parseInt(word);
    }

    private static String outcome(String due) {
        switch (due) {
            case "PLACE": return Due.PLACE.getSimpleName();
            case "RANGE": return Due.RANGE.getSimpleName();
            case "STATE": return Due.STATE.getSimpleName();
            default: return Long.toString(Long.parseLong(due));
        }
    }

    /** The model makes the calls too, so that a due answer that was written down wrong comes out. */
    private void make(Row row) {
        calls++;
        String got = Due.outcome(() -> Calls.answer(store, row.call(), row.arguments()));
        String modelled = Due.outcome(() -> model.answer(row.call(), row.arguments()));
        String where = sentence + ": call " + calls + ", " + row.text();
        Due.same(where, row.due() == null ? modelled : row.due(), got);
        Due.same(where + " (model)", got, modelled);
        if (row.due() == null) {
            Due.same(where + " throws", "false", "" + got.endsWith("Exception"));
        }
    }
}
