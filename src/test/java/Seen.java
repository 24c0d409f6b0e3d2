import java.util.ArrayList;
import java.util.List;

/**
 * All that can be seen of an object but what told() tells, as a row of answers: two objects of unlike rows are unlike.
 * It uses the object up: what is asked changes it, too, and most of the 512 calls are gone then.
 */
final class Seen {
    private final Calls c;
    private final List<Integer> answers = new ArrayList<>();

    private Seen(Calls c) {
        this.c = c;
    }

    static List<Integer> of(Calls c) {
        Seen seen = new Seen(c);
        seen.voices();
        seen.whatImagesKeep();
        seen.sheets();
        int year = seen.ask("restore");
        if (year >= 0) {
            seen.whatImagesKeep();
        }
        seen.ask("image");
        return seen.answers;
    }

    private int ask(String name, int... v) {
        int answer = c.ask(name, v);
        answers.add(answer);
        return answer;
    }

    private void voices() {
        int bodies = ask("count", 9);
        for (int i = 0; i < bodies; i++) {
            ask("trace", i);
        }
    }

    private void whatImagesKeep() {
        for (int what = 0; what < 11; what++) {
            if (what != 9) {
                ask("count", what);
            }
        }
        for (int what = 0; what < 2; what++) {
            for (int s = 0; s < 6; s++) {
                ask("ofSeason", s, what);
            }
            for (int s = 0; s < 10; s++) {
                ask("ofStep", s, what);
            }
        }
        for (int what = 3; what < 8; what++) {
            ask("ofFigure", what);
        }
        for (int row = 0; row < 8; row++) {
            ask("trees", row, 0);
        }
        visitors();
        laws();
        ask("check");
        ask("text", 0);
        laws();
    }

    private void visitors() {
        int many = c.ask("count", 0);
        for (int i = 0; i < many; i++) {
            for (int what = 0; what < 4; what++) {
                ask("ofVisitor", i, what);
            }
        }
    }

    private void laws() {
        ask("law", 0, 7, 5, 3);
        ask("law", 1, 60, 2, 4);
    }

    /** The numbers first, for what else is asked of a SHEET may be refused. */
    private void sheets() {
        for (int sheet = 0; sheet < 4; sheet++) {
            boolean goesOn = talls(sheet) == 10;
            for (int from = 10; from < 40 && goesOn; from += 10) {
                ask("move", sheet, from, sheet, 0, 10);
                talls(sheet);
            }
        }
        int[] sizes = {0, 1, 4, 5, 40, 41};
        for (int sheet = 0; sheet < 4; sheet++) {
            for (int other = 0; other < sheet; other++) {
                ask("move", sheet, 0, other, 0, 0);
            }
            for (int size : sizes) {
                ask("move", sheet, 0, sheet, 0, size);
            }
        }
    }

    /** The first ten numbers, by way of TALL of STEPS. */
    private int talls(int sheet) {
        int many = ask("talls", sheet);
        for (int i = 0; i < many; i++) {
            ask("ofStep", i, 0);
        }
        return many;
    }
}
