import java.util.ArrayList;
import java.util.List;
import java.util.TreeSet;

/** The document said a second time, in the plainest form, with the Java library: a call is its name and numbers. */
final class Model {
    static final String INDEX = "IndexOutOfBoundsException";
    static final String ARGUMENT = "IllegalArgumentException";
    static final String STATE = "IllegalStateException";

    private static final class Version {
        int text;
        int from;
    }

    private static final class Remark {
        boolean open = true;
    }

    private static final class Sheet {
        int author;
        int text;
        int round = 1;
        int told = -1;
        List<Integer> reviewers = new ArrayList<>();
        List<Integer> reviews = new ArrayList<>();
        List<Remark> remarks = new ArrayList<>();
        TreeSet<Integer> readers = new TreeSet<>();
        TreeSet<Integer> confirmations = new TreeSet<>();

        List<Integer> missingReviews() {
            List<Integer> missing = new ArrayList<>(reviewers);
            missing.removeAll(reviews);
            return missing;
        }

        TreeSet<Integer> missingReaders() {
            TreeSet<Integer> missing = new TreeSet<>(readers);
            missing.removeAll(confirmations);
            return missing;
        }

        long open() {
            return remarks.stream().filter(each -> each.open).count();
        }

        int step() {
            if (reviewers.isEmpty() || !missingReviews().isEmpty()) {
                return 1;
            }
            if (open() > 0) {
                return 2;
            }
            return told < 0 ? 3 : missingReaders().isEmpty() ? 5 : 4;
        }
    }

    private static final class Shelf {
        boolean inOrder;
        Sheet sheet;
        List<Version> versions = new ArrayList<>();
        TreeSet<Integer> hangsOn = new TreeSet<>();
        boolean asked;
        int lookedOn;
    }

    private static final class Hanging {
        int paper;
        int version;
        int wall;
        boolean down;
    }

    private final TreeSet<Integer> reviewing = new TreeSet<>();
    private final TreeSet<Integer> approving = new TreeSet<>();
    private final int[] deputies = {-1, -1, -1, -1, -1, -1};
    private final List<Shelf> shelves = new ArrayList<>();
    private final List<Hanging> copies = new ArrayList<>();
    private int interval = 30;
    private int today = 0;

    /** The answer as a text: a number, "nothing", or the name of the exception that is due. */
    String answer(String call, int[] a) {
        String refused = refusal(call, a);
        return refused != null ? refused : act(call, a);
    }

    private boolean person(int number) {
        return number >= 0 && number <= 5;
    }

    private boolean paper(int number) {
        return number >= 0 && number < shelves.size();
    }

    private String refusal(String call, int[] a) {
        switch (call) {
            case "day":
                return null;
            case "setRoles":
                return person(a[0]) ? null : ARGUMENT;
            case "setDeputy":
                return person(a[0]) && (person(a[1]) || a[1] == -1) && a[0] != a[1] ? null : ARGUMENT;
            case "open":
                return shelves.size() < 8 ? null : STATE;
            case "setInterval":
                return a[0] >= 1 && a[0] <= 100 ? null : ARGUMENT;
            case "pass":
                return a[0] < 1 || a[0] > 50 ? ARGUMENT : today + a[0] > 1000 ? STATE : null;
            case "takeDown":
                return a[0] >= 0 && a[0] < copies.size() && !copies.get(a[0]).down ? null : INDEX;
            default:
                return paper(a[0]) ? refusalOfPaper(call, a, shelves.get(a[0])) : INDEX;
        }
    }

    private String refusalOfPaper(String call, int[] a, Shelf shelf) {
        boolean hasVersion = !shelf.versions.isEmpty();
        switch (call) {
            case "hang":
                return !paper(a[1]) ? INDEX : a[0] == a[1] ? ARGUMENT : null;
            case "draft":
                if (!person(a[1]) || a[2] < 0 || a[2] > 9999) {
                    return ARGUMENT;
                }
                return shelf.sheet != null ? STATE : null;
            case "look":
                return hasVersion ? null : STATE;
            case "copy":
                if (a[1] < 0 || a[1] > 9) {
                    return ARGUMENT;
                }
                return hasVersion && copies.size() < 30 ? null : STATE;
            case "inForceOn":
                return a[1] < 0 || a[1] > today ? ARGUMENT : null;
            case "since":
                return a[1] < 0 || a[1] >= shelf.versions.size() ? INDEX : null;
            case "isDue": case "outOfDate": case "step": case "inForce": case "text": case "waitsFor":
                return null;
            default:
                return refusalOfDraft(call, a, shelf);
        }
    }

    private String refusalOfDraft(String call, int[] a, Shelf shelf) {
        Sheet sheet = shelf.sheet;
        switch (call) {
            case "change":
                if (a[1] < 0 || a[1] > 9999) {
                    return ARGUMENT;
                }
                return sheet == null || sheet.text == a[1] ? STATE : null;
            case "drop":
                return sheet == null ? STATE : null;
            case "answer":
                if (sheet == null) {
                    return STATE;
                }
                if (a[1] < 0 || a[1] >= sheet.remarks.size()) {
                    return INDEX;
                }
                return sheet.remarks.get(a[1]).open ? null : STATE;
            case "approve":
                if (!person(a[1]) || a[2] <= today || a[2] > 1000) {
                    return ARGUMENT;
                }
                return sheet != null && sheet.step() == 3 && mayApprove(sheet, a[1]) ? null : STATE;
            default:
                if (!person(a[1])) {
                    return ARGUMENT;
                }
                return sheet != null && allowed(call, a[1], shelf) ? null : STATE;
        }
    }

    private boolean mayApprove(Sheet sheet, int person) {
        TreeSet<Integer> all = new TreeSet<>(approving);
        for (int each : approving) {
            all.add(deputies[each]);
        }
        all.remove(sheet.author);
        return all.contains(person);
    }

    private boolean allowed(String call, int person, Shelf shelf) {
        Sheet sheet = shelf.sheet;
        switch (call) {
            case "reviewer":
                return sheet.told < 0 && person != sheet.author && reviewing.contains(person)
                    && !sheet.reviewers.contains(person) && sheet.reviewers.size() < 4;
            case "reader":
                return !sheet.readers.contains(person);
            case "review":
                return sheet.missingReviews().contains(person)
                    && (!shelf.inOrder || sheet.missingReviews().get(0) == person);
            case "confirm":
                return sheet.told >= 0 && sheet.missingReaders().contains(person);
            default:
                throw new AssertionError(call);
        }
    }

    private String act(String call, int[] a) {
        switch (call) {
            case "setRoles":
                set(reviewing, a[0], a[1] == 1);
                set(approving, a[0], a[2] == 1);
                return "nothing";
            case "setDeputy":
                int deputy = deputies[a[0]];
                deputies[a[0]] = a[1];
                return "" + deputy;
            case "open":
                Shelf shelf = new Shelf();
                shelf.inOrder = a[0] == 1;
                shelves.add(shelf);
                return "" + (shelves.size() - 1);
            case "setInterval":
                int before = interval;
                interval = a[0];
                return "" + before;
            case "pass":
                int begun = 0;
                for (int i = 0; i < a[0]; i++) {
                    begun += nextDay();
                }
                return "" + begun;
            case "takeDown":
                copies.get(a[0]).down = true;
                return "" + copies.get(a[0]).wall;
            case "day":
                return "" + today;
            default:
                return actOnPaper(call, a, shelves.get(a[0]));
        }
    }

    private static void set(TreeSet<Integer> all, int person, boolean in) {
        if (in) {
            all.add(person);
        } else {
            all.remove(person);
        }
    }

    private int nextDay() {
        today++;
        int begun = 0;
        for (int number = 0; number < shelves.size(); number++) {
            Shelf shelf = shelves.get(number);
            if (shelf.sheet == null || shelf.sheet.step() != 5 || shelf.sheet.told > today) {
                continue;
            }
            Version version = new Version();
            version.text = shelf.sheet.text;
            version.from = today;
            shelf.versions.add(version);
            shelf.sheet = null;
            shelf.asked = false;
            shelf.lookedOn = today;
            for (Shelf other : shelves) {
                if (other.hangsOn.contains(number) && !other.versions.isEmpty()) {
                    other.asked = true;
                }
            }
            begun++;
        }
        return begun;
    }

    private boolean isDue(Shelf shelf) {
        return !shelf.versions.isEmpty() && (shelf.asked || shelf.lookedOn + interval <= today);
    }

    private String actOnPaper(String call, int[] a, Shelf shelf) {
        int newest = shelf.versions.size() - 1;
        switch (call) {
            case "hang":
                shelf.hangsOn.add(a[1]);
                return "" + shelf.hangsOn.size();
            case "draft":
                shelf.sheet = new Sheet();
                shelf.sheet.author = a[1];
                shelf.sheet.text = a[2];
                return "nothing";
            case "look":
                boolean had = isDue(shelf);
                shelf.asked = false;
                shelf.lookedOn = today;
                return had ? "1" : "0";
            case "isDue":
                return isDue(shelf) ? "1" : "0";
            case "copy":
                Hanging copy = new Hanging();
                copy.paper = a[0];
                copy.version = newest;
                copy.wall = a[1];
                copies.add(copy);
                return "" + (copies.size() - 1);
            case "outOfDate":
                return "" + copies.stream().filter(c -> !c.down && c.paper == a[0] && c.version != newest).count();
            case "inForce":
                return "" + newest;
            case "text":
                return "" + (newest < 0 ? -1 : shelf.versions.get(newest).text);
            case "inForceOn":
                return "" + (shelf.versions.stream().filter(v -> v.from <= a[1]).count() - 1);
            case "since":
                return "" + shelf.versions.get(a[1]).from;
            case "step":
                return "" + (shelf.sheet == null ? 0 : shelf.sheet.step());
            case "waitsFor":
                return "" + (shelf.sheet == null ? -1 : waitsFor(shelf.sheet));
            default:
                return actOnDraft(call, a, shelf);
        }
    }

    private static int waitsFor(Sheet sheet) {
        switch (sheet.step()) {
            case 1:
                return sheet.reviewers.isEmpty() ? -1 : sheet.missingReviews().get(0);
            case 2:
                return sheet.author;
            case 4:
                return sheet.missingReaders().first();
            default:
                return -1;
        }
    }

    private String actOnDraft(String call, int[] a, Shelf shelf) {
        Sheet sheet = shelf.sheet;
        switch (call) {
            case "change":
                sheet.text = a[1];
                sheet.round++;
                sheet.told = -1;
                sheet.reviews.clear();
                sheet.remarks.clear();
                sheet.confirmations.clear();
                return "" + sheet.round;
            case "drop":
                shelf.sheet = null;
                return "" + sheet.text;
            case "reviewer":
                sheet.reviewers.add(a[1]);
                return "" + sheet.reviewers.size();
            case "reader":
                sheet.readers.add(a[1]);
                return "" + sheet.readers.size();
            case "review":
                sheet.reviews.add(a[1]);
                if (a[2] == 0) {
                    return "-1";
                }
                sheet.remarks.add(new Remark());
                return "" + (sheet.remarks.size() - 1);
            case "answer":
                sheet.remarks.get(a[1]).open = false;
                return "" + sheet.open();
            case "approve":
                sheet.told = a[2];
                return "nothing";
            case "confirm":
                sheet.confirmations.add(a[1]);
                return "" + sheet.missingReaders().size();
            default:
                throw new AssertionError(call);
        }
    }
}
