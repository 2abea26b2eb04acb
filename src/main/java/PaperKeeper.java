/**
 * A keeper of controlled papers: drafts are reviewed in rounds, in order or side by side, remarks must be answered,
 * a round begins anew when the text changes, approval is by role, with deputies, and never by the author; an approved
 * text is in force from a day on, once all its readers have confirmed it, and the former one is out at the same
 * stroke; papers hang on others, copies hang on walls, and looks fall due.
 */
public final class PaperKeeper {
    private static final int NONE = -1;
    private static final int PERSONS = 6;
    private static final int PAPERS = 8;
    private static final int REVIEWERS = 4;
    private static final int WALLS = 10;
    private static final int COPIES = 30;
    private static final int LAST_TEXT = 9999;
    private static final int LAST_DAY = 1000;
    private static final int LONGEST_PASS = 50;
    private static final int FIRST_INTERVAL = 30;
    private static final int LONGEST_INTERVAL = 100;
    // A version takes four calls at least (draft, reviewer, review, approve), and an object is used for 512.
    private static final int VERSIONS = 128;

    private static final int NO_DRAFT = 0;
    private static final int REVIEW = 1;
    private static final int ANSWER = 2;
    private static final int APPROVAL = 3;
    private static final int CONFIRMATION = 4;
    private static final int THE_DAY = 5;

    private final boolean[] mayReview;
    private final boolean[] mayApprove;
    private final int[] deputies;
    private final Paper[] papers;
    private final Copies copies;
    private int paperCount;
    private int interval;
    private int today;

    public PaperKeeper() {
        mayReview = new boolean[PERSONS];
        mayApprove = new boolean[PERSONS];
        deputies = new int[PERSONS];
        for (int i = 0; i < PERSONS; i++) {
            deputies[i] = NONE;
        }
        papers = new Paper[PAPERS];
        copies = new Copies();
        paperCount = 0;
        interval = FIRST_INTERVAL;
        today = 0;
    }

    // ---- persons and papers

    public void setRoles(int person, boolean reviews, boolean approves) throws IllegalArgumentException {
        checkPerson(person);
        mayReview[person] = reviews;
        mayApprove[person] = approves;
    }

    public int setDeputy(int person, int deputy) throws IllegalArgumentException {
        checkPerson(person);
        if (deputy != NONE) {
            checkPerson(deputy);
        }
        if (person == deputy) {
            throw new IllegalArgumentException("nobody is the own deputy");
        }
        int before = deputies[person];
        deputies[person] = deputy;
        return before;
    }

    public int open(boolean inOrder) throws IllegalStateException {
        if (paperCount >= PAPERS) {
            throw new IllegalStateException("there are 8 papers");
        }
        int number = paperCount;
        papers[number] = new Paper(inOrder);
        paperCount++;
        return number;
    }

    public int hang(int paper, int other) throws IndexOutOfBoundsException, IllegalArgumentException {
        Paper hanging = paperAt(paper);
        paperAt(other);
        if (paper == other) {
            throw new IllegalArgumentException("a paper does not hang on itself");
        }
        hanging.hangsOn[other] = true;
        return countOf(hanging.hangsOn);
    }

    public int setInterval(int days) throws IllegalArgumentException {
        checkRange(days, 1, LONGEST_INTERVAL);
        int before = interval;
        interval = days;
        return before;
    }

    // ---- drafts

    public void draft(int paper, int author, int text)
            throws IndexOutOfBoundsException, IllegalArgumentException, IllegalStateException {
        Paper found = paperAt(paper);
        checkPerson(author);
        checkRange(text, 0, LAST_TEXT);
        if (found.hasDraft) {
            throw new IllegalStateException("the paper has a draft");
        }
        found.hasDraft = true;
        found.draft.begin(author, text);
    }

    public int change(int paper, int text)
            throws IndexOutOfBoundsException, IllegalArgumentException, IllegalStateException {
        Paper found = paperAt(paper);
        checkRange(text, 0, LAST_TEXT);
        Draft draft = draftOf(found);
        if (draft.text == text) {
            throw new IllegalStateException("the draft has this text");
        }
        draft.text = text;
        draft.beginRound();
        return draft.round;
    }

    public int drop(int paper) throws IndexOutOfBoundsException, IllegalStateException {
        Paper found = paperAt(paper);
        Draft draft = draftOf(found);
        found.hasDraft = false;
        return draft.text;
    }

    public int reviewer(int paper, int person)
            throws IndexOutOfBoundsException, IllegalArgumentException, IllegalStateException {
        Paper found = paperAt(paper);
        checkPerson(person);
        Draft draft = draftOf(found);
        if (draft.approved) {
            throw new IllegalStateException("the draft is approved");
        }
        if (person == draft.author || !mayReview[person]) {
            throw new IllegalStateException("the person may not review it");
        }
        if (draft.hasReviewer(person) || draft.reviewerCount >= REVIEWERS) {
            throw new IllegalStateException("the person is named, or there are 4");
        }
        draft.reviewers[draft.reviewerCount] = person;
        draft.reviewerCount++;
        return draft.reviewerCount;
    }

    public int reader(int paper, int person)
            throws IndexOutOfBoundsException, IllegalArgumentException, IllegalStateException {
        Paper found = paperAt(paper);
        checkPerson(person);
        Draft draft = draftOf(found);
        if (draft.reads[person]) {
            throw new IllegalStateException("the person is named");
        }
        draft.reads[person] = true;
        return countOf(draft.reads);
    }

    public int review(int paper, int person, boolean remarks)
            throws IndexOutOfBoundsException, IllegalArgumentException, IllegalStateException {
        Paper found = paperAt(paper);
        checkPerson(person);
        Draft draft = draftOf(found);
        if (!draft.hasReviewer(person) || draft.reviewed[person]) {
            throw new IllegalStateException("the person has no review to give");
        }
        if (found.inOrder && draft.nextReviewer() != person) {
            throw new IllegalStateException("it is not the person's turn");
        }
        draft.reviewed[person] = true;
        return remarks ? draft.addRemark() : NONE;
    }

    public int answer(int paper, int remark) throws IndexOutOfBoundsException, IllegalStateException {
        Paper found = paperAt(paper);
        // Without a draft the state is told, whatever the remark.
        Draft draft = draftOf(found);
        if (remark < 0 || remark >= draft.remarkCount) {
            throw new IndexOutOfBoundsException("no such remark in this round");
        }
        if (draft.answered[remark]) {
            throw new IllegalStateException("the remark is answered");
        }
        draft.answered[remark] = true;
        return draft.openRemarks();
    }

    public void approve(int paper, int person, int day)
            throws IndexOutOfBoundsException, IllegalArgumentException, IllegalStateException {
        Paper found = paperAt(paper);
        checkPerson(person);
        checkRange(day, today + 1, LAST_DAY);
        Draft draft = draftOf(found);
        if (draft.nextStep() != APPROVAL) {
            throw new IllegalStateException("the round is not over, or the draft is approved");
        }
        if (person == draft.author || !canApprove(person)) {
            throw new IllegalStateException("the person may not approve it");
        }
        draft.approved = true;
        draft.firstDay = day;
    }

    public int confirm(int paper, int person)
            throws IndexOutOfBoundsException, IllegalArgumentException, IllegalStateException {
        Paper found = paperAt(paper);
        checkPerson(person);
        Draft draft = draftOf(found);
        if (!draft.approved) {
            throw new IllegalStateException("the draft is not approved");
        }
        if (!draft.reads[person] || draft.confirmed[person]) {
            throw new IllegalStateException("the person has nothing to confirm");
        }
        draft.confirmed[person] = true;
        return countOf(draft.reads) - countOf(draft.confirmed);
    }

    // ---- days, looks, copies

    public int pass(int days) throws IllegalArgumentException, IllegalStateException {
        checkRange(days, 1, LONGEST_PASS);
        if (today + days > LAST_DAY) {
            throw new IllegalStateException("the day would be above 1000");
        }
        int begun = 0;
        for (int i = 0; i < days; i++) {
            today++;
            begun += beginDay();
        }
        return begun;
    }

    public boolean look(int paper) throws IndexOutOfBoundsException, IllegalStateException {
        Paper found = paperAt(paper);
        checkInForce(found);
        boolean had = found.needsLook(today, interval);
        found.restartInterval(today);
        return had;
    }

    public boolean isDue(int paper) throws IndexOutOfBoundsException {
        return paperAt(paper).needsLook(today, interval);
    }

    public int copy(int paper, int wall)
            throws IndexOutOfBoundsException, IllegalArgumentException, IllegalStateException {
        Paper found = paperAt(paper);
        checkRange(wall, 0, WALLS - 1);
        checkInForce(found);
        if (copies.count >= COPIES) {
            throw new IllegalStateException("there were 30 copies");
        }
        return copies.add(paper, found.newest(), wall);
    }

    public int takeDown(int copy) throws IndexOutOfBoundsException {
        if (copy < 0 || copy >= copies.count || copies.walls[copy] == NONE) {
            throw new IndexOutOfBoundsException("no such copy hangs");
        }
        int wall = copies.walls[copy];
        copies.walls[copy] = NONE;
        return wall;
    }

    public int outOfDate(int paper) throws IndexOutOfBoundsException {
        return copies.countOld(paper, paperAt(paper).newest());
    }

    // ---- what is

    public int day() {
        return today;
    }

    public int step(int paper) throws IndexOutOfBoundsException {
        Paper found = paperAt(paper);
        return found.hasDraft ? found.draft.nextStep() : NO_DRAFT;
    }

    public int inForce(int paper) throws IndexOutOfBoundsException {
        return paperAt(paper).newest();
    }

    public int text(int paper) throws IndexOutOfBoundsException {
        Paper found = paperAt(paper);
        int version = found.newest();
        return version < 0 ? NONE : found.texts[version];
    }

    public int inForceOn(int paper, int day) throws IndexOutOfBoundsException, IllegalArgumentException {
        Paper found = paperAt(paper);
        checkRange(day, 0, today);
        return found.versionOn(day);
    }

    public int since(int paper, int version) throws IndexOutOfBoundsException {
        Paper found = paperAt(paper);
        if (version < 0 || version >= found.versionCount) {
            throw new IndexOutOfBoundsException("no such version");
        }
        return found.firstDays[version];
    }

    public int waitsFor(int paper) throws IndexOutOfBoundsException {
        Paper found = paperAt(paper);
        return found.hasDraft ? found.draft.nextPerson() : NONE;
    }

    private static void checkPerson(int person) {
        checkRange(person, 0, PERSONS - 1);
    }

    private static void checkRange(int value, int least, int most) {
        if (value < least || value > most) {
            throw new IllegalArgumentException("out of range");
        }
    }

    private static void checkInForce(Paper paper) {
        if (paper.newest() == NONE) {
            throw new IllegalStateException("the paper has no version in force");
        }
    }

    private static int countOf(boolean[] marks) {
        int count = 0;
        for (int i = 0; i < marks.length; i++) {
            if (marks[i]) {
                count++;
            }
        }
        return count;
    }

    private Paper paperAt(int number) {
        Paper found = number >= 0 && number < PAPERS ? papers[number] : null;
        if (found == null) {
            throw new IndexOutOfBoundsException("no such paper");
        }
        return found;
    }

    private static Draft draftOf(Paper paper) {
        if (!paper.hasDraft) {
            throw new IllegalStateException("the paper has no draft");
        }
        return paper.draft;
    }

    private boolean canApprove(int person) {
        boolean can = mayApprove[person];
        for (int i = 0; i < PERSONS; i++) {
            can = can || mayApprove[i] && deputies[i] == person;
        }
        return can;
    }

    private int beginDay() {
        int begun = 0;
        for (int i = 0; i < PAPERS; i++) {
            Paper paper = papers[i];
            if (paper != null && paper.comeIntoForce(today)) {
                begun++;
                askForLooks(i);
            }
        }
        return begun;
    }

    private void askForLooks(int renewed) {
        for (int i = 0; i < PAPERS; i++) {
            Paper paper = papers[i];
            if (paper != null && paper.hangsOn[renewed] && paper.newest() != NONE) {
                paper.asked = true;
            }
        }
    }

    /** A paper with its log of versions; its one draft is used again and again. */
    private static final class Paper {
        final boolean inOrder;
        final boolean[] hangsOn;
        final Draft draft;
        final int[] texts;
        final int[] firstDays;
        int versionCount;
        boolean hasDraft;
        boolean asked;
        int intervalStart;

        Paper(boolean inOrder) {
            this.inOrder = inOrder;
            hangsOn = new boolean[PAPERS];
            draft = new Draft();
            texts = new int[VERSIONS];
            firstDays = new int[VERSIONS];
        }

        int newest() {
            return versionCount - 1;
        }

        int versionOn(int day) {
            for (int i = versionCount - 1; i >= 0; i--) {
                if (firstDays[i] <= day) {
                    return i;
                }
            }
            return NONE;
        }

        boolean comeIntoForce(int today) {
            if (!hasDraft || !draft.isReady(today) || versionCount >= VERSIONS) {
                return false;
            }
            texts[versionCount] = draft.text;
            firstDays[versionCount] = today;
            versionCount++;
            hasDraft = false;
            restartInterval(today);
            return true;
        }

        boolean needsLook(int today, int interval) {
            return versionCount > 0 && (asked || today - intervalStart >= interval);
        }

        void restartInterval(int today) {
            asked = false;
            intervalStart = today;
        }
    }

    /** A draft in its round. */
    private static final class Draft {
        final int[] reviewers;
        final boolean[] reviewed;
        final boolean[] answered;
        final boolean[] reads;
        final boolean[] confirmed;
        int author;
        int text;
        int round;
        int reviewerCount;
        int remarkCount;
        boolean approved;
        int firstDay;

        Draft() {
            reviewers = new int[REVIEWERS];
            reviewed = new boolean[PERSONS];
            answered = new boolean[REVIEWERS];
            reads = new boolean[PERSONS];
            confirmed = new boolean[PERSONS];
        }

        void begin(int newAuthor, int newText) {
            author = newAuthor;
            text = newText;
            round = 0;
            reviewerCount = 0;
            for (int i = 0; i < PERSONS; i++) {
                reads[i] = false;
            }
            beginRound();
        }

        void beginRound() {
            round++;
            remarkCount = 0;
            approved = false;
            for (int i = 0; i < PERSONS; i++) {
                reviewed[i] = false;
                confirmed[i] = false;
            }
        }

        boolean hasReviewer(int person) {
            for (int i = 0; i < reviewerCount; i++) {
                if (reviewers[i] == person) {
                    return true;
                }
            }
            return false;
        }

        int nextReviewer() {
            for (int i = 0; i < reviewerCount; i++) {
                if (!reviewed[reviewers[i]]) {
                    return reviewers[i];
                }
            }
            return NONE;
        }

        int nextReader() {
            for (int i = 0; i < PERSONS; i++) {
                if (reads[i] && !confirmed[i]) {
                    return i;
                }
            }
            return NONE;
        }

        int addRemark() {
            // Each reviewer reviews once a round, so that there are never more remarks than reviewers.
            int number = remarkCount;
            if (number < REVIEWERS) {
                answered[number] = false;
                remarkCount++;
            }
            return number;
        }

        int openRemarks() {
            int open = 0;
            for (int i = 0; i < remarkCount; i++) {
                if (!answered[i]) {
                    open++;
                }
            }
            return open;
        }

        int nextStep() {
            if (reviewerCount == 0 || nextReviewer() != NONE) {
                return REVIEW;
            }
            if (openRemarks() > 0) {
                return ANSWER;
            }
            if (!approved) {
                return APPROVAL;
            }
            return nextReader() != NONE ? CONFIRMATION : THE_DAY;
        }

        int nextPerson() {
            switch (nextStep()) {
                case REVIEW:
                    return nextReviewer();
                case ANSWER:
                    return author;
                case CONFIRMATION:
                    return nextReader();
                default:
                    return NONE;
            }
        }

        boolean isReady(int today) {
            return nextStep() == THE_DAY && firstDay <= today;
        }
    }

    /** All copies that ever hung; one that was taken down has no wall. */
    private static final class Copies {
        final int[] papers;
        final int[] versions;
        final int[] walls;
        int count;

        Copies() {
            papers = new int[COPIES];
            versions = new int[COPIES];
            walls = new int[COPIES];
        }

        int add(int paper, int version, int wall) {
            int number = count;
            if (number < COPIES) {
                papers[number] = paper;
                versions[number] = version;
                walls[number] = wall;
                count++;
            }
            return number;
        }

        int countOld(int paper, int inForce) {
            int old = 0;
            for (int i = 0; i < count; i++) {
                if (walls[i] != NONE && papers[i] == paper && versions[i] != inForce) {
                    old++;
                }
            }
            return old;
        }
    }
}
