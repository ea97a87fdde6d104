import java.util.NoSuchElementException;

/** A heap of objects that survives crashes; the numbered promises of its document say what each call answers. */
public final class StableHeap {
    private static final int ROOTS = 4;
    private static final int MOST_FIELDS = 4;
    private static final int MOST_ACTIVE = 3;
    private static final int SPACE_WORDS = 80;
    private static final int LOG_WORDS = 150;

    private static final int BEGINNING_WORDS = 1;
    private static final int MADE_WORDS = 2;
    private static final int SET_WORDS = 3;
    private static final int END_WORDS = 1;

    private final Lockable[] roots;
    private final Lockable[] objects;
    private final Lockable[] held;
    private final Transaction[] transactions;

    private int objectsThere;
    private int objectsHeld;
    private int handlesGiven;
    private int wordsUsed;
    private int wordsOfEnded;
    private int transactionsBegun;
    private int flips;

    public StableHeap() {
        roots = new Lockable[ROOTS];
        for (int i = 0; i < ROOTS; i++) {
            roots[i] = new Lockable(0, 1);
        }
        // An object has a word at least, so there are never more objects than words.
        objects = new Lockable[SPACE_WORDS];
        held = new Lockable[SPACE_WORDS];
        transactions = new Transaction[MOST_ACTIVE];
        for (int i = 0; i < MOST_ACTIVE; i++) {
            transactions[i] = new Transaction();
        }
    }

    public int begin() throws IllegalStateException, UnsupportedOperationException {
        Transaction beginning = unusedTransaction();
        writeRecord(beginning, BEGINNING_WORDS);
        transactionsBegun++;
        beginning.number = transactionsBegun;
        return transactionsBegun;
    }

    public int make(int transaction, int n) throws NoSuchElementException, IllegalArgumentException, IllegalStateException, UnsupportedOperationException {
        Transaction maker = activeTransaction(transaction);
        if (n < 0 || n > MOST_FIELDS) {
            throw new IllegalArgumentException("an object has 0 to 4 fields");
        }
        if (wordsUsed + 1 + n > SPACE_WORDS || objectsThere >= objects.length) {
            throw new IllegalStateException("there is no space");
        }
        writeRecord(maker, MADE_WORDS);
        handlesGiven++;
        Lockable made = new Lockable(handlesGiven, n);
        made.owner = maker.number;
        objects[objectsThere] = made;
        objectsThere++;
        wordsUsed += made.words();
        return handlesGiven;
    }

    public int setInt(int transaction, int object, int field, int value) throws NoSuchElementException, IndexOutOfBoundsException, IllegalStateException, UnsupportedOperationException {
        Transaction setter = activeTransaction(transaction);
        Lockable named = objectWith(object);
        Place place = fieldOf(named, field);
        refuseIfLockedByAnother(named, setter);
        writeRecord(setter, SET_WORDS);
        named.owner = setter.number;
        place.putNumber(value);
        return 1;
    }

    public int setReference(int transaction, int object, int field, int target) throws NoSuchElementException, IndexOutOfBoundsException, IllegalStateException, IllegalArgumentException, UnsupportedOperationException {
        Transaction setter = activeTransaction(transaction);
        Lockable named = objectWith(object);
        Place place = fieldOf(named, field);
        refer(setter, named, place, target);
        return 1;
    }

    public int setRoot(int transaction, int root, int target) throws NoSuchElementException, IndexOutOfBoundsException, IllegalStateException, IllegalArgumentException, UnsupportedOperationException {
        Transaction setter = activeTransaction(transaction);
        Lockable named = rootAt(root);
        refer(setter, named, named.places[0], target);
        return 1;
    }

    public int getInt(int transaction, int object, int field) throws NoSuchElementException, IndexOutOfBoundsException, IllegalStateException, ArithmeticException {
        Place place = readField(transaction, object, field);
        if (place.isReference) {
            throw new ArithmeticException("the field is a reference");
        }
        return place.number;
    }

    public int getReference(int transaction, int object, int field) throws NoSuchElementException, IndexOutOfBoundsException, IllegalStateException, ArithmeticException {
        Place place = readField(transaction, object, field);
        if (!place.isReference) {
            throw new ArithmeticException("the field is an int");
        }
        return handleOf(place.target);
    }

    public int getRoot(int transaction, int root) throws NoSuchElementException, IndexOutOfBoundsException, IllegalStateException {
        Transaction reader = activeTransaction(transaction);
        Lockable named = rootAt(root);
        refuseIfLockedByAnother(named, reader);
        named.owner = reader.number;
        return handleOf(named.places[0].target);
    }

    public int commit(int transaction) throws NoSuchElementException, UnsupportedOperationException {
        Transaction ending = activeTransaction(transaction);
        writeRecord(ending, END_WORDS);
        wordsOfEnded += ending.words;
        return end(ending, true);
    }

    public int abort(int transaction) throws NoSuchElementException {
        return end(activeTransaction(transaction), false);
    }

    public int checkpoint() {
        wordsOfEnded = 0;
        return wordsInLog();
    }

    public int crash() {
        int aborted = 0;
        for (int i = 0; i < MOST_ACTIVE; i++) {
            if (transactions[i].isActive()) {
                end(transactions[i], false);
                aborted++;
            }
        }
        wordsOfEnded = 0;
        return aborted;
    }

    public int collect(int copies) {
        findHeld();
        if (copies >= 0 && copies < objectsHeld) {
            return -1 - crash();
        }
        int usedBefore = wordsUsed;
        flip();
        checkpoint();
        return usedBefore - wordsUsed;
    }

    public int fields(int object) throws NoSuchElementException {
        return objectWith(object).places.length;
    }

    public int lockedBy(int object, int root) throws NoSuchElementException {
        if (object != 0) {
            return objectWith(object).owner;
        }
        if (root < 0 || root >= ROOTS) {
            throw new NoSuchElementException("there is no such root");
        }
        return roots[root].owner;
    }

    public int count(int what) throws IllegalArgumentException {
        switch (what) {
            case 0:
                return objectsThere;
            case 1:
                return handlesGiven;
            case 2:
                return wordsUsed;
            case 3:
                return wordsInLog();
            case 4:
                return activeTransactions();
            case 5:
                return transactionsBegun;
            case 6:
                return flips;
            case 7:
                findHeld();
                return objectsHeld;
            default:
                throw new IllegalArgumentException("there is no such count");
        }
    }

    private Transaction unusedTransaction() {
        for (int i = 0; i < MOST_ACTIVE; i++) {
            if (!transactions[i].isActive()) {
                return transactions[i];
            }
        }
        throw new IllegalStateException("3 transactions are active");
    }

    private Transaction activeTransaction(int number) {
        for (int i = 0; i < MOST_ACTIVE; i++) {
            if (transactions[i].isActive() && transactions[i].number == number) {
                return transactions[i];
            }
        }
        throw new NoSuchElementException("the transaction is not active");
    }

    private int activeTransactions() {
        int active = 0;
        for (int i = 0; i < MOST_ACTIVE; i++) {
            if (transactions[i].isActive()) {
                active++;
            }
        }
        return active;
    }

    private Lockable objectWith(int handle) {
        Lockable found = findObject(handle);
        if (found == null) {
            throw new NoSuchElementException("there is no object with the handle");
        }
        return found;
    }

    private Lockable findObject(int handle) {
        for (int i = 0; i < objectsThere; i++) {
            if (objects[i].handle == handle) {
                return objects[i];
            }
        }
        return null;
    }

    private static Place fieldOf(Lockable object, int field) {
        if (field < 0 || field >= object.places.length) {
            throw new IndexOutOfBoundsException("there is no such field");
        }
        return object.places[field];
    }

    private Lockable rootAt(int root) {
        if (root < 0 || root >= ROOTS) {
            throw new IndexOutOfBoundsException("there is no such root");
        }
        return roots[root];
    }

    private static int handleOf(Lockable target) {
        return target == null ? 0 : target.handle;
    }

    private static void refuseIfLockedByAnother(Lockable named, Transaction user) {
        if (named.owner != 0 && named.owner != user.number) {
            throw new IllegalStateException("another transaction has it locked");
        }
    }

    private Place readField(int transaction, int object, int field) {
        Transaction reader = activeTransaction(transaction);
        Lockable named = objectWith(object);
        Place place = fieldOf(named, field);
        refuseIfLockedByAnother(named, reader);
        named.owner = reader.number;
        return place;
    }

    private void refer(Transaction setter, Lockable named, Place place, int target) {
        refuseIfLockedByAnother(named, setter);
        Lockable referred = findObject(target);
        if (target != 0 && referred == null) {
            throw new IllegalArgumentException("there is no object to refer to");
        }
        writeRecord(setter, SET_WORDS);
        named.owner = setter.number;
        place.putReference(referred);
    }

    private int wordsInLog() {
        int words = wordsOfEnded;
        for (int i = 0; i < MOST_ACTIVE; i++) {
            words += transactions[i].words;
        }
        return words;
    }

    private void writeRecord(Transaction writer, int words) {
        if (wordsInLog() + words > LOG_WORDS) {
            throw new UnsupportedOperationException("there is no room in the log");
        }
        writer.words += words;
    }

    private int end(Transaction ending, boolean setsStay) {
        int unlocked = 0;
        for (int i = 0; i < ROOTS; i++) {
            unlocked += roots[i].unlock(ending.number, setsStay);
        }
        for (int i = 0; i < objectsThere; i++) {
            unlocked += objects[i].unlock(ending.number, setsStay);
        }
        ending.number = 0;
        ending.words = 0;
        return unlocked;
    }

    private void findHeld() {
        objectsHeld = 0;
        for (int i = 0; i < objectsThere; i++) {
            objects[i].isHeld = false;
        }
        for (int i = 0; i < ROOTS; i++) {
            holdTargets(roots[i]);
        }
        for (int i = 0; i < objectsThere; i++) {
            if (objects[i].owner != 0) {
                hold(objects[i]);
            }
        }
        // The row grows while it is gone through; each object enters it once.
        for (int i = 0; i < objectsHeld && i < held.length; i++) {
            holdTargets(held[i]);
        }
    }

    private void holdTargets(Lockable holder) {
        for (int i = 0; i < holder.places.length; i++) {
            hold(holder.places[i].target);
            hold(holder.places[i].formerTarget);
        }
    }

    private void hold(Lockable object) {
        if (object != null && !object.isHeld && objectsHeld < held.length) {
            object.isHeld = true;
            held[objectsHeld] = object;
            objectsHeld++;
        }
    }

    private void flip() {
        int kept = 0;
        wordsUsed = 0;
        for (int i = 0; i < objectsThere; i++) {
            if (objects[i].isHeld) {
                objects[kept] = objects[i];
                wordsUsed += objects[kept].words();
                kept++;
            }
        }
        objectsThere = kept;
        flips++;
    }

    /** A transaction; it is used again for a later one when it is over. */
    private static final class Transaction {
        int number;
        int words;

        boolean isActive() {
            return number != 0;
        }
    }

    /** An object, or a root, which has the handle 0 and one place: what is locked as one. */
    private static final class Lockable {
        final int handle;
        final Place[] places;
        int owner;
        boolean isHeld;

        Lockable(int handle, int n) {
            this.handle = handle;
            places = new Place[n];
            for (int i = 0; i < n; i++) {
                places[i] = new Place();
            }
        }

        int words() {
            return 1 + places.length;
        }

        int unlock(int transaction, boolean setsStay) {
            if (owner != transaction) {
                return 0;
            }
            owner = 0;
            for (int i = 0; i < places.length; i++) {
                if (!setsStay) {
                    places[i].takeBack();
                }
                places[i].forgetFormer();
            }
            return 1;
        }
    }

    /** What a field or root has in it, and what it had before the transaction that has it locked first set it. */
    private static final class Place {
        boolean isReference;
        int number;
        Lockable target;
        boolean isSet;
        boolean formerIsReference;
        int formerNumber;
        Lockable formerTarget;

        void putNumber(int value) {
            rememberFormer();
            isReference = false;
            number = value;
            target = null;
        }

        void putReference(Lockable referred) {
            rememberFormer();
            isReference = true;
            number = 0;
            target = referred;
        }

        void takeBack() {
            if (isSet) {
                isReference = formerIsReference;
                number = formerNumber;
                target = formerTarget;
            }
        }

        // What is remembered is held, so it must not outlive the transaction.
        void forgetFormer() {
            isSet = false;
            formerTarget = null;
        }

        private void rememberFormer() {
            if (!isSet) {
                isSet = true;
                formerIsReference = isReference;
                formerNumber = number;
                formerTarget = target;
            }
        }
    }
}
