/**
 * Three modules that run one program side by side. What they ask of the outside is voted on, their
 * memory has check bits and is gone over, and one that goes wrong is copied anew from another one.
 */
public final class VotedTriple {
    public static final int NONE = -1;

    private static final int MODULES = 3;
    private static final int REGISTERS = 8;
    private static final int WORDS = 32;
    private static final int WORD_BITS = 16;
    private static final int COUNTER_BITS = 6;
    private static final int MAX_STEPS_A_CALL = 2000;

    private static final int IN_STEP = 0;
    private static final int COPYING = 1;
    private static final int LEFT_OUT = 2;

    private static final int DIGEST_EVERY = 16;
    private static final int FORGIVE_EVERY = 4;
    private static final int BLAME_A_NAMING = 20;
    private static final int BLAME_TO_BE_OUT = 50;

    private final Program instructions = new Program();
    private final VotedModule[] modules = new VotedModule[MODULES];
    private final PerfectOne perfectOne = new PerfectOne();
    private final WordsIn wordsIn = new WordsIn();
    private final WordsOut wordsOut = new WordsOut();
    private boolean started;
    private boolean safe;
    private boolean singleAllowed;
    private int steps;
    private int stepsNotAlike;
    private int wordsTaken;

    public VotedTriple() {
        for (int m = 0; m < MODULES; m++) {
            modules[m] = new VotedModule();
        }
    }

    public boolean program(int i, int word) {
        return !started && instructions.put(i, word);
    }

    public boolean start() {
        if (!instructions.canRun()) {
            return false;
        }
        for (int m = 0; m < MODULES; m++) {
            modules[m].makeBlank(IN_STEP);
        }
        perfectOne.makeBlank();
        wordsIn.forget();
        wordsOut.forget();
        wordsTaken = 0;
        steps = 0;
        stepsNotAlike = 0;
        singleAllowed = false;
        safe = false;
        started = true;
        return true;
    }

    public int step(int n) throws IllegalStateException, IllegalArgumentException {
        if (!started) {
            throw new IllegalStateException("it is not started");
        }
        if (n < 1 || n > MAX_STEPS_A_CALL) {
            throw new IllegalArgumentException("n is not 1 .. 2000");
        }
        int done = 0;
        while (done < n && !safe) {
            doOneStep();
            done++;
        }
        return done;
    }

    public boolean input(int word) {
        return started && wordsIn.add(word & Code.WORD_MASK);
    }

    public int output(int i) throws IndexOutOfBoundsException {
        if (!wordsOut.keeps(i)) {
            throw new IndexOutOfBoundsException("no such word went out");
        }
        return wordsOut.kept[i];
    }

    public int perfect(int i) throws IndexOutOfBoundsException {
        if (!perfectOne.wordsOut.keeps(i)) {
            throw new IndexOutOfBoundsException("the perfect one put out no such word");
        }
        return perfectOne.wordsOut.kept[i];
    }

    public void flip(int m, int place, int index, int bit) throws IndexOutOfBoundsException {
        if (!hasModule(m) || !hasBit(place, index, bit)) {
            throw new IndexOutOfBoundsException("there is no such bit");
        }
        int turned = 1 << bit;
        if (place == 0) {
            modules[m].registers[index] ^= turned;
        } else if (place == 1) {
            modules[m].codes[index] ^= turned;
        } else {
            modules[m].counter = instructions.wrap(modules[m].counter ^ turned);
        }
    }

    public boolean freeze(int m, boolean on) {
        if (!hasModule(m)) {
            return false;
        }
        modules[m].frozen = on;
        return true;
    }

    public boolean skip(int m) {
        if (!hasModule(m)) {
            return false;
        }
        modules[m].toSkip = true;
        return true;
    }

    public boolean swap(int m) {
        if (!hasModule(m) || safe) {
            return false;
        }
        int others = countInStep() - (modules[m].status == IN_STEP ? 1 : 0);
        if (!canGoOnWith(others)) {
            return false;
        }
        modules[m].makeBlank(COPYING);
        return true;
    }

    public void allow(boolean single) {
        singleAllowed = single;
    }

    public int module(int m, int what) {
        if (!hasModule(m)) {
            return NONE;
        }
        VotedModule asked = modules[m];
        switch (what) {
            case 0: return asked.status;
            case 1: return asked.shownMark();
            case 2: return asked.blame;
            case 3: return asked.counter;
            case 4: return asked.putRight;
            case 5: return asked.timesNamed;
            default: return NONE;
        }
    }

    public int register(int m, int k) {
        if (!hasModule(m) || k < 0 || k >= REGISTERS) {
            return NONE;
        }
        return modules[m].registers[k];
    }

    public int code(int m, int word) {
        if (!hasModule(m) || word < 0 || word >= WORDS) {
            return NONE;
        }
        return modules[m].codes[word];
    }

    public int state(int what) {
        switch (what) {
            case 0: return currentMode();
            case 1: return steps;
            case 2: return stepsNotAlike;
            case 3: return wordsOut.count;
            case 4: return perfectOne.wordsOut.count;
            case 5: return wordsIn.count - wordsTaken;
            case 6: return singleAllowed ? 1 : 0;
            default: return NONE;
        }
    }

    private int currentMode() {
        if (!started) {
            return NONE;
        }
        return safe ? 0 : countInStep();
    }

    /** Before the start there are no modules to be asked for. */
    private boolean hasModule(int m) {
        return started && m >= 0 && m < MODULES;
    }

    private static boolean hasBit(int place, int index, int bit) {
        switch (place) {
            case 0: return isBelow(index, REGISTERS) && isBelow(bit, WORD_BITS);
            case 1: return isBelow(index, WORDS) && isBelow(bit, Code.BITS);
            case 2: return index == 0 && isBelow(bit, COUNTER_BITS);
            default: return false;
        }
    }

    private static boolean isBelow(int number, int bound) {
        return number >= 0 && number < bound;
    }

    private boolean canGoOnWith(int inStep) {
        return inStep > 1 || inStep == 1 && singleAllowed;
    }

    private int countInStep() {
        int count = 0;
        for (int m = 0; m < MODULES; m++) {
            if (modules[m].status == IN_STEP) {
                count++;
            }
        }
        return count;
    }

    /** The nine parts of a step; each one that can end it SAFE says whether the step goes on. */
    private void doOneStep() {
        steps++;
        perfectOne.doInstruction(instructions, wordsIn);
        doInstructions();
        int agreed = vote();
        if (agreed == NONE) {
            safe = true;
            return;
        }
        doWhatIsAgreed(modules[agreed]);
        storeInCopies();
        if (!scrub() || !compareDigests() || !blameNamed()) {
            safe = true;
            return;
        }
        copyOn();
        forgive();
    }

    private void doInstructions() {
        for (int m = 0; m < MODULES; m++) {
            modules[m].forgetLastStep();
            if (modules[m].status != IN_STEP) {
                continue;
            }
            if (modules[m].toSkip) {
                modules[m].toSkip = false;
                modules[m].passOver(instructions);
            } else {
                modules[m].execute(instructions);
            }
            if (modules[m].frozen) {
                modules[m].wishNothing();
            }
        }
    }

    /** Names those that are outvoted, and answers with a module whose wish is agreed, or NONE. */
    private int vote() {
        int lowest = lowestTrusted();
        if (lowest == NONE) {
            return NONE;
        }
        for (int m = 0; m < MODULES; m++) {
            modules[m].ballot = modules[m].wishAsBallot();
        }
        if (countBallots(modules[lowest].ballot) == countTrusted()) {
            return lowest;
        }
        stepsNotAlike++;
        int agreed = oneOfTheAlikePair();
        if (agreed == NONE) {
            agreed = soundOneOfTwo();
        }
        if (agreed != NONE) {
            nameAllUnlike(modules[agreed].ballot);
        }
        return agreed;
    }

    /** Of three that are not all alike: the lowest one of the two that are; else NONE. */
    private int oneOfTheAlikePair() {
        for (int m = 0; m < MODULES; m++) {
            if (modules[m].isTrusted() && countBallots(modules[m].ballot) == 2) {
                return m;
            }
        }
        return NONE;
    }

    /** Of two that are not alike: the one that read no spoilt code, if just the other one did. */
    private int soundOneOfTwo() {
        int sound = NONE;
        int soundOnes = 0;
        for (int m = 0; m < MODULES; m++) {
            if (modules[m].isTrusted() && !modules[m].readSpoilt) {
                sound = m;
                soundOnes++;
            }
        }
        return soundOnes == 1 && countTrusted() == 2 ? sound : NONE;
    }

    private void nameAllUnlike(int ballot) {
        for (int m = 0; m < MODULES; m++) {
            if (modules[m].isTrusted() && modules[m].ballot != ballot) {
                modules[m].blameLater();
            }
        }
    }

    private int countBallots(int ballot) {
        int count = 0;
        for (int m = 0; m < MODULES; m++) {
            if (modules[m].isTrusted() && modules[m].ballot == ballot) {
                count++;
            }
        }
        return count;
    }

    private int countTrusted() {
        int count = 0;
        for (int m = 0; m < MODULES; m++) {
            if (modules[m].isTrusted()) {
                count++;
            }
        }
        return count;
    }

    private int lowestTrusted() {
        for (int m = 0; m < MODULES; m++) {
            if (modules[m].isTrusted()) {
                return m;
            }
        }
        return NONE;
    }

    private void doWhatIsAgreed(VotedModule agreed) {
        int wordIn = 0;
        if (agreed.wish == Processor.WISH_IN) {
            wordIn = takeWord();
        } else if (agreed.wish == Processor.WISH_OUT) {
            wordsOut.add(agreed.wishedWord);
        }
        for (int m = 0; m < MODULES; m++) {
            if (modules[m].status == IN_STEP) {
                modules[m].receive(wordIn);
            }
        }
    }

    private int takeWord() {
        int word = wordsIn.wordAt(wordsTaken);
        if (wordsTaken < wordsIn.count) {
            wordsTaken++;
        }
        return word;
    }

    /** What is copied already must not grow old while the rest is being copied. */
    private void storeInCopies() {
        int lowest = lowestTrusted();
        if (lowest == NONE || modules[lowest].storedAt == NONE) {
            return;
        }
        int place = modules[lowest].storedAt;
        for (int m = 0; m < MODULES; m++) {
            if (modules[m].status == COPYING && place < modules[m].mark) {
                modules[m].writeWord(place, modules[lowest].storedWord);
            }
        }
    }

    private boolean scrub() {
        int place = steps % WORDS;
        int spoilt = 0;
        for (int m = 0; m < MODULES; m++) {
            modules[m].scrubFoundSpoilt = modules[m].isTrusted() && modules[m].findsSpoilt(place);
            if (modules[m].scrubFoundSpoilt) {
                spoilt++;
            }
        }
        if (spoilt == countTrusted()) {
            return false;
        }
        for (int m = 0; m < MODULES; m++) {
            if (modules[m].scrubFoundSpoilt) {
                modules[m].blameLater();
            }
        }
        return true;
    }

    private boolean compareDigests() {
        int lowest = lowestTrusted();
        if (steps % DIGEST_EVERY != 0 || lowest == NONE) {
            return true;
        }
        for (int m = 0; m < MODULES; m++) {
            modules[m].ballot = modules[m].digest();
        }
        if (countBallots(modules[lowest].ballot) == countTrusted()) {
            return true;
        }
        int agreed = oneOfTheAlikePair();
        if (agreed == NONE) {
            return false;
        }
        nameAllUnlike(modules[agreed].ballot);
        return true;
    }

    private boolean blameNamed() {
        for (int m = 0; m < MODULES; m++) {
            if (modules[m].named) {
                modules[m].takeBlame();
            }
        }
        return canGoOnWith(countInStep());
    }

    private void copyOn() {
        // Chosen once: one that gets IN STEP right here is not yet a source for the others.
        int source = lowestTrusted();
        if (source == NONE) {
            return;
        }
        for (int m = 0; m < MODULES; m++) {
            if (modules[m].status == COPYING && !modules[m].named) {
                modules[m].copyNextFrom(modules[source]);
            }
        }
    }

    private void forgive() {
        if (steps % FORGIVE_EVERY != 0) {
            return;
        }
        for (int m = 0; m < MODULES; m++) {
            if (modules[m].blame > 0) {
                modules[m].blame--;
            }
        }
    }

    /** The code of a word: check bits that find two wrong bits and put one wrong bit right. */
    private static final class Code {
        static final int BITS = 22;
        static final int WORD_MASK = 0xFFFF;

        /** For each check bit 1, 2, 4, 8, 16 the bits 1 .. 21 whose numbers have it. */
        private static final int[] CHECKED_BITS = {0x2AAAAA, 0x0CCCCC, 0x30F0F0, 0x00FF00, 0x3F0000};

        private Code() {
        }

        static int ofWord(int word) {
            int made = (word & 0x0001) << 3 | (word & 0x000E) << 4 | (word & 0x07F0) << 5 | (word & 0xF800) << 6;
            int missing = exclusiveOr(made);
            for (int k = 0; k < CHECKED_BITS.length; k++) {
                if ((missing >> k & 1) != 0) {
                    made |= 1 << (1 << k);
                }
            }
            return made | Integer.bitCount(made) & 1;
        }

        static int wordOf(int code) {
            return code >> 3 & 0x0001 | code >> 4 & 0x000E | code >> 5 & 0x07F0 | code >> 6 & 0xF800;
        }

        /** The exclusive or of the numbers of all bits 1 .. 21 that are set. */
        static int exclusiveOr(int code) {
            int numbers = 0;
            for (int k = 0; k < CHECKED_BITS.length; k++) {
                numbers |= (Integer.bitCount(code & CHECKED_BITS[k]) & 1) << k;
            }
            return numbers;
        }
    }

    /** The instructions, of which only such are taken as can be done. */
    private static final class Program {
        static final int MOST = 64;

        static final int SET = 0;
        static final int ADD = 1;
        static final int SUB = 2;
        static final int XOR = 3;
        static final int SHIFT = 4;
        static final int LOAD = 5;
        static final int STORE = 6;
        static final int ZERO = 7;
        static final int GO = 8;
        static final int IN = 9;
        static final int OUT = 10;

        private final int[] words = new int[MOST];
        private int count;

        boolean put(int i, int word) {
            if (i < 0 || i > count || i >= MOST || !isInstruction(word)) {
                return false;
            }
            words[i] = word;
            if (i == count) {
                count++;
            }
            return true;
        }

        boolean canRun() {
            for (int i = 0; i < count; i++) {
                int op = opOf(words[i]);
                if ((op == ZERO || op == GO) && bOf(words[i]) >= count) {
                    return false;
                }
            }
            return count > 0;
        }

        int instructionAt(int i) {
            return words[wrap(i)];
        }

        int wrap(int i) {
            return count > 0 ? i % count : 0;
        }

        private static boolean isInstruction(int word) {
            switch (opOf(word)) {
                case SET:
                case ZERO:
                case IN:
                case OUT:
                    return isRegister(aOf(word));
                case ADD:
                case SUB:
                case XOR:
                case SHIFT:
                    return isRegister(aOf(word)) && isRegister(bOf(word)) && isRegister(cOf(word));
                case LOAD:
                case STORE:
                    return isRegister(aOf(word)) && isRegister(bOf(word));
                case GO:
                    return true;
                default:
                    return false;
            }
        }

        private static boolean isRegister(int number) {
            return number < REGISTERS;
        }

        static int opOf(int word) {
            return word >>> 24;
        }

        static int aOf(int word) {
            return word >>> 16 & 0xFF;
        }

        static int bOf(int word) {
            return word >>> 8 & 0xFF;
        }

        static int cOf(int word) {
            return word & 0xFF;
        }
    }

    /** What a module and the perfect one have in common: registers, a counter and the instructions. */
    private abstract static class Processor {
        static final int WISH_NOTHING = 0;
        static final int WISH_IN = 1;
        static final int WISH_OUT = 2;

        final int[] registers = new int[REGISTERS];
        int counter;
        int wish;
        int wishedWord;
        /** The register that waits for a word in, the place and the word stored: of this step; or NONE. */
        int inRegister;
        int storedAt;
        int storedWord;

        abstract int readWord(int place);

        abstract void writeWord(int place, int word);

        final void clearProcessor() {
            for (int k = 0; k < REGISTERS; k++) {
                registers[k] = 0;
            }
            counter = 0;
        }

        final void clearEffects() {
            wishNothing();
            inRegister = NONE;
            storedAt = NONE;
        }

        final void wishNothing() {
            wish = WISH_NOTHING;
            wishedWord = 0;
        }

        final void passOver(Program program) {
            counter = program.wrap(counter + 1);
        }

        final void execute(Program program) {
            int instruction = program.instructionAt(counter);
            passOver(program);
            int a = Program.aOf(instruction);
            int b = Program.bOf(instruction);
            int c = Program.cOf(instruction);
            switch (Program.opOf(instruction)) {
                case Program.SET:
                    registers[a] = b * 256 + c;
                    break;
                case Program.LOAD:
                    registers[a] = readWord((registers[b] + c) % WORDS);
                    break;
                case Program.STORE:
                    storedAt = (registers[b] + c) % WORDS;
                    storedWord = registers[a];
                    writeWord(storedAt, storedWord);
                    break;
                case Program.ZERO:
                    counter = registers[a] == 0 ? b : counter;
                    break;
                case Program.GO:
                    counter = b;
                    break;
                case Program.IN:
                    wish = WISH_IN;
                    inRegister = a;
                    break;
                case Program.OUT:
                    wish = WISH_OUT;
                    wishedWord = registers[a];
                    break;
                default:
                    registers[a] = reckon(Program.opOf(instruction), registers[b], registers[c]);
                    break;
            }
        }

        final void receive(int word) {
            if (inRegister != NONE) {
                registers[inRegister] = word;
            }
        }

        private static int reckon(int op, int left, int right) {
            switch (op) {
                case Program.ADD: return left + right & Code.WORD_MASK;
                case Program.SUB: return left - right & Code.WORD_MASK;
                case Program.XOR: return left ^ right;
                default: return left >>> (right & 15);
            }
        }
    }

    /** The computer that cannot go wrong. */
    private static final class PerfectOne extends Processor {
        final WordsOut wordsOut = new WordsOut();
        private final int[] words = new int[WORDS];
        private int wordsTaken;

        void makeBlank() {
            clearProcessor();
            for (int place = 0; place < WORDS; place++) {
                words[place] = 0;
            }
            wordsOut.forget();
            wordsTaken = 0;
        }

        void doInstruction(Program program, WordsIn wordsIn) {
            clearEffects();
            execute(program);
            if (wish == WISH_IN) {
                receive(wordsIn.wordAt(wordsTaken));
                wordsTaken += wordsTaken < wordsIn.count ? 1 : 0;
            } else if (wish == WISH_OUT) {
                wordsOut.add(wishedWord);
            }
        }

        @Override
        int readWord(int place) {
            return words[place];
        }

        @Override
        void writeWord(int place, int word) {
            words[place] = word;
        }
    }

    /** One of the three. */
    private static final class VotedModule extends Processor {
        final int[] codes = new int[WORDS];
        int status;
        int mark;
        int blame;
        boolean frozen;
        boolean toSkip;
        int putRight;
        int timesNamed;
        /** What came of the step that is being done. */
        boolean named;
        boolean readSpoilt;
        boolean scrubFoundSpoilt;
        int ballot;

        void makeBlank(int newStatus) {
            clearProcessor();
            for (int place = 0; place < WORDS; place++) {
                writeWord(place, 0);
            }
            status = newStatus;
            mark = 0;
            blame = 0;
            frozen = false;
            toSkip = false;
            putRight = 0;
            timesNamed = 0;
            forgetLastStep();
        }

        boolean isTrusted() {
            return status == IN_STEP && !named;
        }

        int shownMark() {
            if (status == COPYING) {
                return mark;
            }
            return status == IN_STEP ? WORDS : 0;
        }

        void forgetLastStep() {
            clearEffects();
            named = false;
            readSpoilt = false;
        }

        /** Two of these are equal just if the wishes, and having read a spoilt code, are alike. */
        int wishAsBallot() {
            return (wish * 2 + (readSpoilt ? 1 : 0)) << WORD_BITS | wishedWord;
        }

        int digest() {
            int made = counter;
            for (int k = 0; k < REGISTERS; k++) {
                int turned = registers[k] << k | registers[k] >>> (WORD_BITS - k);
                made ^= turned & Code.WORD_MASK;
            }
            return made;
        }

        @Override
        int readWord(int place) {
            if (findsSpoilt(place)) {
                readSpoilt = true;
                return 0;
            }
            return Code.wordOf(codes[place]);
        }

        @Override
        void writeWord(int place, int word) {
            codes[place] = Code.ofWord(word);
        }

        /** Reads a code, and puts it right in the memory if it can be. */
        boolean findsSpoilt(int place) {
            int wrongBit = Code.exclusiveOr(codes[place]);
            if ((Integer.bitCount(codes[place]) & 1) == 0) {
                return wrongBit != 0;
            }
            if (wrongBit >= Code.BITS) {
                return true;
            }
            codes[place] ^= 1 << wrongBit;
            putRight++;
            return false;
        }

        /** It is NAMED; the blame follows when the step has named all that it names. */
        void blameLater() {
            named = true;
            timesNamed++;
        }

        void takeBlame() {
            blame += BLAME_A_NAMING;
            status = blame >= BLAME_TO_BE_OUT ? LEFT_OUT : COPYING;
            mark = 0;
        }

        void copyNextFrom(VotedModule source) {
            if (mark < WORDS) {
                codes[mark] = source.codes[mark];
                mark++;
            }
            if (mark == WORDS) {
                System.arraycopy(source.registers, 0, registers, 0, REGISTERS);
                counter = source.counter;
                status = IN_STEP;
            }
        }
    }

    /** The words that came in since the start, those that were taken among them. */
    private static final class WordsIn {
        static final int MOST = 64;

        private final int[] words = new int[MOST];
        int count;

        void forget() {
            count = 0;
        }

        boolean add(int word) {
            if (count >= MOST) {
                return false;
            }
            words[count] = word;
            count++;
            return true;
        }

        /** 0 if no such word has come. */
        int wordAt(int i) {
            return i >= 0 && i < count ? words[i] : 0;
        }
    }

    /** The words that went out: all are counted, the first ones are kept. */
    private static final class WordsOut {
        static final int MOST_KEPT = 300;

        final int[] kept = new int[MOST_KEPT];
        int count;

        void forget() {
            count = 0;
        }

        void add(int word) {
            if (count < MOST_KEPT) {
                kept[count] = word;
            }
            count++;
        }

        boolean keeps(int i) {
            return i >= 0 && i < count && i < MOST_KEPT;
        }
    }
}
