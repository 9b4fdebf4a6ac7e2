import java.math.BigInteger;
import java.util.ArrayDeque;
import java.util.ArrayList;
import java.util.Arrays;
import java.util.Deque;
import java.util.List;
import java.util.Random;
import java.util.regex.Pattern;

/** Random runs of calls, each answer held against a slow model written straight from the document's words. */
public final class ModelTest {
    private static final int RUNS = 1500;
    private static final int CALLS = 100;
    private static final int WHOLE_LIVES = 150;
    private static final int MOST_CALLS = 512;
    private static final int MOST_CALLS_TO_TELL = 1 + 60 + 5 + 2;
    private static final String SIGNS = "Q0123456789PAS-";
    private static int wrong = 0;

    public static void main(String[] args) {
        Random random = new Random(20261118L);
        for (int run = 0; run < RUNS && wrong < 20; run++) {
            new Run(run, random).play();
        }
        for (int run = RUNS; run < RUNS + WHOLE_LIVES && wrong < 20; run++) {
            new Run(run, random).liveOut();
        }
        System.out.println(wrong == 0 ? "all answers are as the model's" : wrong + " answers are not as the model's");
        if (wrong != 0) {
            System.exit(1);
        }
    }

    private static final class Run {
        final int number;
        final Random random;
        final SaidLeast real = new SaidLeast();
        final Model model = new Model();
        final List<String> told = new ArrayList<>();

        Run(int number, Random random) {
            this.number = number;
            this.random = random;
        }

        void play() {
            int before = wrong;
            if (random.nextInt(30) != 0) {
                tell(randomText(false));
            }
            for (int i = 0; i < CALLS && wrong == before; i++) {
                call(random.nextInt(40));
            }
            for (int what = 0; what <= 10 && wrong == before; what++) {
                due("about(" + what + ")", real.about(what), model.about(what));
            }
        }

        /** An object answers as it should up to its last promised call. */
        void liveOut() {
            int before = wrong;
            tell(randomText(false));
            while (told.size() < MOST_CALLS && wrong == before) {
                boolean canTell = told.size() + MOST_CALLS_TO_TELL <= MOST_CALLS;
                call(canTell ? random.nextInt(40) : 1 + random.nextInt(39));
            }
        }

        void due(String call, long got, long want) {
            told.add(call + " = " + want);
            if (got != want) {
                wrong++;
                System.out.println("run " + number + ": " + String.join("; ", told) + " BUT WAS " + got);
            }
        }

        void tell(String text) {
            due("wipe()", real.wipe(), model.wipe());
            int place = 0;
            while (place < text.length()) {
                int n = Math.min(text.length() - place, 1 + random.nextInt(8));
                long v = random.nextLong();
                for (int i = 0; i < n; i++) {
                    v = v << 8 | text.charAt(place + i);
                }
                due("write(" + n + ", " + v + ")", real.write(n, v), model.write(n, v));
                place += n;
            }
            due("fault() of " + text, real.fault(), model.fault());
            due("parlour()", real.parlour(), model.parlour());
        }

        /** Close by in words, so that turns change hands; sometimes spoilt. */
        String randomText(boolean spoilt) {
            StringBuilder text = new StringBuilder("Q").append(random.nextInt(3));
            int people = random.nextInt(7);
            int sayings = people == 0 ? 0 : random.nextInt(9);
            int base = random.nextInt(4) == 0 ? random.nextInt(96) : random.nextInt(6);
            int spread = 1 + random.nextInt(4);
            int mostWords = 1 + random.nextInt(9);
            int mostWorth = random.nextInt(10);
            List<Integer> free = new ArrayList<>();
            int toldPeople = 0;
            int toldSayings = 0;
            while (toldPeople < people || toldSayings < sayings) {
                boolean isPerson = toldPeople == 0 || toldPeople < people && random.nextInt(3) != 0 || toldSayings == sayings;
                if (isPerson) {
                    int words = base + random.nextInt(spread);
                    text.append(random.nextInt(4) == 0 ? 'A' : 'P').append(words / 10).append(words % 10);
                    toldPeople++;
                } else {
                    text.append('S').append(random.nextInt(toldPeople)).append(1 + random.nextInt(mostWords));
                    text.append(random.nextInt(mostWorth + 1));
                    if (!free.isEmpty() && random.nextInt(2) == 0) {
                        text.append(free.remove(random.nextInt(free.size())));
                    } else {
                        text.append('-');
                    }
                    free.add(toldSayings++);
                }
            }
            if (spoilt) {
                int place = random.nextInt(text.length());
                char sign = random.nextInt(8) == 0 ? (char) random.nextInt(256) : SIGNS.charAt(random.nextInt(SIGNS.length()));
                switch (random.nextInt(4)) {
                    case 0: text.setCharAt(place, sign); break;
                    case 1: text.setLength(place); break;
                    case 2: text.insert(place, sign); break;
                    default: text.append(sign); break;
                }
            }
            return text.toString();
        }

        int about(int count) {
            return random.nextInt(count + 2) - (random.nextInt(3) == 0 ? 1 : 0);
        }

        void call(int kind) {
            int p = random.nextInt(6) == 0 ? about(6) : random.nextInt(Math.max(1, model.people.size()));
            int s = random.nextInt(6) == 0 ? about(8) : random.nextInt(Math.max(1, model.sayings.size()));
            switch (kind) {
                case 0: if (random.nextInt(4) == 0) tell(randomText(random.nextInt(3) != 0)); break;
                case 1: {
                    int n = about(8);
                    long v = random.nextLong();
                    due("write(" + n + ", " + v + ")", real.write(n, v), model.write(n, v));
                    break;
                }
                case 2: due("fault()", real.fault(), model.fault()); break;
                case 3: case 4: { int w = about(10); due("about(" + w + ")", real.about(w), model.about(w)); break; }
                case 5: case 6: { int w = about(3); due("person(" + p + "," + w + ")", real.person(p, w), model.person(p, w)); break; }
                case 7: case 8: { int w = about(4); due("saying(" + s + "," + w + ")", real.saying(s, w), model.saying(s, w)); break; }
                case 9: { int w = about(2); due("law(" + w + ")", real.law(w), model.law(w)); break; }
                case 10: due("may(" + s + ")", real.may(s), model.may(s)); break;
                case 11: case 12: case 13: case 14: case 15: due("say(" + s + ")", real.say(s), model.say(s)); break;
                case 16: case 17: case 18: {
                    int n = random.nextInt(5) == 0 ? about(9) : 1 + random.nextInt(2);
                    due("talk(" + p + "," + n + ")", real.talk(p, n), model.talk(p, n));
                    break;
                }
                case 19: case 20: due("come(" + p + ")", real.come(p), model.come(p)); break;
                case 21: due("go(" + p + ")", real.go(p), model.go(p)); break;
                case 22: case 23: due("undo()", real.undo(), model.undo()); break;
                case 24: case 25: case 26: judge(); break;
                case 27: { int t = random.nextInt(5) == 0 ? about(72) : about(30); due("most(" + t + ")", real.most(t), model.most(t)); break; }
                case 28: case 29: {
                    int t = random.nextInt(5) == 0 ? about(72) : about(30);
                    int i = about(8);
                    due("mostAt(" + t + "," + i + ")", real.mostAt(t, i), model.mostAt(t, i));
                    break;
                }
                case 30: case 31: due("soon(" + s + ")", real.soon(s), model.soon(s)); break;
                case 32: due("need(" + p + ")", real.need(p), model.need(p)); break;
                case 33: due("each()", real.each(), model.each()); break;
                case 34: out(); break;
                case 35: case 36: {
                    int n = about(6);
                    int x = about(10);
                    boolean upper = random.nextBoolean();
                    due("chance(" + p + "," + n + "," + x + "," + upper + ")", real.chance(p, n, x, upper), model.chance(p, n, x, upper));
                    break;
                }
                case 37: { int k = about(1); due("keep(" + k + ")", real.keep(k), model.keep(k)); break; }
                case 38: { int k = about(1); due("again(" + k + ")", real.again(k), model.again(k)); break; }
                default: if (random.nextInt(10) == 0) due("wipe()", real.wipe(), model.wipe()); break;
            }
        }

        void out() {
            if (model.countThere() > 4 && random.nextInt(10) != 0) {
                return;
            }
            int t = random.nextInt(3) == 0 ? about(54) : about(20);
            int all = (1 << model.people.size()) - 1;
            int people = random.nextInt(3) == 0 ? random.nextInt(66) - 1 : random.nextInt(3) == 0 ? model.least() : random.nextInt(64) & all;
            due("out(" + t + "," + people + ")", real.out(t, people), model.out(t, people));
        }

        /** Mostly rows that go on as long as they can, so that long ones are judged too. */
        void judge() {
            int n = random.nextInt(10) == 0 ? about(9) : 1 + random.nextInt(8);
            long row = random.nextInt(10) == 0 ? -1 : 0;
            Model.Moment moment = model.moment();
            for (int i = 0; i < n; i++) {
                int figure = random.nextInt(12) == 0 ? random.nextInt(10) : model.randomOpen(random);
                row = row * 10 + figure;
                if (figure >= 0 && figure < model.sayings.size() && model.allowed(figure)) {
                    model.utter(figure);
                }
            }
            model.restore(moment);
            if (random.nextInt(20) == 0) {
                row = row * 10 + 1;
            }
            int figures = (int) Math.max(-5, Math.min(Integer.MAX_VALUE, row));
            due("judge(" + n + "," + figures + ")", real.judge(n, figures), model.judge(n, figures));
        }
    }

    private static final class Person {
        int words;
        boolean there;
    }

    private static final class Saying {
        int person, words, worth, answers;
        boolean said;
    }

    private static final class Model {
        private static final Pattern FORM = Pattern.compile("Q[0-2]([PA][0-9][0-9]|S[0-5][1-9][0-9][-0-7])*", Pattern.DOTALL);
        private static final String[] ENDINGS = {"", "Q0", "0", "00", "010-", "10-", "0-", "-"};

        String text = "";
        List<Person> people = new ArrayList<>();
        List<Saying> sayings = new ArrayList<>();
        int law = 0;
        int last = -9;
        Deque<Moment> acts = new ArrayDeque<>();
        Moment[] slots = new Moment[2];
        int[] slotLaws = new int[2];

        static final class Moment {
            int[] words;
            boolean[] there;
            boolean[] said;
            int last;
        }

        Moment moment() {
            Moment m = new Moment();
            m.words = people.stream().mapToInt(p -> p.words).toArray();
            m.there = new boolean[people.size()];
            m.said = new boolean[sayings.size()];
            for (int i = 0; i < m.there.length; i++) m.there[i] = people.get(i).there;
            for (int i = 0; i < m.said.length; i++) m.said[i] = sayings.get(i).said;
            m.last = last;
            return m;
        }

        void restore(Moment m) {
            for (int i = 0; i < m.there.length; i++) {
                people.get(i).words = m.words[i];
                people.get(i).there = m.there[i];
            }
            for (int i = 0; i < m.said.length; i++) sayings.get(i).said = m.said[i];
            last = m.last;
        }

        int write(int n, long v) {
            if (n < 1 || n > 8) return -2;
            if (text.length() + n > 64) return -4;
            for (int i = n - 1; i >= 0; i--) text += (char) (v >> 8 * i & 255);
            return text.length();
        }

        int wipe() {
            int before = text.length();
            text = "";
            return before;
        }

        int fault() {
            for (int k = 1; k <= text.length(); k++) {
                if (!canBecome(text.substring(0, k))) return k - 1;
            }
            return isParlour(text) ? -9 : text.length();
        }

        static boolean canBecome(String prefix) {
            return Arrays.stream(ENDINGS).anyMatch(ending -> isParlour(prefix + ending));
        }

        static boolean isParlour(String t) {
            return FORM.matcher(t).matches() && read(t, new ArrayList<>(), new ArrayList<>());
        }

        static boolean read(String t, List<Person> people, List<Saying> sayings) {
            List<Integer> answered = new ArrayList<>();
            for (int i = 2; i < t.length(); ) {
                if (t.charAt(i) == 'S') {
                    Saying s = new Saying();
                    s.person = t.charAt(i + 1) - '0';
                    s.words = t.charAt(i + 2) - '0';
                    s.worth = t.charAt(i + 3) - '0';
                    s.answers = t.charAt(i + 4) == '-' ? -9 : t.charAt(i + 4) - '0';
                    if (s.person >= people.size() || s.answers >= sayings.size() || answered.contains(s.answers)) return false;
                    if (s.answers != -9) answered.add(s.answers);
                    sayings.add(s);
                    i += 5;
                } else {
                    Person p = new Person();
                    p.there = t.charAt(i) == 'P';
                    p.words = Integer.parseInt(t.substring(i + 1, i + 3));
                    people.add(p);
                    i += 3;
                }
            }
            return people.size() <= 6 && sayings.size() <= 8;
        }

        int parlour() {
            if (fault() != -9) return -3;
            people = new ArrayList<>();
            sayings = new ArrayList<>();
            read(text, people, sayings);
            law = text.charAt(1) - '0';
            last = -9;
            acts.clear();
            slots = new Moment[2];
            return people.size();
        }

        int countThere() {
            return (int) people.stream().filter(p -> p.there).count();
        }

        boolean isLeast(Person one) {
            return one.there && people.stream().noneMatch(p -> p.there && p.words < one.words);
        }

        int least() {
            int bits = 0;
            for (int i = 0; i < people.size(); i++) if (isLeast(people.get(i))) bits |= 1 << i;
            return bits;
        }

        int saidBits() {
            int bits = 0;
            for (int i = 0; i < sayings.size(); i++) if (sayings.get(i).said) bits |= 1 << i;
            return bits;
        }

        int wordsThere() {
            return people.stream().filter(p -> p.there).mapToInt(p -> p.words).sum();
        }

        int about(int what) {
            if (what == 0) return people.size();
            if (what == 1) return sayings.size();
            if (what == 2) return law;
            if (what == 3) {
                int bits = 0;
                for (int i = 0; i < people.size(); i++) if (people.get(i).there) bits |= 1 << i;
                return bits;
            }
            if (what == 4) return least();
            if (what == 5) return saidBits();
            if (what == 6) return sayings.stream().filter(s -> s.said).mapToInt(s -> s.worth).sum();
            if (what == 7) return acts.size();
            if (what == 8) return wordsThere();
            if (what == 9) return last;
            if (what == 10) return text.length();
            return -2;
        }

        int person(int person, int what) {
            if (person < 0 || person >= people.size()) return -1;
            Person p = people.get(person);
            if (what == 0) return p.words;
            if (what == 1) return p.there ? 1 : 0;
            if (what == 2) return isLeast(p) ? 1 : 0;
            if (what == 3) return sayings.stream().filter(s -> s.said && s.person == person).mapToInt(s -> s.worth).sum();
            return -2;
        }

        int saying(int saying, int what) {
            if (saying < 0 || saying >= sayings.size()) return -1;
            Saying s = sayings.get(saying);
            if (what == 0) return s.person;
            if (what == 1) return s.words;
            if (what == 2) return s.worth;
            if (what == 3) return s.answers;
            if (what == 4) return s.said ? 1 : 0;
            return -2;
        }

        int law(int next) {
            if (next < 0 || next > 2) return -2;
            int before = law;
            law = next;
            return before;
        }

        boolean allowed(int saying) {
            Saying s = sayings.get(saying);
            Person p = people.get(s.person);
            if (s.said || !p.there) return false;
            return s.answers == -9 ? isLeast(p) : last == s.answers;
        }

        void utter(int saying) {
            Saying s = sayings.get(saying);
            s.said = true;
            people.get(s.person).words += s.words;
            last = saying;
        }

        int randomOpen(Random random) {
            List<Integer> open = new ArrayList<>();
            for (int i = 0; i < sayings.size(); i++) if (allowed(i)) open.add(i);
            return open.isEmpty() ? random.nextInt(10) : open.get(random.nextInt(open.size()));
        }

        void remember() {
            acts.addLast(moment());
            if (acts.size() > 12) acts.removeFirst();
        }

        int may(int saying) {
            if (saying < 0 || saying >= sayings.size()) return -1;
            return allowed(saying) ? 1 : 0;
        }

        int say(int saying) {
            if (saying < 0 || saying >= sayings.size()) return -1;
            if (!allowed(saying)) return -3;
            remember();
            utter(saying);
            return people.get(sayings.get(saying).person).words;
        }

        int talk(int person, int n) {
            if (person < 0 || person >= people.size()) return -1;
            if (n < 1 || n > 9) return -2;
            if (!isLeast(people.get(person))) return -3;
            remember();
            last = -9;
            return people.get(person).words += n;
        }

        int come(int person) {
            if (person < 0 || person >= people.size()) return -1;
            Person p = people.get(person);
            if (p.there) return -3;
            remember();
            int words = 0;
            if (countThere() > 0 && law == 1) words = wordsThere() / countThere();
            if (law == 2) words = people.stream().filter(q -> q.there).mapToInt(q -> q.words).max().orElse(0);
            p.words = words;
            p.there = true;
            last = -9;
            return words;
        }

        int go(int person) {
            if (person < 0 || person >= people.size()) return -1;
            if (!people.get(person).there) return -3;
            remember();
            people.get(person).there = false;
            last = -9;
            return countThere();
        }

        int undo() {
            if (acts.isEmpty()) return -3;
            restore(acts.removeLast());
            return acts.size();
        }

        int judge(int n, int row) {
            if (n < 1 || n > 8 || row < 0 || String.valueOf(row).length() > n) return -2;
            String figures = String.format("%0" + n + "d", row);
            Moment before = moment();
            int found = -9;
            for (int i = 0; i < n && found == -9; i++) {
                int saying = figures.charAt(i) - '0';
                if (may(saying) != 1) found = i;
                else utter(saying);
            }
            restore(before);
            return found;
        }

        List<Integer> bestOrder;
        int bestWorth;

        /** Tries all orders in the order of numbers, so the first of the best ones stays. */
        void tryOrders(List<Integer> order, int worth, int left) {
            if (worth > bestWorth) {
                bestWorth = worth;
                bestOrder = new ArrayList<>(order);
            }
            for (int i = 0; i < sayings.size(); i++) {
                Saying s = sayings.get(i);
                if (!allowed(i) || s.words > left) continue;
                int lastBefore = last;
                utter(i);
                order.add(i);
                tryOrders(order, worth + s.worth, left - s.words);
                order.remove(order.size() - 1);
                unutter(i, lastBefore);
            }
        }

        void unutter(int i, int lastBefore) {
            Saying s = sayings.get(i);
            s.said = false;
            people.get(s.person).words -= s.words;
            last = lastBefore;
        }

        int most(int t) {
            if (t < 0 || t > 72) return -2;
            bestWorth = -1;
            tryOrders(new ArrayList<>(), 0, t);
            return bestWorth;
        }

        int mostAt(int t, int i) {
            if (most(t) == -2) return -2;
            return i < 0 || i >= bestOrder.size() ? -9 : bestOrder.get(i);
        }

        int soon(int saying) {
            if (saying < 0 || saying >= sayings.size()) return -1;
            int found = soonest(saying, 0);
            return found == Integer.MAX_VALUE ? -9 : found;
        }

        int soonest(int saying, int ahead) {
            if (allowed(saying)) return ahead;
            int found = Integer.MAX_VALUE;
            for (int i = 0; i < sayings.size(); i++) {
                if (!allowed(i)) continue;
                int lastBefore = last;
                utter(i);
                found = Math.min(found, soonest(saying, ahead + sayings.get(i).words));
                unutter(i, lastBefore);
            }
            return found;
        }

        /** Lets the others talk word by word till it is least. */
        int need(int person) {
            if (person < 0 || person >= people.size()) return -1;
            Person p = people.get(person);
            if (!p.there) return -3;
            Moment before = moment();
            int words = 0;
            while (!isLeast(p)) {
                people.get(Integer.numberOfTrailingZeros(least())).words++;
                words++;
            }
            restore(before);
            return words;
        }

        int each() {
            return play(0);
        }

        /** The end when all below that person held out so far. */
        int play(int person) {
            if (person == people.size()) return saidBits();
            int end = play(person + 1);
            if (!isLeast(people.get(person))) return end;
            for (int i = 0; i < sayings.size(); i++) {
                if (sayings.get(i).said || sayings.get(i).person != person) continue;
                int lastBefore = last;
                utter(i);
                int other = play(0);
                unutter(i, lastBefore);
                if (ownWorth(person, other) > ownWorth(person, end)) end = other;
            }
            return end;
        }

        int ownWorth(int person, int bits) {
            int sum = 0;
            for (int i = 0; i < sayings.size(); i++) {
                if (sayings.get(i).person == person && (bits >> i & 1) == 1) sum += sayings.get(i).worth;
            }
            return sum;
        }

        long out(int t, int who) {
            if (t < 0 || t > 54 || who < 0 || who >= Math.pow(2, people.size())) return -2;
            return ways(0, t, who);
        }

        long ways(int person, int left, int who) {
            if (person == people.size()) return left == 0 && least() == who ? 1 : 0;
            Person p = people.get(person);
            if (!p.there) return ways(person + 1, left, who);
            long sum = 0;
            for (int more = 0; more <= 9 && more <= left; more++) {
                p.words += more;
                sum += ways(person + 1, left - more, who);
                p.words -= more;
            }
            return sum;
        }

        long chance(int person, int n, int x, boolean upper) {
            if (person < 0 || person >= people.size()) return -1;
            if (n < 0 || n > 6 || x < 0 || x > 10) return -2;
            BigInteger above = tenths(person, n, x);
            BigInteger below = BigInteger.TEN.pow(n);
            BigInteger common = above.gcd(below);
            return (upper ? above : below).divide(common).longValueExact();
        }

        BigInteger tenths(int person, int n, int x) {
            if (n == 0) return isLeast(people.get(person)) ? BigInteger.ONE : BigInteger.ZERO;
            if (least() == 0) return BigInteger.ZERO;
            Person speaker = people.get(Integer.numberOfTrailingZeros(least()));
            speaker.words += 1;
            BigInteger one = tenths(person, n - 1, x);
            speaker.words += 1;
            BigInteger two = tenths(person, n - 1, x);
            speaker.words -= 2;
            return one.multiply(BigInteger.valueOf(x)).add(two.multiply(BigInteger.valueOf(10 - x)));
        }

        int keep(int slot) {
            if (slot < 0 || slot > 1) return -1;
            slots[slot] = moment();
            slotLaws[slot] = law;
            return countThere();
        }

        int again(int slot) {
            if (slot < 0 || slot > 1) return -1;
            if (slots[slot] == null) return -3;
            restore(slots[slot]);
            law = slotLaws[slot];
            acts.clear();
            return countThere();
        }
    }
}
