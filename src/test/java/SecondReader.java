import java.util.ArrayList;
import java.util.LinkedHashMap;
import java.util.List;
import java.util.Map;
import java.util.TreeMap;
import java.util.TreeSet;
import java.util.regex.Matcher;
import java.util.regex.Pattern;

/** The document read a second time, with the whole Java library and without thrift: what SecondReaderTest asks. */
final class SecondReader {
    private static final Map<String, Integer> HE_WORDS = new LinkedHashMap<>();

    static {
        for (String word : "he him his".split(" ")) {
            HE_WORDS.put(word, 1);
        }
        for (String word : "she her hers".split(" ")) {
            HE_WORDS.put(word, 2);
        }
        for (String word : "it its".split(" ")) {
            HE_WORDS.put(word, 3);
        }
        for (String word : "they them their".split(" ")) {
            HE_WORDS.put(word, 4);
        }
    }

    private static final class Word {
        String text;
        int place;
        int sentence;
        boolean first;
        boolean name;
        int he;
        int mention = -1;
    }

    private static final class Someone {
        int number;
        int sex;
        Someone joinedTo;
        List<Integer> nameMentions = new ArrayList<>();
        List<String> names = new ArrayList<>();
        TreeSet<Integer> mentionedAt = new TreeSet<>();
        List<Someone> members = new ArrayList<>();

        Someone now() {
            return joinedTo == null ? this : joinedTo.now();
        }

        int memberSet() {
            int set = 0;
            for (Someone member : members) {
                set |= 1 << member.now().number;
            }
            return set;
        }
    }

    String tape = "";
    private String tale = "";
    private final Map<String, Integer> told = new LinkedHashMap<>();
    private final Map<Integer, Integer> pins = new TreeMap<>();
    private List<Word> words = new ArrayList<>();
    private List<Word> mentions = new ArrayList<>();
    private List<Someone> cast = new ArrayList<>();
    private Someone[] whose = new Someone[0];
    private int[] fit = new int[0];
    private boolean[] doubt = new boolean[0];
    private boolean cut;

    int read() {
        tale = tape;
        tape = "";
        pins.clear();
        readAll();
        return mentions.size();
    }

    boolean tell(int sex) {
        String name = tape;
        tape = "";
        if (!name.matches("[A-Z][a-z]{1,9}") || HE_WORDS.containsKey(name.toLowerCase()) || sex < 0 || sex > 3) {
            return false;
        }
        if (!told.containsKey(name) && told.size() == 8) {
            return false;
        }
        told.put(name, sex);
        readAll();
        return true;
    }

    void forget() {
        told.clear();
        readAll();
    }

    boolean pin(int j, int k) {
        if (j < 0 || j >= mentions.size() || k < 0 || k >= mentions.size() || k >= j || pins.size() == 20) {
            return false;
        }
        pins.put(j, k);
        readAll();
        return true;
    }

    boolean loose(int j) {
        boolean there = pins.remove(j) != null;
        readAll();
        return there;
    }

    int look(int what) {
        int doubts = 0;
        int nobodys = 0;
        for (int j = 0; j < mentions.size(); j++) {
            doubts += doubt[j] ? 1 : 0;
            nobodys += whose[j] == null ? 1 : 0;
        }
        int[] answers = {mentions.size(), cast.size(), sentences(), doubts, nobodys, cut ? 1 : 0, pins.size(), told.size()};
        return what >= 0 && what < answers.length ? answers[what] : -1;
    }

    private int sentences() {
        String[] parts = tale.split("\\.", -1);
        return parts.length - 1 + (parts[parts.length - 1].matches("(?s).*[A-Za-z].*") ? 1 : 0);
    }

    int mention(int j, int what) {
        if (j < 0 || j >= mentions.size()) {
            return -1;
        }
        Word word = mentions.get(j);
        int person = whose[j] == null ? -1 : whose[j].now().number;
        int[] answers = {word.place, word.text.length(), word.sentence, word.he, person, fit[j], doubt[j] ? 1 : 0};
        return what >= 0 && what < answers.length ? answers[what] : -1;
    }

    private List<Integer> chain(Someone person) {
        List<Integer> chain = new ArrayList<>();
        for (int j = 0; j < mentions.size(); j++) {
            if (whose[j] != null && whose[j].now() == person) {
                chain.add(j);
            }
        }
        return chain;
    }

    int person(int p, int what) {
        if (p < 0 || p >= cast.size()) {
            return -1;
        }
        Someone now = cast.get(p).now();
        Someone to = cast.get(p).joinedTo;
        int[] answers = {now.number, now.sex, chain(now).size(), now.names.size(), now.memberSet(),
            to == null ? -1 : to.number};
        return what >= 0 && what < answers.length ? answers[what] : -1;
    }

    int chain(int p, int k) {
        return p < 0 || p >= cast.size() ? -1 : at(chain(cast.get(p).now()), k);
    }

    int name(int p, int i) {
        return p < 0 || p >= cast.size() ? -1 : at(cast.get(p).now().nameMentions, i);
    }

    private static int at(List<Integer> list, int i) {
        return i >= 0 && i < list.size() ? list.get(i) : -1;
    }

    int who(int j) {
        if (j < 0 || j >= mentions.size() || !mentions.get(j).name) {
            return -1;
        }
        Someone owner = owner(mentions.get(j).text);
        return owner == null ? -1 : owner.number;
    }

    private void readAll() {
        findWords();
        findMentions();
        cast = new ArrayList<>();
        whose = new Someone[mentions.size()];
        fit = new int[mentions.size()];
        doubt = new boolean[mentions.size()];
        for (Word word : mentions) {
            int j = word.mention;
            if (pins.containsKey(j)) {
                readPinned(j, word);
            } else if (word.name) {
                whose[j] = named(j, word.text);
            } else {
                readHeWord(j, word);
            }
            if (whose[j] != null) {
                whose[j] = whose[j].now();
                whose[j].mentionedAt.add(j);
            }
            int w = words.indexOf(word);
            if (word.name) {
                readIs(w);
                readGroup(w);
            }
        }
    }

    private void findWords() {
        words = new ArrayList<>();
        int sentence = 0;
        boolean first = true;
        Matcher matcher = Pattern.compile("[A-Za-z]+|\\.").matcher(tale);
        while (matcher.find()) {
            if (matcher.group().equals(".")) {
                sentence++;
                first = true;
                continue;
            }
            Word word = new Word();
            word.text = matcher.group();
            word.place = matcher.start();
            word.sentence = sentence;
            word.first = first;
            first = false;
            words.add(word);
        }
    }

    private void findMentions() {
        TreeSet<String> inside = new TreeSet<>();
        for (Word word : words) {
            if (!word.first && looksLikeName(word)) {
                inside.add(word.text);
            }
        }
        mentions = new ArrayList<>();
        cut = false;
        for (Word word : words) {
            String small = word.first ? word.text.substring(0, 1).toLowerCase() + word.text.substring(1) : word.text;
            word.he = HE_WORDS.getOrDefault(small, 0);
            word.name = looksLikeName(word)
                && (!word.first || inside.contains(word.text) || told.containsKey(word.text));
            if (!word.name && word.he == 0) {
                continue;
            }
            if (mentions.size() == 80) {
                cut = true;
                word.name = false;
                continue;
            }
            word.mention = mentions.size();
            mentions.add(word);
        }
    }

    private static boolean looksLikeName(Word word) {
        return word.text.matches("[A-Z][a-z]{1,9}") && !HE_WORDS.containsKey(word.text.toLowerCase());
    }

    private Someone owner(String name) {
        for (Someone person : cast) {
            if (person.joinedTo == null && person.names.contains(name)) {
                return person;
            }
        }
        return null;
    }

    private Someone justOne(String name, boolean longer) {
        List<Someone> found = new ArrayList<>();
        for (Someone person : cast) {
            boolean any = false;
            for (String other : person.names) {
                any |= longer ? name.length() >= 3 && other.startsWith(name) : other.length() >= 3 && name.startsWith(other);
            }
            if (any && person.joinedTo == null) {
                found.add(person);
            }
        }
        return found.size() == 1 ? found.get(0) : null;
    }

    private Someone add(int sex) {
        if (cast.size() == 30) {
            return null;
        }
        Someone person = new Someone();
        person.number = cast.size();
        person.sex = sex;
        cast.add(person);
        return person;
    }

    private Someone named(int j, String name) {
        Someone person = owner(name);
        if (person != null) {
            return person;
        }
        person = justOne(name, true);
        if (person == null) {
            person = justOne(name, false);
        }
        if (person == null) {
            person = add(0);
        }
        if (person != null) {
            person.names.add(name);
            person.nameMentions.add(j);
            person.sex = person.sex == 0 ? told.getOrDefault(name, 0) : person.sex;
        }
        return person;
    }

    private void readPinned(int j, Word word) {
        Someone person = whose[pins.get(j)];
        whose[j] = person == null ? null : person.now();
        if (word.name && owner(word.text) == null && whose[j] != null && whose[j].sex != 4) {
            whose[j].names.add(word.text);
            whose[j].nameMentions.add(j);
        }
    }

    private void readHeWord(int j, Word word) {
        List<Someone> found = new ArrayList<>();
        for (Someone person : cast) {
            boolean sex = word.he == 4 ? person.sex == 4 : person.sex == 0 || person.sex == word.he;
            if (person.joinedTo == null && sex && lastSentence(person) + 2 >= word.sentence) {
                found.add(person);
                fit[j] += 1 << person.number;
            }
        }
        found.sort((a, b) -> b.mentionedAt.last() - a.mentionedAt.last());
        if (!found.isEmpty()) {
            whose[j] = found.get(0);
            doubt[j] = found.size() > 1 && lastSentence(found.get(0)) == lastSentence(found.get(1));
            whose[j].sex = word.he;
        }
    }

    private int lastSentence(Someone person) {
        return mentions.get(person.mentionedAt.last()).sentence;
    }

    private boolean linked(int w, String links) {
        if (w < 2 || w >= words.size()) {
            return false;
        }
        Word a = words.get(w - 2);
        Word b = words.get(w);
        return a.name && b.name && a.sentence == b.sentence && words.get(w - 1).text.matches(links);
    }

    private void readIs(int w) {
        if (!linked(w, "is|was")) {
            return;
        }
        Someone a = whose[words.get(w - 2).mention];
        Someone b = whose[words.get(w).mention];
        if (a == null || b == null || a.now() == b.now()) {
            return;
        }
        Someone stays = a.now().number < b.now().number ? a.now() : b.now();
        Someone goes = stays == a.now() ? b.now() : a.now();
        if (stays.sex == 4 || goes.sex == 4 || stays.sex != 0 && goes.sex != 0 && stays.sex != goes.sex) {
            return;
        }
        stays.names.addAll(goes.names);
        stays.nameMentions.addAll(goes.nameMentions);
        stays.mentionedAt.addAll(goes.mentionedAt);
        stays.sex = stays.sex == 0 ? goes.sex : stays.sex;
        goes.joinedTo = stays;
    }

    private void readGroup(int w) {
        if (linked(w + 2, "and") || !linked(w, "and")) {
            return;
        }
        List<Someone> members = new ArrayList<>();
        for (int v = w; ; v -= 2) {
            Someone person = whose[words.get(v).mention];
            if (person == null || person.now().sex == 4) {
                return;
            }
            members.add(person.now());
            if (!linked(v, "and")) {
                break;
            }
        }
        Someone made = new Someone();
        made.members = members;
        if (Integer.bitCount(made.memberSet()) < 2) {
            return;
        }
        Someone group = null;
        for (Someone other : cast) {
            if (group == null && other.sex == 4 && other.memberSet() == made.memberSet()) {
                group = other;
            }
        }
        if (group == null) {
            group = add(4);
            if (group != null) {
                group.members = members;
            }
        }
        if (group != null) {
            group.mentionedAt.add(words.get(w).mention);
        }
    }
}
