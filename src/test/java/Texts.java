/** Packs texts as put takes them: the lowest 8 bits are the last character. */
final class Texts {
    private Texts() {
    }

    static long packed(String text) {
        long characters = 0;
        for (int at = 0; at < text.length(); at++) {
            characters = (characters << 8) | text.charAt(at);
        }
        return characters;
    }

    /** Puts a text of any length, eight characters a call, and returns what the last call answered. */
    static int putAll(NineDancers dance, String text) {
        int answer = 0;
        for (int at = 0; at < text.length(); at += 8) {
            answer = dance.put(packed(text.substring(at, Math.min(at + 8, text.length()))));
        }
        return answer;
    }
}
