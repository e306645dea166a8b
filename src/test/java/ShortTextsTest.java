/** Every text of up to four letters behind each of some beginnings: the fault, its letter, what was told, as in Model. */
public final class ShortTextsTest {
    private static final String LETTERS = "cimnvs019,; x";
    private static final int MOST = 4;
    private static final String[] BEGINNINGS = {"", "c99;", "i;c99,0;", "c99;c0;m1 0;", "i;m0 0;", "i;i;c99", "i;i;i",
            "i;i;c99,0", "i;i;c99,0,1", "c99;c0;m1 0;s0", "c99;i;m0 0;v0", "c99;i;m0 0;n0"};

    private final EarlyBinder x = new EarlyBinder();
    private final Model y = new Model();

    public static void main(String[] args) {
        for (String beginning : BEGINNINGS) {
            new ShortTextsTest().tellAll(beginning, MOST);
        }
        Check.finish();
    }

    private void tellAll(String text, int more) {
        tell(text);
        for (int i = 0; i < LETTERS.length() && more > 0; i++) {
            tellAll(text + LETTERS.charAt(i), more - 1);
        }
    }

    private void tell(String text) {
        for (int i = 0; i < text.length(); i++) {
            x.feed(text.charAt(i));
            y.feed(text.charAt(i));
        }
        int types = x.program();
        Check.due(text, types, y.program());
        Check.due(text, x.fault(), y.fault());
        for (int what = 0; what <= 4 && types >= 0; what++) {
            Check.due(text, x.told(what), y.told(what));
        }
    }
}
