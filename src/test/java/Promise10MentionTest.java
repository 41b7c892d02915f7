public final class Promise10MentionTest {
    public static void main(String[] args) {
        String tale = "so, Tim and Jim met Ann.  His dog (it) sat. then Ann was Jim; they left.";
        TaleReader x = Tales.of(tale);
        Tales.dueOfMentions(tale, x, 0, 4, 12, 20, 26, 35, 49, 57, 62);
        Tales.dueOfMentions(tale, x, 1, 3, 3, 3, 3, 2, 3, 3, 4);
        Tales.dueOfMentions(tale, x, 2, 0, 0, 0, 1, 1, 2, 2, 2);
        Tales.dueOfMentions(tale, x, 3, 0, 0, 0, 1, 3, 0, 0, 4);
        // PERSONS: Tim 0, Jim 1, the GROUP 2, Ann 3; his is Ann's, whom that makes a he; it is Jim; so
        // Ann (1) is not Jim (3).
        Tales.dueOfMentions(tale, x, 4, 0, 1, 3, 3, 1, 3, 1, 2);
        Tales.dueOfMentions(tale, x, 5, 0, 0, 0, 11, 3, 0, 0, 4);
        Tales.dueOfMentions(tale, x, 6, 0, 0, 0, 1, 1, 0, 0, 0);
        fitIsAsRead();
        wrongOnes(x);
        Tales.finish();
    }

    private static void fitIsAsRead() {
        String tale = "see Al and Bo. he saw Cy. then Cy is Al.";
        TaleReader x = Tales.of(tale);
        Tales.dueOfMentions(tale, x, 4, 0, 1, 1, 0, 0, 0);
        Tales.dueOfMentions(tale, x, 5, 0, 0, 3, 0, 0, 0);
        tale = "see Al and Bo. she ran. then Bo was Al.";
        x = Tales.of(tale);
        Tales.dueOfMentions(tale, x, 4, 0, 0, 0, 0, 0);
        Tales.due(tale + " FIT keeps the JOINED one", x.mention(2, 5), 3);
        Tales.due(tale + " IN DOUBT as read", x.mention(2, 6), 1);
    }

    private static void wrongOnes(TaleReader x) {
        int[] wrong = {-1, 8, 79, 80, 600, Integer.MIN_VALUE, Integer.MAX_VALUE};
        for (int j : wrong) {
            for (int what = -1; what < 8; what++) {
                Tales.due("mention(" + j + ", " + what + ")", x.mention(j, what), -1);
            }
        }
        int[] whats = {-1, 7, Integer.MIN_VALUE, Integer.MAX_VALUE};
        for (int what : whats) {
            Tales.due("mention(0, " + what + ")", x.mention(0, what), -1);
        }
    }
}
