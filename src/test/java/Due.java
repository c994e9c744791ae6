/** Counts and prints the answers that are not the ones that are due. */
final class Due {
  private static int wrong = 0;
  private static int sentences = 0;
  private static String sentence = "";

  private Due() {}

  /** The sentence of the document that the answers from here on belong to. */
  static void sentence(String text) {
    sentences++;
    sentence = "[" + text + "] ";
  }

  static void is(String call, long got, long want) {
    if (got != want) {
      wrong++;
      System.out.println(sentence + call + " answered " + got + ", due is " + want);
    }
  }

  static void is(String call, boolean got, boolean want) {
    is(call, got ? 1L : 0L, want ? 1L : 0L);
  }

  static int wrong() {
    return wrong;
  }

  static void end() {
    if (sentences > 0) {
      System.out.println(sentences + " sentences");
    }
    System.out.println(wrong == 0 ? "all answers are as due" : wrong + " answers are not as due");
    if (wrong != 0) {
      System.exit(1);
    }
  }
}
