/** The document's constants, written out once more, so that a wrong one is noticed. */
interface Names {
    int NO_SUCH = -100001;
    int BAD_VALUE = -100002;
    int BAD_TEXT = -100003;
    int TOO_MANY = -100004;
    int NONE = -100005;
    int CAPACITY = 0;
    int PATIENCE = 1;
    int BACKOFF = 2;
    int RETRIES = 3;
    int SHARE = 0;
    int RATE = 1;
    int BURST = 2;
    int LIMIT = 3;
    int WAITING = 0;
    int RUNNING = 1;
    int DONE = 2;
    int DELAYED = 3;
    int REJECTED = 4;
}
