/** A call on a kitchen; an answer that is true counts 1, one that is false 0. */
interface Call {
    long on(HookColours x);
}
