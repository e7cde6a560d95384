def f_X7_settledTotal (Q : QS) (G : GS) : Int32 := (gSet G)
