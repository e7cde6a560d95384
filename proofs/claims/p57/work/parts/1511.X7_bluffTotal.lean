def f_X7_bluffTotal (Q : QS) (G : GS) : Int32 := (gBlf G)
