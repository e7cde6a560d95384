def f_X3_popInto (S : HS) (G : GS) : Nat × HS × GS := (hCt S - 1, mkHS (hRg S) ((hNx S + 7) % 8) (hCt S - 1), f_X1_copyFrom G (hRg S ((hNx S + 7) % 8)))
