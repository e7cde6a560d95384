def f_X7_save (Q : QS) (G : GS) (G1 : GS) : Nat × Int32 × QS × GS := (lt_ (f_X1_copyFrom G1 G) (fun y8 => (0, (nI (gP G)), (mkQ true (qEr Q) (qFa Q)), y8)))
