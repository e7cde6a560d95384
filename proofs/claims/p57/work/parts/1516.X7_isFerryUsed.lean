def f_X7_isFerryUsed (Q : QS) (G : GS) (x : Int32) : Nat × Bool := (lt_ (f_X7_requirePlayer Q G (x)) (fun y2 => (if y2 = 0 then (0, (f_X1_hasUsedFerry G (x.toNatClampNeg))) else (y2, false))))
