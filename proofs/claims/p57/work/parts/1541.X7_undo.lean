def f_X7_undo (Q : QS) (G : GS) (S : HS) : Nat × Nat × GS × HS := (if (nI (hCt S)) = 0 then (5, 0, G, S) else (lt_ (f_X3_popInto S G) (fun y29 => (0, y29.1, y29.2.2, y29.2.1))))
