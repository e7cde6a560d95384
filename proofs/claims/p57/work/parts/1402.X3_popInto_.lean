def f_X3_popInto_ (N : (Nat × Nat)) (Gj : GS) (G : GS) : Nat × (Nat × Nat) × GS := (lt_ (f_X1_copyFrom G Gj) (fun y26 => ((nCt N - 1), (mkHH ((nNx N + 7) % 8) (nCt N - 1)), y26)))
