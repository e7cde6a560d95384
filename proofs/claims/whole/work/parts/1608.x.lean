theorem X2_visit8_sub {G : GS} (hG : GSafe G) {i : Int32} (hi : vp_in i 8) (x : Int32) : subS x (f_X2_visit8 G i x) := by
  refine lpF_invN (step := f_X2_visit8_l9s G i) (ex := f_X2_visit8_l9e G i) (gS G) (fun _ v => subS x v) (fun r => subS x r) ?_ ?_ ?_ (gS G) 0 _ (Nat.zero_add _) (sub_seti x hi)
  · intro k v r _ hI h
    simp only [f_X2_visit8_l9s, f_X2_visit8_l9b, f_X2_visit8_j50] at h
    repeat' split at h
    all_goals cases h
  · intro k v v' _ hI h
    simp only [f_X2_visit8_l9s, f_X2_visit8_l9b, f_X2_visit8_j50] at h
    split at h
    · cases h; exact hI
    · rename_i c1
      split at h
      · cases h; exact hI
      · cases h; exact subS_trans hI (X2_visit7_sub hG (bridgedFrom_in hG c1) v)
  · intro v hI; exact hI
