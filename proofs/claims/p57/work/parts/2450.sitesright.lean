/-! every site is as the law says -/
section
variable {K : CT}
theorem TE_sy {T T' : TX} (h : TE T T') : TE T' T := ⟨h.1.symm, fun j hj => (h.2 j (by rw [h.1]; exact hj)).symm⟩
def sT (K : CT) (s q : Nat) (T : TX) : TX := wA (if f_L_bid K (nI q) (nI s) ≤ 0 then litT 0 0 else pieceT q (f_L_bid K (nI q) (nI s)).toNatClampNeg (marksT (decide (askV K 4 (nI q) (nI s) = 1)) (decide (askV K 5 (nI s) 0 = nI q)))) (wA T T0)
def sF (K : CT) (s q : Nat) (t : Int32 × Int32 × Int32 × Bool × TX × Int32) : Int32 × Int32 × Int32 × Bool × TX × Int32 := (t.1, t.2.1, t.2.2.1, t.2.2.2.1, sT K s q t.2.2.2.2.1, t.2.2.2.2.2 + (if f_L_bid K (nI q) (nI s) ≤ 0 then 0 else 1))
theorem sF_step (s k : Nat) (t : Int32 × Int32 × Int32 × Bool × TX × Int32) : f_L_areSitesRight_l245s K s k t = .inr (sF K s k t) := by
  show f_L_areSitesRight_l245b K s k t.1 t.2.1 t.2.2.1 t.2.2.2.1 t.2.2.2.2.1 t.2.2.2.2.2 = _
  unfold f_L_areSitesRight_l245b f_L_areSitesRight_j272 sF sT marksT pieceT
  by_cases b : f_L_bid K (nI k) (nI s) ≤ 0 <;> by_cases a4 : askV K 4 (nI k) (nI s) = 1 <;> by_cases a5 : askV K 5 (nI s) 0 = nI k <;> simp only [b, a4, a5, if_true, if_false, decide_true, decide_false, Bool.false_eq_true] <;> rfl
theorem sF_it (s : Nat) : ∀ (n k : Nat) (a b c : Int32) (d : Bool) (T : TX) (v : Int32), itF (sF K s) n k (a, b, c, d, T, v) = (a, b, c, d, itF (sT K s) n k T, itF (fun q v => v + (if f_L_bid K (nI q) (nI s) ≤ 0 then 0 else 1)) n k v) := by
  intro n
  induction n with
  | zero => intros; rfl
  | succ n ih => intro k a b c d T v; exact ih (k + 1) a b c d _ _
theorem sF_all (hI : GI (kG K)) {s : Nat} (hs : s < gS (kG K)) (v2 v3 v4 : Int32) (v5 : Bool) (T : TX) : f_L_areSitesRight_l245 K s (gP (kG K)) 0 v2 v3 v4 v5 T 0 = f_L_areSitesRight_l245x K s v2 v3 v4 v5 (itF (sT K s) (gP (kG K)) 0 T) (f_X1_bidsAbove (kG K) s 0) := by
  unfold f_L_areSitesRight_l245
  rw [lpF_it (sF K s) (gP (kG K)) (fun k t _ => sF_step s k t) _ _ _ (Nat.zero_add _), sF_it, ← cnt_bids hI hs]
  rfl
theorem fer_q (hI : GI (kG K)) {s q : Nat} (hq : q < gP (kG K)) (hs : s < gS (kG K)) : decide (askV K 5 (nI s) 0 = nI q) = decide (gFer (kG K) s = nI q) := by
  have h4 := (GI_safe hI).2.1
  rw [av_ferry hI hs]
  by_cases c : gFer (kG K) s = -1
  · rw [if_pos c, c, decide_eq_false (fun e => nI_nm (n := q) (by omega) (-2004) (by decide) e.symm), decide_eq_false (fun e => nI_nm (n := q) (by omega) (-1) (by decide) e.symm)]
  · rw [if_neg c]
theorem bid_T (hI : GI (kG K)) {s q : Nat} (hq : q < gP (kG K)) (hs : s < gS (kG K)) : bidT (kG K) s q = (if f_L_bid K (nI q) (nI s) ≤ 0 then litT 0 0 else pieceT q (f_L_bid K (nI q) (nI s)).toNatClampNeg (marksT (decide (askV K 4 (nI q) (nI s) = 1)) (decide (askV K 5 (nI s) 0 = nI q)))) := by
  unfold bidT
  by_cases c : f_X1_hasBid (kG K) q s = true
  · have c2 : ¬ f_L_bid K (nI q) (nI s) ≤ 0 := fun e => by rw [(bid_pos hI hq hs).mp e] at c; cases c
    have o : ¬ gOff (kG K) (s * 4 + q) = 0 := fun e => by
      unfold f_X1_hasBid f_X1_hasBid_j18 at c
      rw [if_pos e] at c
      cases c
    rw [if_pos c, if_neg c2, fer_q hI hq hs, bid_v hI hq hs, av_bluff hI hq hs, if_neg o]
    cases f_X1_hasBluff (kG K) q s
    · rfl
    · rfl
  · have c3 := nt_f c
    rw [if_neg c, if_pos ((bid_pos hI hq hs).mpr c3)]
theorem sT_TE (hI : GI (kG K)) {s : Nat} (hs : s < gS (kG K)) : ∀ (n k : Nat) (T T' : TX), k + n = gP (kG K) → TE T T' → TE (itF (fun q T => wA (bidT (kG K) s q) T) n k T) (itF (sT K s) n k T') := by
  intro n
  induction n with
  | zero => intro k T T' _ h; exact h
  | succ n ih =>
    intro k T T' hk h
    refine ih (k + 1) _ _ (by omega) ?_
    show TE (wA (bidT (kG K) s k) T) (sT K s k T')
    rw [bid_T hI (by omega) hs]
    exact TE_A (TE_rf _) (TE_tr h (TE_sy (TE_00 (S := T') (T := T0) rfl)))
theorem site_q {s : Nat} {v2 v3 v4 v10 v11 s0 : Int32} {T : TX} (hc : f_X1_bidsAbove (kG K) s 0 = v10) (h6 : askV K 6 (nI s) 0 = v11) (h7 : askV K 7 (nI s) 0 = s0) (hl : f_L_isLine (lineT (kG K) s) T = true) (hlh : ¬ nI (gHi (kG K) s) ≤ nI (gLo (kG K) s)) (hb : f_X1_hasBridge (kG K) s = true → v10 = 0 ∧ askV K 5 (nI s) 0 = -2004) : f_L_areSitesRight_j487 K s v2 v3 v4 true T v10 v11 s0 = .inr (v2, v3, v4, true) := by
  unfold f_L_areSitesRight_j487
  rw [if_pos rfl, if_pos (show f_X1_costOf (kG K) s = gLen (kG K) s + gTide (kG K) from rfl), if_pos hc, if_pos h6, if_pos h7, if_pos hl, if_neg hlh]
  by_cases c : f_X1_hasBridge (kG K) s = true
  · rw [if_pos c, if_pos (hb c).1, if_pos (hb c).2]
    rfl
  · rw [if_neg c]
    rfl
theorem lo_hi (hI : GI (kG K)) (d : DS (kG K)) {s : Nat} (hs : s < gS (kG K)) : ¬ nI (gHi (kG K) s) ≤ nI (gLo (kG K) s) := by
  have hG := GI_safe hI
  have h1 := d s hs
  have h2 := hG.2.2.2 s
  intro e
  rw [ile, nI_toInt (by omega), nI_toInt (by omega)] at e
  omega
theorem built_no (hI : GI (kG K)) {s : Nat} (hs : s < gS (kG K)) (hB : f_X1_hasBridge (kG K) s = true) : f_X1_bidsAbove (kG K) s 0 = 0 ∧ askV K 5 (nI s) 0 = -2004 := by
  have hG := GI_safe hI
  have nb := hasBridge_t.mp hB
  have no := hI.2.1.2.2.1 s hs nb
  refine ⟨?_, by rw [av_ferry hI hs, if_pos no.1]⟩
  rcases bids_none hI hs with h | ⟨-, -, w, hw, -, hb⟩
  · exact h.1
  · exfalso
    unfold f_X1_hasBid f_X1_hasBid_j18 at hb
    rw [if_pos (no.2 w (by have := hG.2.1; omega))] at hb
    cases hb
theorem site_x (hI : GI (kG K)) (d : DS (kG K)) {s : Nat} (hs : s < gS (kG K)) {v2 v3 v4 : Int32} {T : TX} (hT : TE (lineT (kG K) s) T) : f_L_areSitesRight_l245x K s v2 v3 v4 true T (f_X1_bidsAbove (kG K) s 0) = .inr (v2, v3, v4, true) := by
  have h4 := (GI_safe hI).2.1
  have hl := line_t hT
  have hlh := lo_hi hI d hs
  have hb := built_no hI hs
  unfold f_L_areSitesRight_l245x
  rcases bids_none hI hs with ⟨e0, w0⟩ | ⟨n0, he, w, hw, ew, hbw⟩
  · have h6 : askV K 6 (nI s) 0 = -2004 := by rw [av_winner hI hs, if_pos w0]
    rw [if_pos e0]
    unfold f_L_areSitesRight_j433
    by_cases c : f_X1_hasBridge (kG K) s = true
    · rw [if_pos c]
      exact site_q rfl h6 (by rw [av_would hI hs, if_pos c]) hl hlh hb
    · rw [if_neg c, if_pos e0]
      exact site_q rfl h6 (by rw [av_would hI hs, if_neg c, if_pos w0]) hl hlh hb
  · have c : ¬ f_X1_hasBridge (kG K) s = true := fun c => n0 (hb c).1
    have nw : ¬ nI w = -1 := nI_nm (by omega) (-1) (by decide)
    have h6 : askV K 6 (nI s) 0 = nI w := by rw [av_winner hI hs, ew, if_neg nw]
    have h7 := would_v hI hs (nt_f c) hw ew hbw 0
    rw [if_neg n0, (winner_v hI hs he).trans ew]
    unfold f_L_areSitesRight_j433 f_L_areSitesRight_j486
    rw [if_neg c, if_neg n0]
    by_cases a : askV K 4 (nI w) (nI s) = 0
    · rw [if_pos a] at h7 ⊢
      by_cases b : f_L_bid K (nI w) (nI s) < f_X1_costOf (kG K) s
      · rw [if_pos b] at h7
        rw [if_pos (show f_L_bid K (nI w) (nI s) < gLen (kG K) s + gTide (kG K) from b)]
        exact site_q rfl h6 h7 hl hlh hb
      · rw [if_neg b] at h7
        rw [if_neg (show ¬ f_L_bid K (nI w) (nI s) < gLen (kG K) s + gTide (kG K) from b)]
        exact site_q rfl h6 h7 hl hlh hb
    · rw [if_neg a] at h7 ⊢
      exact site_q rfl h6 h7 hl hlh hb
theorem site_t (hI : GI (kG K)) {s : Nat} (hs : s < gS (kG K)) : TE (lineT (kG K) s) (itF (sT K s) (gP (kG K)) 0 (headT (gLo (kG K) s) (gHi (kG K) s) (gLen (kG K) s).toNatClampNeg (if f_X1_hasBridge (kG K) s = true then builtT (gBld (kG K) s).toNatClampNeg else litT 0 0))) := sT_TE hI hs _ _ _ _ (Nat.zero_add _) (TE_rf _)
theorem site_151 (hI : GI (kG K)) (d : DS (kG K)) {s : Nat} (hs : s < gS (kG K)) (v2 v3 v4 : Int32) : f_L_areSitesRight_j151 K s v2 v3 true v4 = .inr (v2, v3, v4, true) := by
  have t := site_t hI hs
  unfold f_L_areSitesRight_j151
  by_cases c : f_X1_hasBridge (kG K) s = true
  · rw [if_pos c] at t ⊢
    rw [sF_all hI hs]
    exact site_x hI d hs t
  · rw [if_neg c] at t ⊢
    rw [sF_all hI hs]
    exact site_x hI d hs t
theorem site_b (hI : GI (kG K)) (d : DS (kG K)) {s : Nat} (hs : s < gS (kG K)) (v2 v3 v4 : Int32) : f_L_areSitesRight_l65b K s v2 v3 v4 true = .inr (v2 + bI (f_X1_hasBridge (kG K) s), v3 + (if f_X1_hasBridge (kG K) s = true then gLen (kG K) s else 0), chL (kG K) s v4, true) := by
  unfold f_L_areSitesRight_l65b f_L_areSitesRight_j103 f_L_areSitesRight_j121 f_L_areSitesRight_j149 f_L_areSitesRight_j144 chL
  by_cases c : f_X1_hasBridge (kG K) s = true
  · simp only [if_pos c]
    rw [site_151 hI d hs, c]
  · simp only [if_neg c]
    by_cases n : v4 < 0
    · simp only [if_pos n]
      rw [site_151 hI d hs, nt_f c]
    · simp only [if_neg n]
      by_cases g : f_X1_costOf (kG K) v4.toNatClampNeg ≤ gLen (kG K) s + gTide (kG K)
      · rw [if_pos g, site_151 hI d hs, nt_f c, if_pos (show f_X1_costOf (kG K) v4.toNatClampNeg ≤ f_X1_costOf (kG K) s from g)]
      · rw [if_neg g, site_151 hI d hs, nt_f c, if_neg (show ¬ f_X1_costOf (kG K) v4.toNatClampNeg ≤ f_X1_costOf (kG K) s from g)]
theorem site_l (hI : GI (kG K)) (d : DS (kG K)) : ∀ n k : Nat, k + n = gS (kG K) → f_L_areSitesRight_l65 K n k (brS (kG K) k) (lnS (kG K) k) (itF (chL (kG K)) k 0 (-2004)) true = f_L_areSitesRight_l65x K (brS (kG K) (gS (kG K))) (lnS (kG K) (gS (kG K))) (itF (chL (kG K)) (gS (kG K)) 0 (-2004)) true := by
  intro n
  induction n with
  | zero =>
    intro k hk
    obtain rfl : k = gS (kG K) := by omega
    rfl
  | succ n ih =>
    intro k hk
    have e : f_L_areSitesRight_l65 K (n + 1) k (brS (kG K) k) (lnS (kG K) k) (itF (chL (kG K)) k 0 (-2004)) true = sE id (fun q_ => lpF (f_L_areSitesRight_l65s K) (f_L_areSitesRight_l65e K) n (k + 1) q_) (f_L_areSitesRight_l65b K k (brS (kG K) k) (lnS (kG K) k) (itF (chL (kG K)) k 0 (-2004)) true) := rfl
    rw [e, site_b hI d (by omega), brS_s rfl rfl, lnS_s rfl rfl]
    have q : chL (kG K) k (itF (chL (kG K)) k 0 (-2004)) = itF (chL (kG K)) (k + 1) 0 (-2004) := by rw [itF_snoc, Nat.zero_add]
    rw [q]
    exact ih (k + 1) (by omega)
theorem sites_right (hI : GI (kG K)) (d : DS (kG K)) : f_L_areSitesRight K = true := by
  have hG := GI_safe hI
  have h12 := hG.1
  unfold f_L_areSitesRight
  rw [if_pos (av_len_n hI 0), if_pos (av_builder_n hI 0), if_pos (av_winner_m hI 0)]
  unfold f_L_areSitesRight_j60
  have h := site_l hI d (gS (kG K)) 0 (Nat.zero_add _)
  refine Eq.trans h ?_
  obtain ⟨b, hb, eb⟩ := bridges_n (kG K) hG.1
  obtain ⟨t, ht, et⟩ := lens_n hI.1
  rw [brS_all, lnS_all]
  have k51 : f_L_areSitesRight_j651 K (f_X1_bridges (kG K)) (f_X1_bridgeLengths (kG K)) true = true := by
    unfold f_L_areSitesRight_j651
    rw [if_pos rfl]
    by_cases z : f_X1_bridges (kG K) = 0
    · rw [if_pos z]
      rfl
    · rw [if_neg z, if_pos (by rw [eb, et]; exact dcmp_ok t (by omega) b (by omega) (fun q => z (by rw [eb, q]; rfl)))]
      rfl
  unfold f_L_areSitesRight_l65x f_L_areSitesRight_j646
  rw [if_pos rfl, if_pos (cheap_v hI 0 0), k51]
  by_cases z : nI (gS (kG K)) = 0
  · rw [if_pos z]
  · rw [if_neg z, if_pos (by rw [eb]; exact fcmp_ok b (by omega) (gS (kG K)) (by omega) (fun q => z (by rw [q]; rfl)))]
end
