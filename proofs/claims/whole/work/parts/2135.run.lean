/-- the script, whole -/
theorem parse_all {tx nm0 : Nat → Int32} {si : Nat} (hs : si ≤ 60) :
    (∃ (p : Nat) (r : Nat × Nat × (Nat → Int32)), p ≤ si ∧ f_X8_readsAll tx si nm0 = (0, si, r.1, nI p, r.2) ∧ ∀ S, sSiz S = si → (∀ j, j < si → sSgn S j = tx j) → sVb S < 9 → ∃ S', f_X4_countCommands S = (-1, S') ∧ AG S' tx si p ∧ sVb S' < 9) ∨
    (∃ m nm, 4 * (1 + m) ≤ si ∧ f_X8_readsAll tx si nm0 = (0, si, si, -1, 1 + m, nm) ∧ TB tx si nm (m + 1) 0 0 ∧ ∀ S, sSiz S = si → (∀ j, j < si → sSgn S j = tx j) → sVb S < 9 → ∃ S', f_X4_countCommands S = (nI (1 + m), S') ∧ AG S' tx si si ∧ sVb S' < 9) := by
  have cc : ∀ S, f_X4_countCommands S = if (f_X4_readCommand (mkS (sSgn S) (sSiz S) 0 (sVb S) (sNum S))).1 = true then contC 59 1 (f_X4_readCommand (mkS (sSgn S) (sSiz S) 0 (sVb S) (sNum S))).2 else (-1, (f_X4_readCommand (mkS (sSgn S) (sSiz S) 0 (sVb S) (sNum S))).2) := fun S => cm_step 59 1 _
  have ra : f_X8_readsAll tx si nm0 = lpW default (f_X8_readsAll_l32s tx) 62 (0, si, (f_X8_readsCommand tx si 0 (-1) 0 nm0).1, (f_X8_readsCommand tx si 0 (-1) 0 nm0).2.1, (f_X8_readsCommand tx si 0 (-1) 0 nm0).2.2.1, (f_X8_readsCommand tx si 0 (-1) 0 nm0).2.2.2) := rfl
  rcases cmd_ok hs (Nat.zero_le si) 0 nm0 with ⟨w, q, hw, hq, q4, nm', ec, n1, n2, cr⟩ | ⟨p, q, nm', hp2, hq, ec, cf⟩
  · rw [ec] at ra
    dsimp only at ra
    have cl : ∀ S, sSiz S = si → (∀ j, j < si → sSgn S j = tx j) → sVb S < 9 → ∃ S1, f_X4_countCommands S = contC 59 1 S1 ∧ AG S1 tx si q ∧ sVb S1 < 9 := fun S a1 a3 hv => by
      obtain ⟨S1, h1, h2, h3, h4⟩ := cr (mkS (sSgn S) (sSiz S) 0 (sVb S) (sNum S)) ⟨a1, rfl, a3⟩
      refine ⟨S1, ?_, h2, by rw [h3]; exact hw⟩
      rw [cc S, h1]
      rfl
    rcases parse_loop hs 62 1 q nm' hq (by omega) (by omega) with ⟨p, r, h1, h2, h3⟩ | ⟨m, nm, h1, h2, h3, h4, h5⟩
    · refine Or.inl ⟨p, r, h1, ra.trans h2, fun S a1 a3 hv => ?_⟩
      obtain ⟨S1, i1, i2, i3⟩ := cl S a1 a3 hv
      obtain ⟨S', k1, k2, k3⟩ := h3 S1 i2 i3
      exact ⟨S', i1.trans k1, k2, k3⟩
    · refine Or.inr ⟨m, nm, h1, ra.trans h2, ⟨w, q, hw, hq, (h3 _ (by omega)).trans n1, CR_cg hw cr (fun i hi => (h3 _ (by omega)).symm), h4⟩, fun S a1 a3 hv => ?_⟩
      obtain ⟨S1, i1, i2, i3⟩ := cl S a1 a3 hv
      obtain ⟨S', k1, k2, k3⟩ := h5 S1 i2 i3
      exact ⟨S', i1.trans k1, k2, k3⟩
  · rw [ec] at ra
    dsimp only at ra
    refine Or.inl ⟨p, (q, 0 + 1, nm'), hp2, ra.trans ?_, fun S a1 a3 hv => ?_⟩
    · show sE id _ (f_X8_readsAll_l32b tx 0 si q (nI p) (0 + 1) nm') = _
      unfold f_X8_readsAll_l32b f_X8_readsAll_j75
      rw [if_neg (nI_m1_ne (by omega))]
      rfl
    · obtain ⟨S1, h1, h2, h3⟩ := cf (mkS (sSgn S) (sSiz S) 0 (sVb S) (sNum S)) ⟨a1, rfl, a3⟩ hv
      refine ⟨S1, ?_, h2, h3⟩
      rw [cc S, h1]
      rfl
theorem thr23_2 : (1 : Int32) = thr [2, 3] 2 := by decide +kernel
theorem thr23_3 : (2 : Int32) = thr [2, 3] 3 := by decide +kernel
theorem b_runScript {Q : QS} {G G2 : GS} {S : HS} {Sc : SS} {nw bf hs tx nm : Nat → Int32} {rm ty : Nat} (h : RR G nw) (hh : HR S hs rm) (h2 : GSafe G2) (hz : sSiz Sc = ty) (hl : ty ≤ 60) (hc : ∀ j, j < ty → sSgn Sc j = tx j) (hv : sVb Sc < 9) :
    (f_X8_runScript nw bf hs rm (qEr Q) (qFa Q) tx ty nm).2.2.2.2.2.2.2.2.1 = thr [2, 3] (f_X7_runScript Q G S Sc G2).1 ∧
    ((f_X7_runScript Q G S Sc G2).1 = 0 ∨ (f_X7_runScript Q G S Sc G2).1 ∈ [2, 3]) ∧
    ((f_X7_runScript Q G S Sc G2).1 = 0 → (f_X8_runScript nw bf hs rm (qEr Q) (qFa Q) tx ty nm).1 = (f_X7_runScript Q G S Sc G2).2.1) ∧
    RR (f_X7_runScript Q G S Sc G2).2.2.2.1 (f_X8_runScript nw bf hs rm (qEr Q) (qFa Q) tx ty nm).2.1 ∧
    HR (f_X7_runScript Q G S Sc G2).2.2.2.2.1 (f_X8_runScript nw bf hs rm (qEr Q) (qFa Q) tx ty nm).2.2.2.1 (f_X8_runScript nw bf hs rm (qEr Q) (qFa Q) tx ty nm).2.2.2.2.1 ∧
    qHs (f_X7_runScript Q G S Sc G2).2.2.1 = qHs Q ∧
    qEr (f_X7_runScript Q G S Sc G2).2.2.1 = (f_X8_runScript nw bf hs rm (qEr Q) (qFa Q) tx ty nm).2.2.2.2.2.1 ∧
    qFa (f_X7_runScript Q G S Sc G2).2.2.1 = (f_X8_runScript nw bf hs rm (qEr Q) (qFa Q) tx ty nm).2.2.2.2.2.2.1 ∧
    (sSiz (f_X7_runScript Q G S Sc G2).2.2.2.2.2.1 = 0 ∧ (f_X8_runScript nw bf hs rm (qEr Q) (qFa Q) tx ty nm).2.2.2.2.2.2.2.1 = 0 ∧ sVb (f_X7_runScript Q G S Sc G2).2.2.2.2.2.1 < 9) ∧
    GSafe (f_X7_runScript Q G S Sc G2).2.2.2.2.2.2 := by
  rcases parse_all (nm0 := nm) (tx := tx) hl with ⟨p, r, hp, e1, e2⟩ | ⟨m, nm', hm, e1, tb, e2⟩
  · obtain ⟨S', c1, c2, c3⟩ := e2 Sc hz hc hv
    unfold f_X7_runScript f_X8_runScript lt_
    rw [c1, e1]
    dsimp only
    rw [if_pos rfl, if_neg (nI_m1_ne (by omega))]
    refine ⟨thr23_2, Or.inr (show (2 : Nat) ∈ [2, 3] by decide), fun h9 => absurd (show 2 = 0 from h9) (by decide), h, hh, rfl, ?_, rfl, ⟨rfl, rfl, c3⟩, h2⟩
    show nI (sAt S') = nI p
    rw [c2.2.1]
  · obtain ⟨S', c1, c2, c3⟩ := e2 Sc hz hc hv
    obtain ⟨p1, p2⟩ := cp_at nw bf 0 0
    have e3 : ∀ k, k < 178 → f_X8_copies nw bf 0 0 k = nw k := fun k hk => by
      have e1 := p1 k hk
      rw [Nat.zero_add] at e1
      exact e1
    have rb : RR G (f_X8_copies nw bf 0 0) := RR_cg h e3
    have r2 : RR (f_X1_copyFrom G2 G) nw := copy_RR h2 h
    have ex := exec_loop (tx := tx) (nm := nm') (hs := hs) (bef := f_X8_copies nw bf 0 0) (si := ty) (rm := rm) (typ := 0) (siz := ty) (pla := ty) (tol := 1 + m) (eA := qEr Q) (fA := qFa Q) (wro := -1) hl (m + 1) 0 0 (mkS (sSgn S') (sSiz S') 0 (sVb S') (sNum S')) (f_X1_copyFrom G2 G) nw ⟨c2.1, rfl, c2.2.2⟩ (Nat.zero_le _) tb r2 c3
    unfold f_X7_runScript f_X8_runScript f_X4_runOn lt_
    rw [c1, e1]
    dsimp only
    rw [if_neg (nI_m1_ne (by omega)), if_pos rfl, nI_clamp (by omega), Nat.add_comm 1 m]
    rw [Nat.add_comm 1 m] at ex
    rcases ex with ⟨S1, G', now', h1, h3, h4, h5⟩ | ⟨k', S1, G', now', h0, h1, h3, h4, h5⟩
    · rw [h1, h3]
      dsimp only
      rw [if_pos rfl]
      unfold f_X8_runScript_l38x f_X8_ends lt_
      dsimp only
      rw [if_pos rfl]
      dsimp only
      exact ⟨rfl, Or.inl rfl, fun _ => rfl, copy_RR (GI_safe h.1) h4, push_HR hh rb, rfl, rfl, rfl, ⟨rfl, rfl, h5⟩, GI_safe h4.1⟩
    · rw [h1, h3]
      dsimp only
      rw [if_neg (nI_m1_ne (by omega))]
      obtain ⟨q1, q2⟩ := cp_at (f_X8_copies nw bf 0 0) now' 0 0
      have e4 : ∀ k, k < 178 → f_X8_copies (f_X8_copies nw bf 0 0) now' 0 0 k = f_X8_copies nw bf 0 0 k := fun k hk => by
        have e1 := q1 k hk
        rw [Nat.zero_add] at e1
        exact e1
      exact ⟨thr23_3, Or.inr (show (3 : Nat) ∈ [2, 3] by decide), fun h9 => absurd (show 3 = 0 from h9) (by decide), RR_cg rb e4, hh, rfl, rfl, rfl, ⟨rfl, rfl, h5⟩, h4⟩
