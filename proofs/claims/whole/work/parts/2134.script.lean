/-! the script, run -/
theorem does_VR {G : GS} {now nm : Nat → Int32} {x w : Nat} {a : Nat → Int32} (h : GI G) (r : NR G now) (hw : w < 9) (e0 : nm x = nI w) (ea : ∀ i, i < (argF w).length → a i = nm (x + 1 + i)) : ∃ L, L.length < 100 ∧ (∀ j, j ∈ L → j < 6) ∧ VR L (f_X1_judge G w (a 0) (a 1) (a 2)) (f_X1_play G w (a 0) (a 1) (a 2)).1 (f_X1_play G w (a 0) (a 1) (a 2)).2 (f_X8_does now nm x) now := by
  unfold f_X8_does lt_
  rw [e0]
  rcases (by omega : w = 0 ∨ w = 1 ∨ w = 2 ∨ w = 3 ∨ w = 4 ∨ w = 5 ∨ w = 6 ∨ w = 7 ∨ w = 8) with q | q | q | q | q | q | q | q | q <;> subst q
  · rw [if_pos (show nI 0 = 0 by decide), ← ea 0 (by decide)]
    exact ⟨[2, 3], by decide, by decide, v_joins h r (a 0)⟩
  · rw [if_neg (show ¬ nI 1 = 0 by decide), if_pos (show nI 1 = 1 by decide), ← ea 0 (by decide), ← ea 1 (by decide), ← ea 2 (by decide)]
    exact ⟨[1, 2, 4, 3], by decide, by decide, v_adds h r (a 0) (a 1) (a 2)⟩
  · rw [if_neg (show ¬ nI 2 = 0 by decide), if_neg (show ¬ nI 2 = 1 by decide), if_pos (show nI 2 = 2 by decide), ← ea 0 (by decide), ← ea 1 (by decide)]
    exact ⟨[1, 2], by decide, by decide, v_dresses h r (a 0) (a 1)⟩
  · rw [if_neg (show ¬ nI 3 = 0 by decide), if_neg (show ¬ nI 3 = 1 by decide), if_neg (show ¬ nI 3 = 2 by decide), if_pos (show nI 3 = 3 by decide), ← ea 0 (by decide)]
    exact ⟨[2], by decide, by decide, v_floods h r (a 0)⟩
  · rw [if_neg (show ¬ nI 4 = 0 by decide), if_neg (show ¬ nI 4 = 1 by decide), if_neg (show ¬ nI 4 = 2 by decide), if_neg (show ¬ nI 4 = 3 by decide), if_pos (show nI 4 = 4 by decide), ← ea 0 (by decide), ← ea 1 (by decide), ← ea 2 (by decide)]
    exact ⟨[1, 2, 3, 4], by decide, by decide, v_bids h r (a 0) (a 1) (a 2)⟩
  · rw [if_neg (show ¬ nI 5 = 0 by decide), if_neg (show ¬ nI 5 = 1 by decide), if_neg (show ¬ nI 5 = 2 by decide), if_neg (show ¬ nI 5 = 3 by decide), if_neg (show ¬ nI 5 = 4 by decide), if_pos (show nI 5 = 5 by decide), ← ea 0 (by decide), ← ea 1 (by decide), ← ea 2 (by decide)]
    exact ⟨[1, 2, 3, 4], by decide, by decide, v_bluffs h r (a 0) (a 1) (a 2)⟩
  · rw [if_neg (show ¬ nI 6 = 0 by decide), if_neg (show ¬ nI 6 = 1 by decide), if_neg (show ¬ nI 6 = 2 by decide), if_neg (show ¬ nI 6 = 3 by decide), if_neg (show ¬ nI 6 = 4 by decide), if_neg (show ¬ nI 6 = 5 by decide), if_pos (show nI 6 = 6 by decide), ← ea 0 (by decide), ← ea 1 (by decide)]
    exact ⟨[1, 5, 3, 4], by decide, by decide, v_ferries h r (a 0) (a 1)⟩
  · rw [if_neg (show ¬ nI 7 = 0 by decide), if_neg (show ¬ nI 7 = 1 by decide), if_neg (show ¬ nI 7 = 2 by decide), if_neg (show ¬ nI 7 = 3 by decide), if_neg (show ¬ nI 7 = 4 by decide), if_neg (show ¬ nI 7 = 5 by decide), if_neg (show ¬ nI 7 = 6 by decide), if_pos (show nI 7 = 7 by decide), ← ea 0 (by decide), ← ea 1 (by decide)]
    exact ⟨[1, 5, 3], by decide, by decide, v_drops h r (a 0) (a 1)⟩
  · rw [if_neg (show ¬ nI 8 = 0 by decide), if_neg (show ¬ nI 8 = 1 by decide), if_neg (show ¬ nI 8 = 2 by decide), if_neg (show ¬ nI 8 = 3 by decide), if_neg (show ¬ nI 8 = 4 by decide), if_neg (show ¬ nI 8 = 5 by decide), if_neg (show ¬ nI 8 = 6 by decide), if_neg (show ¬ nI 8 = 7 by decide), ← ea 0 (by decide), play_8, X1_judge_9 (show smB.getD 8 0 = 0 from rfl)]
    exact ⟨[1, 3, 5], by decide, by decide, v_settles h r (a 0)⟩
def TB (tx : Nat → Int32) (si : Nat) (nm : Nat → Int32) : Nat → Nat → Nat → Prop
  | 0, _, _ => True
  | m + 1, j, p => ∃ w q, w < 9 ∧ q ≤ si ∧ nm (4 * j) = nI w ∧ CR tx si p w q (fun i => nm (4 * j + 1 + i)) ∧ TR tx si nm m (j + 1) q
theorem exec_loop {tx nm hs bef : Nat → Int32} {si rm typ siz pla tol : Nat} {eA fA wro : Int32} (hs60 : si ≤ 60) : ∀ m k p S G now, AG S tx si p → p ≤ si → TB tx si nm m k p → RR G now → sVb S < 9 →
    (∃ S' G' now', f_X4_runOn_l7 m k S G = (-1, S', G') ∧ f_X8_runScript_l38 hs rm eA fA m k now bef typ 0 siz pla wro tol nm = f_X8_runScript_l38x hs rm eA fA now' bef typ 0 siz pla wro tol nm ∧ RR G' now' ∧ sVb S' < 9) ∨
    (∃ k' S' G' now', k' < k + m ∧ f_X4_runOn_l7 m k S G = (nI k', S', G') ∧ f_X8_runScript_l38 hs rm eA fA m k now bef typ 0 siz pla wro tol nm = (0, f_X8_copies bef now' 0 0, bef, hs, rm, eA, nI k', typ, 2, siz, pla, wro, tol, nm) ∧ GSafe G' ∧ sVb S' < 9) := by
  intro m
  induction m with
  | zero =>
    intro k p S G now a hp tb rr hv
    exact Or.inl ⟨S, G, now, rfl, rfl, rr, hv⟩
  | succ m ih =>
    intro k p S G now a hp tb rr hv
    obtain ⟨w, q, hw, hq, e0, cr, tr⟩ := tb
    obtain ⟨S1, c1, c2, c3, c4⟩ := cr S a
    have s1 : f_X4_runOn_l7 (m + 1) k S G = sE id (fun t : SS × GS => f_X4_runOn_l7 m (k + 1) t.1 t.2) (f_X4_runOn_l7b k S G) := rfl
    have s2 : f_X8_runScript_l38 hs rm eA fA (m + 1) k now bef typ 0 siz pla wro tol nm = sE id (fun t : (Nat → Int32) × (Nat → Int32) × Nat × Int32 × Nat × Nat × Int32 × Nat × (Nat → Int32) => f_X8_runScript_l38 hs rm eA fA m (k + 1) t.1 t.2.1 t.2.2.1 t.2.2.2.1 t.2.2.2.2.1 t.2.2.2.2.2.1 t.2.2.2.2.2.2.1 t.2.2.2.2.2.2.2.1 t.2.2.2.2.2.2.2.2) (f_X8_runScript_l38b hs rm eA fA k now bef typ 0 siz pla wro tol nm) := rfl
    rw [s1, s2]
    have sgn := cl_sign hs60 hq c2 59
    have b1 : f_X4_runOn_l7b k S G = (if f_X1_judge G w (sNum S1 0) (sNum S1 1) (sNum S1 2) = 0 then Sum.inr (mkS (sSgn S1) (sSiz S1) (if sg tx si q 59 = true then q + 1 else q) w (sNum S1), (f_X1_play G w (sNum S1 0) (sNum S1 1) (sNum S1 2)).2) else Sum.inl (nI k, mkS (sSgn S1) (sSiz S1) (if sg tx si q 59 = true then q + 1 else q) w (sNum S1), G)) := by
      unfold f_X4_runOn_l7b lt_
      rw [c1]
      dsimp only
      rw [sgn, c3]
    obtain ⟨L, l1, l2, vr⟩ := does_VR (x := 4 * k) (a := sNum S1) rr.1 rr.2.1 hw e0 c4
    obtain ⟨v1, v2, v3, v4⟩ := vr
    have b2 : f_X8_runScript_l38b hs rm eA fA k now bef typ 0 siz pla wro tol nm = (if (f_X8_does now nm (4 * k)).2.2 = 0 then Sum.inr ((f_X8_does now nm (4 * k)).2.1, bef, typ, (f_X8_does now nm (4 * k)).2.2, siz, pla, wro, tol, nm) else Sum.inl (0, f_X8_copies bef (f_X8_does now nm (4 * k)).2.1 0 0, bef, hs, rm, eA, nI k, typ, 2, siz, pla, wro, tol, nm)) := rfl
    rw [b1, b2]
    have ok := X8_does_ok rr.2.2.1 nm (4 * k)
    by_cases j : f_X1_judge G w (sNum S1 0) (sNum S1 1) (sNum S1 2) = 0
    · obtain ⟨v5, v6, v7⟩ := v4 j
      rw [j, thr_0] at v1
      rw [if_pos j, if_pos v1, v1]
      have gf := X1_play_ok (G := G) ⟨GI_safe rr.1, rr.2.2.2⟩ hw j
      have rr2 : RR (f_X1_play G w (sNum S1 0) (sNum S1 1) (sNum S1 2)).2 (f_X8_does now nm (4 * k)).2.1 := ⟨v7, v6, ok, gf.2⟩
      have pb : (if sg tx si q 59 = true then q + 1 else q) ≤ si := by
        cases g : sg tx si q 59
        · rw [if_neg (by decide)]; exact hq
        · rw [if_pos rfl]; exact sg_lt g
      have tb2 : TB tx si nm m (k + 1) (if sg tx si q 59 = true then q + 1 else q) := by
        cases m with
        | zero => trivial
        | succ m =>
          obtain ⟨t1, t2, t3⟩ := tr
          have g : sg tx si q 59 = true := by
            unfold sg
            rw [decide_eq_true t1, decide_eq_true t2]
            rfl
          rw [if_pos g]
          exact t3
      rcases ih (k + 1) _ (mkS (sSgn S1) (sSiz S1) (if sg tx si q 59 = true then q + 1 else q) w (sNum S1)) _ _ ⟨c2.1, rfl, c2.2.2⟩ pb tb2 rr2 hw with ⟨S', G', now', h1, h2, h3, h4⟩ | ⟨k', S', G', now', h0, h1, h2, h3, h4⟩
      · exact Or.inl ⟨S', G', now', h1, h2, h3, h4⟩
      · exact Or.inr ⟨k', S', G', now', by omega, h1, h2, h3, h4⟩
    · have hm := v2.resolve_left j
      have n0 := thr_ne j l1 hm
      rw [if_neg j, v1, if_neg n0]
      exact Or.inr ⟨k, _, G, _, by omega, rfl, rfl, GI_safe rr.1, hw⟩
