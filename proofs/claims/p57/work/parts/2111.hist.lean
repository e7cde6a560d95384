/-! rows and games that are copied; the history -/
theorem NR_cg {G : GS} {f g : Nat → Int32} (hG : GSafe G) (h : NR G f) (e : ∀ j, j < 178 → g j = f j) : NR G g := by
  obtain ⟨⟨r0, r1, r2, r3, r4, r5⟩, rs, rp, rk⟩ := h
  have hS := hG.1
  have hP4 := hG.2.1
  refine ⟨⟨(e 0 (by omega)).trans r0, (e 1 (by omega)).trans r1, (e 2 (by omega)).trans r2, (e 3 (by omega)).trans r3, (e 4 (by omega)).trans r4, (e 5 (by omega)).trans r5⟩, fun i hi => (e _ (by omega)).trans (rs i hi), fun p hp => ⟨(e _ (by omega)).trans (rp p hp).1, (e _ (by omega)).trans (rp p hp).2⟩, fun k hk => ?_⟩
  obtain ⟨⟨s1, s2, s3, s4, s5⟩, s6⟩ := rk k hk
  exact ⟨⟨(e _ (by omega)).trans s1, (e _ (by omega)).trans s2, (e _ (by omega)).trans s3, (e _ (by omega)).trans s4, (e _ (by omega)).trans s5⟩, fun q hq => ⟨(e _ (by omega)).trans (s6 q hq).1, (e _ (by omega)).trans (s6 q hq).2⟩⟩
theorem NowOK_cg {f g : Nat → Int32} (h : NowOK f) (e : ∀ j, j < 178 → g j = f j) : NowOK g := by
  obtain ⟨⟨h1, h2⟩, ⟨h3, h4⟩, h5, h6⟩ := h
  have eS : mS g = mS f := by unfold mS; rw [e 2 (by omega)]
  have eP : mP g = mP f := by unfold mP; rw [e 1 (by omega)]
  refine ⟨⟨?_, ?_⟩, ⟨?_, ?_⟩, fun k hk => ?_, fun k hk => ?_⟩
  · rw [eS, e 2 (by omega)]; exact h1
  · rw [eS]; exact h2
  · rw [eP, e 1 (by omega)]; exact h3
  · rw [eP]; exact h4
  · rw [e _ (by omega), e _ (by omega)]; exact h5 k hk
  · rw [e _ (by omega)]; exact h6 k hk
/-- a row that shows a game by the rules, and can be read safely -/
def RR (G : GS) (f : Nat → Int32) : Prop := GI G ∧ NR G f ∧ NowOK f ∧ FerOK G
theorem RR_cg {G : GS} {f g : Nat → Int32} (h : RR G f) (e : ∀ j, j < 178 → g j = f j) : RR G g := ⟨h.1, NR_cg (GI_safe h.1) h.2.1 e, NowOK_cg h.2.2.1 e, h.2.2.2⟩
theorem cp_at (F1 F2 : Nat → Int32) (x1 x2 : Nat) : (∀ j, j < 178 → f_X8_copies F1 F2 x1 x2 (x2 + j) = F1 (x1 + j)) ∧ ∀ i, i < x2 ∨ x2 + 178 ≤ i → f_X8_copies F1 F2 x1 x2 i = F2 i := by
  unfold f_X8_copies f_X8_copies_l3
  rw [lpF_it (step := f_X8_copies_l3s F1 x1 x2) (ex := f_X8_copies_l3e F1 x1 x2) (fun k s => upd s (x2 + k) (F1 (x1 + k))) 178 (fun k s hk => rfl) 178 0 F2 rfl]
  have key : ∀ (n k : Nat) (s : Nat → Int32), (∀ j, k ≤ j → j < k + n → itF (fun k s => upd s (x2 + k) (F1 (x1 + k))) n k s (x2 + j) = F1 (x1 + j)) ∧ ∀ i, i < x2 + k ∨ x2 + k + n ≤ i → itF (fun k s => upd s (x2 + k) (F1 (x1 + k))) n k s i = s i := by
    intro n
    induction n with
    | zero => intro k s; exact ⟨fun j h1 h2 => absurd h2 (by omega), fun i _ => rfl⟩
    | succ n ih =>
      intro k s
      obtain ⟨h1, h2⟩ := ih (k + 1) (upd s (x2 + k) (F1 (x1 + k)))
      refine ⟨fun j h3 h4 => ?_, fun i h3 => ?_⟩
      · by_cases c : j = k
        · subst c
          exact (h2 _ (by omega)).trans pk_us
        · exact h1 j (by omega) (by omega)
      · exact (h2 i (by omega)).trans (pk_un (by omega))
  obtain ⟨h1, h2⟩ := key 178 0 F2
  refine ⟨fun j hj => h1 j (Nat.zero_le j) (by omega), fun i hi => h2 i (by omega)⟩
/-! a copied game -/
theorem cpN_at {f g : Nat → Nat} {n j : Nat} (h : j < n) : cpyN n f g j = f j := cpy_in h
theorem cp_at32 {f g : Nat → Int32} {n j : Nat} (h : j < n) : cpy n f g j = f j := cpy_in h
theorem copy_safe {G G2 : GS} (h : GSafe G) (h2 : GSafe G2) : GSafe (f_X1_copyFrom G G2) := copyFrom_safe h h2
theorem copy_GI {G G2 : GS} (h : GSafe G) (h2 : GI G2) : GI (f_X1_copyFrom G G2) := by
  have hG := GI_safe h2
  have hS := hG.1
  have hP4 := hG.2.1
  obtain ⟨⟨a1, a2, a3, a4, a5, a6, a7⟩, ⟨b1, b2, b3, b4⟩, c1, c2⟩ := h2
  have o : ∀ k q, k < 12 → q < 4 → cpy 48 (gOff G2) (gOff G) (k * 4 + q) = gOff G2 (k * 4 + q) := fun k q hk hq => cpy_in (by omega)
  refine ⟨⟨copy_safe h a1, a2, fun i hi => ?_, fun p hp => ?_, fun k hk => ?_, fun k hk => ?_, fun k hk => ?_⟩, ⟨fun k hk q hq => ?_, fun k hk q hq hh => ?_, fun k hk hb => ?_, b4⟩, fun q hq => ?_, ?_⟩
  · show vp_in (cpy 8 (gSuit G2) (gSuit G) i) 4
    rw [cp_at32 hi]; exact a3 i hi
  · have hp : p < gP G2 := hp
    show vp_in (cpy 4 (gMon G2) (gMon G) p) 100
    rw [cp_at32 (by omega)]; exact a4 p hp
  · have hk : k < gS G2 := hk
    show ∃ L, 1 ≤ L ∧ L ≤ 9 ∧ cpy 12 (gLen G2) (gLen G) k = nI L
    rw [cp_at32 (by omega)]; exact a5 k hk
  · have hk : k < gS G2 := hk
    show cpy 12 (gBld G2) (gBld G) k = -1 ∨ vp_in (cpy 12 (gBld G2) (gBld G) k) (gP G2)
    rw [cp_at32 (by omega)]; exact a6 k hk
  · have hk : k < gS G2 := hk
    show cpy 12 (gFer G2) (gFer G) k = -1 ∨ (vp_in (cpy 12 (gFer G2) (gFer G) k) (gP G2) ∧ cpy 48 (gOff G2) (gOff G) (k * 4 + (cpy 12 (gFer G2) (gFer G) k).toNatClampNeg) ≠ 0)
    rw [cp_at32 (show k < 12 by omega)]
    rcases a7 k hk with e | ⟨e, e2⟩
    · exact Or.inl e
    · obtain ⟨ef, lf⟩ := nat_of e (by omega)
      rw [o k _ (by omega) (by omega)]
      exact Or.inr ⟨e, e2⟩
  · show -99 ≤ (cpy 48 (gOff G2) (gOff G) (k * 4 + q)).toInt ∧ (cpy 48 (gOff G2) (gOff G) (k * 4 + q)).toInt ≤ 99
    rw [o k q hk hq]; exact b1 k hk q hq
  · show cpy 48 (gOff G2) (gOff G) (k * 4 + q) = 0
    rw [o k q hk hq]; exact b2 k hk q hq hh
  · have hk : k < gS G2 := hk
    have hb : cpy 12 (gBld G2) (gBld G) k ≠ -1 := hb
    show cpy 12 (gFer G2) (gFer G) k = -1 ∧ ∀ q, q < 4 → cpy 48 (gOff G2) (gOff G) (k * 4 + q) = 0
    rw [cp_at32 (by omega)] at hb ⊢
    exact ⟨(b3 k hk hb).1, fun q hq => by rw [o k q (by omega) hq]; exact (b3 k hk hb).2 q hq⟩
  · have hq : q < gP G2 := hq
    show 0 ≤ (cpy 4 (gMon G2) (gMon G) q).toInt - sumI (resI (f_X1_copyFrom G G2) q) (gS G2)
    rw [cp_at32 (by omega), sumI_c (h := resI G2 q) (gS G2) (fun k hk => by
      show max (cpy 48 (gOff G2) (gOff G) (k * 4 + q)).toInt 0 = max (gOff G2 (k * 4 + q)).toInt 0
      rw [o k q (by omega) (by omega)])]
    exact c1 q hq
  · show gIni G2 = itF (fun p v => v + cpy 4 (gMon G2) (gMon G) p) (gP G2) 0 (gBank G2)
    rw [itF_c (g := fun p v => v + gMon G2 p) (gP G2) (fun p s hp => by rw [cp_at32 (show p < 4 by omega)]) _ _ _ (Nat.zero_add _)]
    exact c2
theorem copy_NR {G G2 : GS} {f : Nat → Int32} (h2 : GSafe G2) (r : NR G2 f) : NR (f_X1_copyFrom G G2) f := by
  have hS := h2.1
  have hP4 := h2.2.1
  obtain ⟨⟨r0, r1, r2, r3, r4, r5⟩, rs, rp, rk⟩ := r
  refine ⟨⟨r0, r1, r2, r3, r4, r5⟩, fun i hi => ?_, fun p hp => ?_, fun k hk => ?_⟩
  · show f (6 + i) = cpy 8 (gSuit G2) (gSuit G) i
    rw [cp_at32 hi]; exact rs i hi
  · have hp : p < gP G2 := hp
    refine ⟨?_, (rp p hp).2⟩
    show f (14 + 2 * p) = cpy 4 (gMon G2) (gMon G) p
    rw [cp_at32 (by omega)]; exact (rp p hp).1
  · have hk : k < gS G2 := hk
    have hk12 : k < 12 := by omega
    obtain ⟨⟨s1, s2, s3, s4, s5⟩, s6⟩ := rk k hk
    refine ⟨⟨?_, ?_, ?_, ?_, ?_⟩, fun q hq => ?_⟩
    · show f (22 + 13 * k) = nI (cpyN 12 (gLo G2) (gLo G) k)
      rw [cpN_at hk12]; exact s1
    · show f (22 + 13 * k + 1) = nI (cpyN 12 (gHi G2) (gHi G) k)
      rw [cpN_at hk12]; exact s2
    · show f (22 + 13 * k + 2) = cpy 12 (gLen G2) (gLen G) k
      rw [cp_at32 hk12]; exact s3
    · show f (22 + 13 * k + 3) = cpy 12 (gBld G2) (gBld G) k
      rw [cp_at32 hk12]; exact s4
    · show f (22 + 13 * k + 4) = cpy 12 (gFer G2) (gFer G) k
      rw [cp_at32 hk12]; exact s5
    · have o : cpy 48 (gOff G2) (gOff G) (k * 4 + q) = gOff G2 (k * 4 + q) := cpy_in (by omega)
      refine ⟨(s6 q hq).1.trans ?_, (s6 q hq).2.trans ?_⟩
      · show iabs (gOff G2 (k * 4 + q)) = iabs (cpy 48 (gOff G2) (gOff G) (k * 4 + q))
        rw [o]
      · congr 1
        refine bool_c (bluff_t.trans (Iff.trans ?_ bluff_t.symm))
        show gOff G2 (k * 4 + q) < 0 ↔ cpy 48 (gOff G2) (gOff G) (k * 4 + q) < 0
        rw [o]
theorem copy_RR {G G2 : GS} {f : Nat → Int32} (h : GSafe G) (h2 : RR G2 f) : RR (f_X1_copyFrom G G2) f := ⟨copy_GI h h2.1, copy_NR (GI_safe h2.1) h2.2.1, h2.2.2.1, copyFrom_fer h2.2.2.2⟩
/-! the history: a ring against a row of rows -/
abbrev slc (hs : Nat → Int32) (k : Nat) : Nat → Int32 := fun j => hs (k * 178 + j)
def HR (S : HS) (hs : Nat → Int32) (rm : Nat) : Prop := hNx S < 8 ∧ hCt S ≤ 8 ∧ rm = hCt S ∧ (∀ j, GSafe (hRg S j)) ∧ ∀ k, k < hCt S → RR (hRg S ((hNx S + (8 - hCt S) + k) % 8)) (slc hs k)
theorem rem_eq (bf hs : Nat → Int32) {rm : Nat} (h : rm ≤ 8) : ∃ hs', f_X8_remembers bf hs rm = (hs', min (rm + 1) 8) ∧ (∀ j, j < 178 → slc hs' (min (rm + 1) 8 - 1) j = bf j) ∧ (rm < 8 → ∀ k, k < rm → ∀ j, j < 178 → slc hs' k j = slc hs k j) ∧ (rm = 8 → ∀ k, k < 7 → ∀ j, j < 178 → slc hs' k j = slc hs (k + 1) j) := by
  unfold f_X8_remembers
  by_cases c : rm = 8
  · subst c
    rw [if_pos (show nI 8 = 8 from rfl)]
    unfold f_X8_remembers_l11
    rw [lpF_it (step := f_X8_remembers_l11s bf 8) (ex := f_X8_remembers_l11e bf 8) (fun k s => upd s k (s (k + 178))) 1246 (fun k s hk => rfl) 1246 0 hs rfl]
    have key : ∀ (n k : Nat) (s : Nat → Int32), (∀ j, k ≤ j → j < k + n → itF (fun k s => upd s k (s (k + 178))) n k s j = s (j + 178)) ∧ ∀ i, i < k ∨ k + n ≤ i → itF (fun k s => upd s k (s (k + 178))) n k s i = s i := by
      intro n
      induction n with
      | zero => intro k s; exact ⟨fun j h1 h2 => absurd h2 (by omega), fun i _ => rfl⟩
      | succ n ih =>
        intro k s
        obtain ⟨h1, h2⟩ := ih (k + 1) (upd s k (s (k + 178)))
        refine ⟨fun j h3 h4 => ?_, fun i h3 => ?_⟩
        · by_cases c : j = k
          · subst c
            exact (h2 _ (by omega)).trans pk_us
          · exact (h1 j (by omega) (by omega)).trans (pk_un (by omega))
        · exact (h2 i (by omega)).trans (pk_un (by omega))
    obtain ⟨k1, k2⟩ := key 1246 0 hs
    generalize itF (fun k s => upd s k (s (k + 178))) 1246 0 hs = h1 at k1 k2 ⊢
    unfold f_X8_remembers_l11e f_X8_remembers_l11x f_X8_remembers_j50 lt_
    obtain ⟨p1, p2⟩ := cp_at bf h1 0 ((8 - 1) * 178)
    refine ⟨_, rfl, fun j hj => ?_, fun h9 => absurd h9 (by omega), fun _ k hk j hj => ?_⟩
    · have := p1 j hj
      rw [Nat.zero_add] at this
      exact this
    · exact (p2 _ (by omega)).trans ((k1 _ (Nat.zero_le _) (by omega)).trans (by show hs _ = hs _; congr 1; omega))
  · rw [if_neg (show ¬ nI rm = 8 from fun e => c ((nI_eq (b := 8) (by omega) (by decide)).mp e))]
    unfold f_X8_remembers_j50 lt_
    obtain ⟨p1, p2⟩ := cp_at bf hs 0 (rm * 178)
    have em : min (rm + 1) 8 = rm + 1 := by omega
    refine ⟨_, by rw [em], fun j hj => ?_, fun _ k hk j hj => p2 _ (by omega), fun h9 => absurd h9 c⟩
    have := p1 j hj
    rw [Nat.zero_add] at this
    rw [em]
    exact this
theorem push_HR {S : HS} {hs bf : Nat → Int32} {rm : Nat} {G : GS} (h : HR S hs rm) (r : RR G bf) : HR (f_X3_push S G) (f_X8_remembers bf hs rm).1 (f_X8_remembers bf hs rm).2 := by
  obtain ⟨h1, h2, h3, h4, h5⟩ := h
  subst h3
  obtain ⟨hs', e, q1, q2, q3⟩ := rem_eq bf hs h2
  rw [e]
  have gs : ∀ j, GSafe (updG (hRg S) (hNx S) (f_X1_copyFrom (hRg S (hNx S)) G) j) := fun j => by
    unfold updG
    split
    · exact copy_safe (h4 _) (GI_safe r.1)
    · exact h4 j
  refine ⟨Nat.mod_lt _ (by decide), Nat.min_le_right _ _, rfl, gs, fun k hk => ?_⟩
  have hk : k < min (hCt S + 1) 8 := hk
  show RR (updG (hRg S) (hNx S) (f_X1_copyFrom (hRg S (hNx S)) G) (((hNx S + 1) % 8 + (8 - min (hCt S + 1) 8) + k) % 8)) (slc hs' k)
  unfold updG
  by_cases last : k = min (hCt S + 1) 8 - 1
  · rw [if_pos (by omega), last]
    exact RR_cg (copy_RR (h4 _) r) q1
  · rw [if_neg (by omega)]
    by_cases c : hCt S = 8
    · have := h5 (k + 1) (by omega)
      rw [show ((hNx S + 1) % 8 + (8 - min (hCt S + 1) 8) + k) % 8 = (hNx S + (8 - hCt S) + (k + 1)) % 8 by omega]
      exact RR_cg this (q3 c k (by omega))
    · have := h5 k (by omega)
      rw [show ((hNx S + 1) % 8 + (8 - min (hCt S + 1) 8) + k) % 8 = (hNx S + (8 - hCt S) + k) % 8 by omega]
      exact RR_cg this (q2 (by omega) k (by omega))
