/-! a change, whole: the judge, the history, the play, against the reference's verb and its end -/
theorem fine_eq {j : Nat} (h : j < 6) : f_X7_refuseUnlessFine j = j := by
  revert j
  decide +kernel
theorem thr_0 (L : List Nat) : thr L 0 = 0 := rfl
theorem thr_ne {L : List Nat} {j : Nat} (h : j ≠ 0) (hl : L.length < 100) (hm : j ∈ L) : ¬ thr L j = 0 := by
  unfold thr
  rw [if_neg h]
  intro e
  have i1 : L.idxOf j < L.length := List.idxOf_lt_length_of_mem hm
  have := (nI_eq (a := L.idxOf j + 1) (b := 0) (by omega) (by decide)).mp e
  omega
def CH (L : List Nat) (A : Nat × Int32 × GS × HS) (B : Int32 × (Nat → Int32) × (Nat → Int32) × (Nat → Int32) × Nat × Int32) : Prop :=
  B.2.2.2.2.2 = thr L A.1 ∧ (A.1 = 0 ∨ A.1 ∈ L) ∧ (A.1 = 0 → B.1 = A.2.1) ∧ RR A.2.2.1 B.2.1 ∧ HR A.2.2.2 B.2.2.2.1 B.2.2.2.2.1
theorem ch_of {L : List Nat} {Q : QS} {G : GS} {S : HS} {nw bf hs : Nat → Int32} {rm n : Nat} {x y w : Int32} {r : Int32 × (Nat → Int32) × Int32} (h : RR G nw) (hh : HR S hs rm) (hn : n < 9) (hl : L.length < 100) (hL : ∀ j, j ∈ L → j < 6) (ok : NowOK r.2.1) (v : VR L (f_X1_judge G n x y w) (f_X1_play G n x y w).1 (f_X1_play G n x y w).2 r nw) :
    CH L (f_X7_change Q G S n x y w) (lt_ (f_X8_ends r.2.1 (f_X8_copies nw bf 0 0) hs rm r.2.2 r.1) (fun y10 => (y10.1, y10.2.1, f_X8_copies nw bf 0 0, y10.2.2.1, y10.2.2.2, r.2.2))) := by
  obtain ⟨v1, v2, v3, v4⟩ := v
  obtain ⟨p1, p2⟩ := cp_at nw bf 0 0
  unfold f_X7_change f_X8_ends
  by_cases j : f_X1_judge G n x y w = 0
  · obtain ⟨v5, v6, v7⟩ := v4 j
    have gf := X1_play_ok (G := G) ⟨GI_safe h.1, h.2.2.2⟩ hn j
    have rb : RR G (f_X8_copies nw bf 0 0) := RR_cg h (fun j hj => by have := p1 j hj; rw [Nat.zero_add] at this; exact this)
    have ph := push_HR hh rb
    rw [j, fine_eq (by decide)]
    rw [j, thr_0] at v1
    rw [v1]
    unfold lt_
    exact ⟨rfl, Or.inl rfl, fun _ => v5, ⟨v7, v6, ok, gf.2⟩, ph⟩
  · have hm := v2.resolve_left j
    have v3 := v3 j
    have n0 := thr_ne j hl hm
    rw [fine_eq (hL _ hm), v1, if_neg n0]
    unfold lt_
    dsimp only
    rw [if_neg j]
    obtain ⟨q1, q2⟩ := cp_at (f_X8_copies nw bf 0 0) r.2.1 0 0
    have e3 : ∀ k, k < 178 → f_X8_copies (f_X8_copies nw bf 0 0) r.2.1 0 0 k = nw k := fun k hk => by
      have e1 := q1 k hk
      have e2 := p1 k hk
      rw [Nat.zero_add] at e1 e2
      rw [e1]
      exact e2
    have e4 : RR G (f_X8_copies (f_X8_copies nw bf 0 0) r.2.1 0 0) := RR_cg h e3
    unfold CH
    dsimp only
    exact ⟨rfl, Or.inr hm, fun h9 => absurd h9 j, e4, hh⟩
theorem CH_if {L : List Nat} {A : Nat × Int32 × GS × HS} {B : Int32 × (Nat → Int32) × (Nat → Int32) × (Nat → Int32) × Nat × Int32} (h : CH L A B) : CH L (lt_ A (fun y7 => (if y7.1 = 0 then (0, y7.2.1, y7.2.2.1, y7.2.2.2) else (y7.1, 0, y7.2.2.1, y7.2.2.2)))) B := by
  obtain ⟨h1, h2, h3, h4, h5⟩ := h
  unfold lt_
  dsimp only
  by_cases c : A.1 = 0
  · rw [if_pos c]
    exact ⟨by rw [c] at h1; exact h1, Or.inl rfl, fun _ => h3 c, h4, h5⟩
  · rw [if_neg c]
    exact ⟨h1, h2, fun h9 => absurd h9 c, h4, h5⟩
theorem play_0 (G : GS) (x y w : Int32) : f_X1_play G 0 x y w = (nI (f_X1_join G x).1, (f_X1_join G x).2) := rfl
theorem b_addPlayer {Q : QS} {G : GS} {S : HS} {nw bf hs : Nat → Int32} {rm : Nat} (h : RR G nw) (hh : HR S hs rm) (x : Int32) : CH [2, 3] (f_X7_addPlayer Q G S x) (f_X8_addPlayer nw bf hs rm x) :=
  CH_if (ch_of (n := 0) (x := x) (y := 0) (w := 0) h hh (by decide) (by decide) (by decide) (X8_joins_ok h.2.2.1 x) (v_joins h.1 h.2.1 x))
theorem b_addSite {Q : QS} {G : GS} {S : HS} {nw bf hs : Nat → Int32} {rm : Nat} (h : RR G nw) (hh : HR S hs rm) (x y w : Int32) : CH [1, 2, 4, 3] (f_X7_addSite Q G S x y w) (f_X8_addSite nw bf hs rm x y w) :=
  CH_if (ch_of (n := 1) (x := x) (y := y) (w := w) h hh (by decide) (by decide) (by decide) (X8_adds_ok h.2.2.1 x y w) (v_adds h.1 h.2.1 x y w))
theorem b_setSuit {Q : QS} {G : GS} {S : HS} {nw bf hs : Nat → Int32} {rm : Nat} (h : RR G nw) (hh : HR S hs rm) (x y : Int32) : CH [1, 2] (f_X7_setSuit Q G S x y) (f_X8_setSuit nw bf hs rm x y) :=
  CH_if (ch_of (n := 2) (x := x) (y := y) (w := 0) h hh (by decide) (by decide) (by decide) (X8_dresses_ok h.2.2.1 x y) (v_dresses h.1 h.2.1 x y))
theorem b_setTide {Q : QS} {G : GS} {S : HS} {nw bf hs : Nat → Int32} {rm : Nat} (h : RR G nw) (hh : HR S hs rm) (x : Int32) : CH [2] (f_X7_setTide Q G S x) (f_X8_setTide nw bf hs rm x) :=
  CH_if (ch_of (n := 3) (x := x) (y := 0) (w := 0) h hh (by decide) (by decide) (by decide) (X8_floods_ok h.2.2.1 x) (v_floods h.1 h.2.1 x))
theorem b_placeBid {Q : QS} {G : GS} {S : HS} {nw bf hs : Nat → Int32} {rm : Nat} (h : RR G nw) (hh : HR S hs rm) (x y w : Int32) : CH [1, 2, 3, 4] (f_X7_placeBid Q G S x y w) (f_X8_placeBid nw bf hs rm x y w) :=
  CH_if (ch_of (n := 4) (x := x) (y := y) (w := w) h hh (by decide) (by decide) (by decide) (X8_bids_ok h.2.2.1 x y w false) (v_bids h.1 h.2.1 x y w))
theorem b_placeBluff {Q : QS} {G : GS} {S : HS} {nw bf hs : Nat → Int32} {rm : Nat} (h : RR G nw) (hh : HR S hs rm) (x y w : Int32) : CH [1, 2, 3, 4] (f_X7_placeBluff Q G S x y w) (f_X8_placeBluff nw bf hs rm x y w) :=
  CH_if (ch_of (n := 5) (x := x) (y := y) (w := w) h hh (by decide) (by decide) (by decide) (X8_bids_ok h.2.2.1 x y w true) (v_bluffs h.1 h.2.1 x y w))
theorem b_withdrawBid {Q : QS} {G : GS} {S : HS} {nw bf hs : Nat → Int32} {rm : Nat} (h : RR G nw) (hh : HR S hs rm) (x y : Int32) : CH [1, 5, 3] (f_X7_withdrawBid Q G S x y) (f_X8_withdrawBid nw bf hs rm x y) :=
  CH_if (ch_of (n := 7) (x := x) (y := y) (w := 0) h hh (by decide) (by decide) (by decide) (X8_drops_ok h.2.2.1 x y) (v_drops h.1 h.2.1 x y))
theorem b_playFerry {Q : QS} {G : GS} {S : HS} {nw bf hs : Nat → Int32} {rm : Nat} (h : RR G nw) (hh : HR S hs rm) (x y : Int32) : CH [1, 5, 3, 4] (f_X7_playFerry Q G S x y) (f_X8_playFerry nw bf hs rm x y) :=
  CH_if (ch_of (n := 6) (x := x) (y := y) (w := 0) h hh (by decide) (by decide) (by decide) (X8_ferries_ok h.2.2.1 x y) (v_ferries h.1 h.2.1 x y))
theorem play_8 (G : GS) (x y w : Int32) : f_X1_play G 8 x y w = (bI (f_X1_close G x.toNatClampNeg).1, (f_X1_close G x.toNatClampNeg).2) := by
  have c : smB.getD 8 0 = 0 := rfl
  unfold f_X1_play
  rw [c, if_neg (by decide), if_neg (by decide), if_neg (by decide), if_neg (by decide), if_neg (by decide), if_neg (by decide), if_neg (by decide), if_neg (by decide)]
  unfold lt_ f_X1_play_j149
  dsimp only
  cases e : (f_X1_close G x.toNatClampNeg).1 <;> rfl
theorem thr_5 : gThr false = thr [5] 5 := by decide +kernel
theorem thr_3 : gThr false = thr [3] 3 := by decide +kernel
def CHB (L : List Nat) (A : Nat × Bool × GS × HS) (B : Bool × (Nat → Int32) × (Nat → Int32) × (Nat → Int32) × Nat × Int32) : Prop :=
  B.2.2.2.2.2 = thr L A.1 ∧ (A.1 = 0 ∨ A.1 ∈ L) ∧ (A.1 = 0 → B.1 = A.2.1) ∧ RR A.2.2.1 B.2.1 ∧ HR A.2.2.2 B.2.2.2.1 B.2.2.2.2.1
theorem b_settle {Q : QS} {G : GS} {S : HS} {nw bf hs : Nat → Int32} {rm : Nat} (h : RR G nw) (hh : HR S hs rm) (x : Int32) : CHB [1, 3, 5] (f_X7_settle Q G S x) (f_X8_settle nw bf hs rm x) := by
  have k := ch_of (L := [1, 3, 5]) (Q := Q) (bf := bf) (n := 8) (x := x) (y := 0) (w := 0) h hh (by decide) (by decide) (by decide) (X8_settles_ok h.2.2.1 x) (by rw [X1_judge_9 (show smB.getD 8 0 = 0 from rfl), play_8]; exact v_settles h.1 h.2.1 x)
  unfold f_X7_settle f_X8_settle
  generalize f_X7_change Q G S 8 x 0 0 = A at k ⊢
  unfold lt_ at k ⊢
  dsimp only at k ⊢
  generalize f_X8_ends (f_X8_settles nw x).2.1 (f_X8_copies nw bf 0 0) hs rm (f_X8_settles nw x).2.2 (f_X8_settles nw x).1 = B at k ⊢
  obtain ⟨h1, h2, h3, h4, h5⟩ := k
  unfold f_X7_settle_j19 f_X8_settle_j22
  by_cases c : A.1 = 0
  · rw [if_pos c]
    have h3 := h3 c
    rw [c] at h1
    have h3 : B.1 = A.2.1 := h3
    rw [h3]
    by_cases d : A.2.1 = 1
    · rw [if_pos d, if_pos d]
      exact ⟨h1, Or.inl rfl, fun _ => rfl, h4, h5⟩
    · rw [if_neg d, if_neg d]
      exact ⟨h1, Or.inl rfl, fun _ => rfl, h4, h5⟩
  · rw [if_neg c]
    by_cases d : B.1 = 1
    · rw [if_pos d]
      exact ⟨h1, h2, fun h9 => absurd h9 c, h4, h5⟩
    · rw [if_neg d]
      exact ⟨h1, h2, fun h9 => absurd h9 c, h4, h5⟩
/-! undo, save, restore -/
