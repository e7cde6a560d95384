/-! settling -/
/-- the game after a settling: w pays u (n of it with a bluff), the site k goes to v -/
abbrev gSt (G : GS) (k w : Nat) (u n v : Int32) (o : Nat → Int32) : GS := mkG (gSuit G) (gTide G) (gP G) (upd (gMon G) w (gMon G w - u)) (gUsed G) (gS G) (gLo G) (gHi G) (gLen G) (upd (gBld G) k v) (upd (gFer G) k (-1)) o (gIni G) (gBank G + u) (gSet G + 1) (gBlf G + n)
def OffK (G : GS) (k : Nat) (o : Nat → Int32) : Prop := (∀ q, q < 4 → o (k * 4 + q) = 0) ∧ ∀ i, (∀ q, q < 4 → i ≠ k * 4 + q) → o i = gOff G i
theorem pay_sum (m : Nat → Int32) (w : Nat) (x : Int32) : ∀ (n : Nat) (b : Int32), itF (fun p v => v + upd m w (m w - x) p) n 0 (b + x) = itF (fun p v => v + m p) n 0 b + (if w < n then 0 else x) := by
  intro n
  induction n with
  | zero =>
    intro b
    rw [if_neg (Nat.not_lt_zero w)]
    rfl
  | succ n ih =>
    intro b
    rw [itF_snoc, itF_snoc, Nat.zero_add, ih b]
    generalize itF (fun p v => v + m p) n 0 b = I
    show I + (if w < n then 0 else x) + upd m w (m w - x) n = I + m n + (if w < n + 1 then 0 else x)
    by_cases c : w = n
    · subst c
      rw [if_neg (Nat.lt_irrefl w), if_pos (Nat.lt_succ_self w), pk_us, Int32.add_assoc, Int32.add_comm x, Int32.sub_add_cancel, Int32.add_zero]
    · rw [pk_un (fun e => c e.symm)]
      by_cases d : w < n
      · rw [if_pos d, if_pos (by omega), Int32.add_zero, Int32.add_zero]
      · rw [if_neg d, if_neg (by omega), Int32.add_assoc, Int32.add_assoc, Int32.add_comm x]
theorem st_GI {G : GS} (h : GI G) {k w : Nat} (hk : k < gS G) (hw : w < gP G) {u n v : Int32} {o : Nat → Int32} (ho : OffK G k o) (hv : v = -1 ∨ v = nI w) (hu1 : 0 ≤ u.toInt) (hu2 : u.toInt ≤ avI G w + resI G w k) : GI (gSt G k w u n v o) := by
  have hG := GI_safe h
  have hS := hG.1
  have hP4 := hG.2.1
  have hm := GI_mon h hw
  have hav := avI_le h hw
  have hge := sumI_ge (g := resI G w) (i := k) (gS G) hk (fun k' hk' => (resI_b h.2.1 (show k' < 12 by omega) (show w < 4 by omega)).1)
  have hrb := resI_b h.2.1 (show k < 12 by omega) (show w < 4 by omega)
  have hmi : (gMon G w - u).toInt = (gMon G w).toInt - u.toInt := sub_int (by unfold avI at hu2 hav; omega) (by omega)
  have un : ∀ k' q', k' ≠ k → q' < 4 → o (k' * 4 + q') = gOff G (k' * 4 + q') := fun k' q' hn hq' => ho.2 _ (fun q hq e => hn (by omega))
  obtain ⟨⟨a1, a2, a3, a4, a5, a6, a7⟩, ⟨b1, b2, b3, b4⟩, c1, c2⟩ := h
  refine ⟨⟨a1, a2, a3, fun p hp => ?_, a5, fun k' hk' => ?_, fun k' hk' => ?_⟩, ⟨fun k' hk' q' hq' => ?_, fun k' hk' q' hq' hh => ?_, fun k' hk' hb' => ?_, b4⟩, fun q' hq' => ?_, ?_⟩
  · have hp : p < gP G := hp
    show vp_in (upd (gMon G) w (gMon G w - u) p) 100
    by_cases c : p = w
    · subst c
      rw [pk_us]
      exact vp_of_int (by rw [hmi]; unfold avI at hu2; omega) (by rw [hmi]; omega)
    · rw [pk_un c]; exact a4 p hp
  · show upd (gBld G) k v k' = -1 ∨ vp_in (upd (gBld G) k v k') (gP G)
    by_cases c : k' = k
    · subst c
      rw [pk_us]
      rcases hv with e | e
      · exact Or.inl e
      · rw [e]; exact Or.inr (vp_in_nI hw (by omega))
    · rw [pk_un c]; exact a6 k' hk'
  · have hk' : k' < gS G := hk'
    show upd (gFer G) k (-1) k' = -1 ∨ (vp_in (upd (gFer G) k (-1) k') (gP G) ∧ o (k' * 4 + (upd (gFer G) k (-1) k').toNatClampNeg) ≠ 0)
    by_cases c : k' = k
    · subst c; rw [pk_us]; exact Or.inl rfl
    · rw [pk_un c]
      rcases a7 k' hk' with e | ⟨e, e2⟩
      · exact Or.inl e
      · obtain ⟨ef, lf⟩ := nat_of e (by omega)
        rw [un k' _ c (by omega)]
        exact Or.inr ⟨e, e2⟩
  · show -99 ≤ (o (k' * 4 + q')).toInt ∧ (o (k' * 4 + q')).toInt ≤ 99
    by_cases c : k' = k
    · subst c
      rw [ho.1 q' hq']
      exact ⟨by decide, by decide⟩
    · rw [un k' q' c hq']; exact b1 k' hk' q' hq'
  · show o (k' * 4 + q') = 0
    by_cases c : k' = k
    · subst c; exact ho.1 q' hq'
    · rw [un k' q' c hq']; exact b2 k' hk' q' hq' hh
  · have hk' : k' < gS G := hk'
    have hb' : upd (gBld G) k v k' ≠ -1 := hb'
    show upd (gFer G) k (-1) k' = -1 ∧ ∀ q, q < 4 → o (k' * 4 + q) = 0
    by_cases c : k' = k
    · subst c; exact ⟨pk_us, ho.1⟩
    · rw [pk_un c] at hb' ⊢
      obtain ⟨z1, z2⟩ := b3 k' hk' hb'
      exact ⟨z1, fun q hq => by rw [un k' q c hq]; exact z2 q hq⟩
  · have hq' : q' < gP G := hq'
    show 0 ≤ (upd (gMon G) w (gMon G w - u) q').toInt - sumI (resI (gSt G k w u n v o) q') (gS G)
    rw [sumI_1 (h := resI G q') (i := k) (gS G) hk (fun k' hk' hn => by
      show max (o (k' * 4 + q')).toInt 0 = max (gOff G (k' * 4 + q')).toInt 0
      rw [un k' q' hn (by omega)])]
    have e9 : resI (gSt G k w u n v o) q' k = 0 := by
      show max (o (k * 4 + q')).toInt 0 = 0
      rw [ho.1 q' (by omega)]
      rfl
    have hc := c1 q' hq'
    have hr := resI_b ⟨b1, b2, b3, b4⟩ (show k < 12 by omega) (show q' < 4 by omega)
    unfold avI at hc hu2
    rw [e9]
    by_cases c : q' = w
    · subst c
      rw [pk_us, hmi]
      omega
    · rw [pk_un c]
      omega
  · show gIni G = itF (fun p v => v + upd (gMon G) w (gMon G w - u) p) (gP G) 0 (gBank G + u)
    rw [pay_sum, if_pos hw, ← c2, Int32.add_zero]
/-- the reference's row after a settling -/
theorem st_NR {G : GS} {f f1 : Nat → Int32} (hP4 : gP G ≤ 4) (r : NR G f) {k w : Nat} (hk : k < gS G) (hw : w < gP G) {u n v : Int32} {o : Nat → Int32} (ho : OffK G k o)
    (z1 : ∀ i, (∀ p, p < 4 → i ≠ 22 + 13 * k + 5 + p ∧ i ≠ 22 + 13 * k + 9 + p) → f1 i = f i) (z2 : ∀ p, p < 4 → f1 (22 + 13 * k + 5 + p) = 0 ∧ f1 (22 + 13 * k + 9 + p) = 0) :
    NR (gSt G k w u n v o) (upd (upd (upd (upd (upd (upd f1 (22 + 13 * k + 4) (-1)) (14 + 2 * w + 0) (f (14 + 2 * w) - u)) 3 (f 3 + u)) 4 (f 4 + 1)) 5 (f 5 + n)) (22 + 13 * k + 3) v) := by
  obtain ⟨⟨r0, r1, r2, r3, r4, r5⟩, rs, rp, rk⟩ := r
  have lo : ∀ z, z ≠ 22 + 13 * k + 3 → z ≠ 5 → z ≠ 4 → z ≠ 3 → z ≠ 14 + 2 * w → z ≠ 22 + 13 * k + 4 → (∀ p, p < 4 → z ≠ 22 + 13 * k + 5 + p ∧ z ≠ 22 + 13 * k + 9 + p) → upd (upd (upd (upd (upd (upd f1 (22 + 13 * k + 4) (-1)) (14 + 2 * w + 0) (f (14 + 2 * w) - u)) 3 (f 3 + u)) 4 (f 4 + 1)) 5 (f 5 + n)) (22 + 13 * k + 3) v z = f z := fun z h1 h2 h3 h4 h5 h6 h7 =>
    (pk_un h1).trans ((pk_un h2).trans ((pk_un h3).trans ((pk_un h4).trans ((pk_un h5).trans ((pk_un h6).trans (z1 z h7))))))
  have l14 : ∀ z, z < 22 → z ≠ 5 → z ≠ 4 → z ≠ 3 → z ≠ 14 + 2 * w → upd (upd (upd (upd (upd (upd f1 (22 + 13 * k + 4) (-1)) (14 + 2 * w + 0) (f (14 + 2 * w) - u)) 3 (f 3 + u)) 4 (f 4 + 1)) 5 (f 5 + n)) (22 + 13 * k + 3) v z = f z := fun z h0 h2 h3 h4 h5 => lo z (by omega) h2 h3 h4 h5 (by omega) (fun p hp => by omega)
  refine ⟨⟨(l14 0 (by omega) (by omega) (by omega) (by omega) (by omega)).trans r0, (l14 1 (by omega) (by omega) (by omega) (by omega) (by omega)).trans r1, (l14 2 (by omega) (by omega) (by omega) (by omega) (by omega)).trans r2, ?_, ?_, ?_⟩, fun i hi => (l14 _ (by omega) (by omega) (by omega) (by omega) (by omega)).trans (rs i hi), fun p hp => ?_, fun k' hk' => ?_⟩
  · refine (pk_un (by omega)).trans ((pk_un (by omega)).trans ((pk_un (by omega)).trans (pk_us.trans ?_)))
    rw [r3]
  · refine (pk_un (by omega)).trans ((pk_un (by omega)).trans (pk_us.trans ?_))
    rw [r4]
  · refine (pk_un (by omega)).trans (pk_us.trans ?_)
    rw [r5]
  · have hp : p < gP G := hp
    obtain ⟨y1, y2⟩ := rp p hp
    refine ⟨?_, (l14 _ (by omega) (by omega) (by omega) (by omega) (by omega)).trans y2⟩
    show _ = upd (gMon G) w (gMon G w - u) p
    by_cases c : p = w
    · subst c
      rw [pk_us]
      refine (pk_un (by omega)).trans ((pk_un (by omega)).trans ((pk_un (by omega)).trans ((pk_un (by omega)).trans ((show _ = _ from pk_us).trans ?_))))
      rw [y1]
    · rw [pk_un c]
      exact (l14 _ (by omega) (by omega) (by omega) (by omega) (by omega)).trans y1
  · have hk' : k' < gS G := hk'
    obtain ⟨⟨s1, s2, s3, s4, s5⟩, s6⟩ := rk k' hk'
    refine ⟨⟨(lo _ (by omega) (by omega) (by omega) (by omega) (by omega) (by omega) (fun p hp => by omega)).trans s1, (lo _ (by omega) (by omega) (by omega) (by omega) (by omega) (by omega) (fun p hp => by omega)).trans s2, (lo _ (by omega) (by omega) (by omega) (by omega) (by omega) (by omega) (fun p hp => by omega)).trans s3, ?_, ?_⟩, fun q' hq' => ?_⟩
    · show _ = upd (gBld G) k v k'
      by_cases c : k' = k
      · subst c
        rw [pk_us, pk_us]
      · rw [pk_un c]
        exact (lo _ (by omega) (by omega) (by omega) (by omega) (by omega) (by omega) (fun p hp => by omega)).trans s4
    · show _ = upd (gFer G) k (-1) k'
      by_cases c : k' = k
      · subst c
        rw [pk_us]
        exact (pk_un (by omega)).trans ((pk_un (by omega)).trans ((pk_un (by omega)).trans ((pk_un (by omega)).trans ((pk_un (by omega)).trans pk_us))))
      · rw [pk_un c]
        exact (lo _ (by omega) (by omega) (by omega) (by omega) (by omega) (by omega) (fun p hp => by omega)).trans s5
    · by_cases c : k' = k
      · subst c
        have hz := ho.1 q' hq'
        refine ⟨?_, ?_⟩
        · refine (pk_un (by omega)).trans ((pk_un (by omega)).trans ((pk_un (by omega)).trans ((pk_un (by omega)).trans ((pk_un (by omega)).trans ((pk_un (by omega)).trans ?_)))))
          rw [show 22 + 13 * k' + (5 + q') = 22 + 13 * k' + 5 + q' by omega, (z2 q' hq').1]
          show 0 = iabs (o (k' * 4 + q'))
          rw [hz]
          rfl
        · refine (pk_un (by omega)).trans ((pk_un (by omega)).trans ((pk_un (by omega)).trans ((pk_un (by omega)).trans ((pk_un (by omega)).trans ((pk_un (by omega)).trans ?_)))))
          rw [show 22 + 13 * k' + (9 + q') = 22 + 13 * k' + 9 + q' by omega, (z2 q' hq').2]
          have hz2 : f_X1_hasBluff (gSt G k' w u n v o) q' k' = false := by
            cases hb : f_X1_hasBluff (gSt G k' w u n v o) q' k'
            · rfl
            · have hb := bluff_t.mp hb
              have hb : o (k' * 4 + q') < 0 := hb
              rw [hz] at hb
              exact absurd hb (by decide)
          rw [hz2]
          rfl
      · have hz : o (k' * 4 + q') = gOff G (k' * 4 + q') := ho.2 _ (fun q hq e => c (by omega))
        refine ⟨(lo _ (by omega) (by omega) (by omega) (by omega) (by omega) (by omega) (fun p hp => by omega)).trans ((s6 q' hq').1.trans ?_), (lo _ (by omega) (by omega) (by omega) (by omega) (by omega) (by omega) (fun p hp => by omega)).trans ((s6 q' hq').2.trans ?_)⟩
        · show iabs (gOff G (k' * 4 + q')) = iabs (o (k' * 4 + q'))
          rw [hz]
        · congr 1
          refine bool_c (bluff_t.trans (Iff.trans ?_ bluff_t.symm))
          show gOff G (k' * 4 + q') < 0 ↔ o (k' * 4 + q') < 0
          rw [hz]
