/-! joined by what stays -/
def bN (G : GS) (b : Nat → Bool) (n : Nat) : Edg → Prop := fun e => ∃ k, k < n ∧ b k = true ∧ e = edE G k
abbrev bE (G : GS) (b : Nat → Bool) : Edg → Prop := bN G b (gS G)
theorem bit_shr (r : Int32) : ∀ j, j < 8 → bitAt (r >>> (nI j &&& 31)) 0 = bitAt r j := by
  intro j hj
  have e : ∀ j, j < 8 → ((nI j &&& 31).toBitVec.smod 32).toNat = j := by decide +kernel
  unfold bitAt
  rw [Int32.toBitVec_shiftRight, BitVec.getLsbD_sshiftRight', e j hj]
  simp [show j < 32 by omega]
theorem and_1 (v : Int32) : v &&& 1 = 1 ↔ bitAt v 0 = true := by
  have b1 : ∀ k, k < 32 → bitAt 1 k = decide (k = 0) := by decide +kernel
  constructor
  · intro h
    have e := congrArg (fun t => bitAt t 0) h
    simp only [bit_and, b1 0 (by decide)] at e
    simpa using e
  · intro h
    refine bit_ext (fun k hk => ?_)
    rw [bit_and, b1 k hk]
    by_cases q : k = 0
    · subst q
      rw [h]
      rfl
    · simp [q]
theorem bit_both (r : Int32) {i j x : Nat} (hi : i < 8) (hj : j < 8) (hx : x < 8) : bitAt (r ||| ((1 <<< (nI i &&& 31)) ||| (1 <<< (nI j &&& 31)))) x = (bitAt r x || (decide (x = i) || decide (x = j))) := by
  rw [bit_or, bit_or, bit_mask i hi, bit_mask j hj, bit_mask_at i hi x (by omega), bit_mask_at j hj x (by omega)]
theorem none_both {r : Int32} {i j : Nat} (hi : i < 8) (hj : j < 8) (h : r &&& ((1 <<< (nI i &&& 31)) ||| (1 <<< (nI j &&& 31))) = 0) : bitAt r i = false ∧ bitAt r j = false := by
  have e : ∀ x, x < 8 → (bitAt r x && (decide (x = i) || decide (x = j))) = false := fun x hx => by
    have q := congrArg (fun t => bitAt t x) h
    simp only [bit_0] at q
    rw [bit_and, bit_or, bit_mask i hi, bit_mask j hj, bit_mask_at i hi x (by omega), bit_mask_at j hj x (by omega)] at q
    exact q
  have e1 := e i hi
  have e2 := e j hj
  simp at e1 e2
  exact ⟨e1, e2⟩
theorem some_both {r : Int32} {i j : Nat} (hi : i < 8) (hj : j < 8) (h : ¬ r &&& ((1 <<< (nI i &&& 31)) ||| (1 <<< (nI j &&& 31))) = 0) : bitAt r i = true ∨ bitAt r j = true := by
  cases a : bitAt r i
  · cases b : bitAt r j
    · refine absurd (bit_ext (fun k hk => ?_)) h
      rw [bit_and, bit_or, bit_0, bit_mask i hi, bit_mask j hj, bit_mask_at i hi k hk, bit_mask_at j hj k hk]
      by_cases p : k = i
      · subst p; rw [a]; rfl
      · by_cases q : k = j
        · subst q; rw [b]; rfl
        · simp [p, q]
    · exact Or.inr rfl
  · exact Or.inl rfl
theorem join_scan {K : CT} (h : GI0 (kG K)) (b : Nat → Bool) {i : Nat} (r : Int32) (hr : ∀ x, x < 8 → bitAt r x = true → Conn (bE (kG K) b) i x) : ∃ r', f_L_isJoined_l22 K b (gS (kG K)) 0 r r = .inr (r', r) ∧ jI r r' ∧ (∀ x, x < 8 → bitAt r x = true → bitAt r' x = true) ∧ (∀ x, x < 8 → bitAt r' x = true → Conn (bE (kG K) b) i x) ∧ ∀ k, k < gS (kG K) → b k = true → (bitAt r (gLo (kG K) k) = true ∨ bitAt r (gHi (kG K) k) = true) → bitAt r' (gLo (kG K) k) = true ∧ bitAt r' (gHi (kG K) k) = true := by
  unfold f_L_isJoined_l22
  refine lpF_invN (gS (kG K)) (fun n (s : Int32 × Int32) => s.2 = r ∧ jI r s.1 ∧ (∀ x, x < 8 → bitAt r x = true → bitAt s.1 x = true) ∧ (∀ x, x < 8 → bitAt s.1 x = true → Conn (bE (kG K) b) i x) ∧ ∀ k, k < n → b k = true → (bitAt r (gLo (kG K) k) = true ∨ bitAt r (gHi (kG K) k) = true) → bitAt s.1 (gLo (kG K) k) = true ∧ bitAt s.1 (gHi (kG K) k) = true) (fun (z : Sum Bool (Int32 × Int32)) => ∃ r', z = .inr (r', r) ∧ jI r r' ∧ (∀ x, x < 8 → bitAt r x = true → bitAt r' x = true) ∧ (∀ x, x < 8 → bitAt r' x = true → Conn (bE (kG K) b) i x) ∧ ∀ k, k < gS (kG K) → b k = true → (bitAt r (gLo (kG K) k) = true ∨ bitAt r (gHi (kG K) k) = true) → bitAt r' (gLo (kG K) k) = true ∧ bitAt r' (gHi (kG K) k) = true) ?_ ?_ ?_ _ 0 _ (Nat.zero_add _) ⟨rfl, jI_rf r, fun _ _ e => e, hr, fun k hk => absurd hk (Nat.not_lt_zero k)⟩
  · rintro k ⟨v, w⟩ z hk _ e
    have e : f_L_isJoined_l22b K b k v w = .inl z := e
    unfold f_L_isJoined_l22b f_L_isJoined_j70 f_L_isJoined_j71 at e
    split at e
    · split at e <;> cases e
    · cases e
  · rintro k ⟨v, w⟩ t hk ⟨e1, e2, e3, e4, e5⟩ e
    have e1 : w = r := e1
    subst e1
    have e2 : jI w v := e2
    have e3 : ∀ x, x < 8 → bitAt w x = true → bitAt v x = true := e3
    have e4 : ∀ x, x < 8 → bitAt v x = true → Conn (bE (kG K) b) i x := e4
    have e5 : ∀ j, j < k → b j = true → (bitAt w (gLo (kG K) j) = true ∨ bitAt w (gHi (kG K) j) = true) → bitAt v (gLo (kG K) j) = true ∧ bitAt v (gHi (kG K) j) = true := e5
    have e : f_L_isJoined_l22b K b k v w = .inr t := e
    have hlo : gLo (kG K) k < 8 := h.1.2.2.1 k
    have hhi : gHi (kG K) k < 8 := h.1.2.2.2 k
    have keep : (b k = true → ¬ (bitAt w (gLo (kG K) k) = true ∨ bitAt w (gHi (kG K) k) = true)) → t = (v ||| 0, w) → t.2 = w ∧ jI w t.1 ∧ (∀ x, x < 8 → bitAt w x = true → bitAt t.1 x = true) ∧ (∀ x, x < 8 → bitAt t.1 x = true → Conn (bE (kG K) b) i x) ∧ ∀ j, j < k + 1 → b j = true → (bitAt w (gLo (kG K) j) = true ∨ bitAt w (gHi (kG K) j) = true) → bitAt t.1 (gLo (kG K) j) = true ∧ bitAt t.1 (gHi (kG K) j) = true := by
      intro hn et
      subst et
      rw [or_0]
      refine ⟨rfl, e2, e3, e4, fun j hj bj o => ?_⟩
      by_cases q : j = k
      · subst q
        exact absurd o (hn bj)
      · exact e5 j (by omega) bj o
    unfold f_L_isJoined_l22b f_L_isJoined_j70 f_L_isJoined_j71 at e
    by_cases c : b k = true
    · rw [if_pos c] at e
      by_cases d : v &&& ((1 <<< (nI (gLo (kG K) k) &&& 31)) ||| (1 <<< (nI (gHi (kG K) k) &&& 31))) = 0
      · rw [if_pos d] at e
        have nb := none_both hlo hhi d
        refine keep (fun _ o => ?_) (Sum.inr.inj e).symm
        rcases o with o | o
        · have := e3 _ hlo o
          rw [nb.1] at this
          cases this
        · have := e3 _ hhi o
          rw [nb.2] at this
          cases this
      · rw [if_neg d] at e
        have et := (Sum.inr.inj e).symm
        subst et
        have sb := some_both hlo hhi d
        have ed : Conn (bE (kG K) b) (gLo (kG K) k) (gHi (kG K) k) := Conn_ed (e := edE (kG K) k) ⟨k, hk, c, rfl⟩
        have both : Conn (bE (kG K) b) i (gLo (kG K) k) ∧ Conn (bE (kG K) b) i (gHi (kG K) k) := by
          rcases sb with s | s
          · have := e4 _ hlo s
            exact ⟨this, Conn_tr this ed⟩
          · have := e4 _ hhi s
            exact ⟨Conn_tr this (Conn_sy ed), this⟩
        refine ⟨rfl, jI_or e2 hlo hhi, fun x hx q => ?_, fun x hx q => ?_, fun j hj bj o => ?_⟩
        · show bitAt (v ||| _) x = true
          rw [bit_both v hlo hhi hx, e3 x hx q]
          rfl
        · have q : bitAt (v ||| ((1 <<< (nI (gLo (kG K) k) &&& 31)) ||| (1 <<< (nI (gHi (kG K) k) &&& 31)))) x = true := q
          rw [bit_both v hlo hhi hx, Bool.or_eq_true, Bool.or_eq_true, decide_eq_true_iff, decide_eq_true_iff] at q
          rcases q with q | q | q
          · exact e4 x hx q
          · subst q; exact both.1
          · subst q; exact both.2
        · show bitAt (v ||| _) _ = true ∧ bitAt (v ||| _) _ = true
          by_cases q : j = k
          · subst q
            rw [bit_both v hlo hhi hlo, bit_both v hlo hhi hhi]
            simp
          · have i5 := e5 j (by omega) bj o
            rw [bit_both v hlo hhi (h.1.2.2.1 j), bit_both v hlo hhi (h.1.2.2.2 j), i5.1, i5.2]
            exact ⟨rfl, rfl⟩
    · rw [if_neg c] at e
      exact keep (fun z => absurd z c) (Sum.inr.inj e).symm
  · rintro ⟨v, w⟩ ⟨e1, e2, e3, e4, e5⟩
    have e1 : w = r := e1
    subst e1
    exact ⟨v, rfl, e2, e3, e4, e5⟩
theorem joined_c {K : CT} (h : GI0 (kG K)) (b : Nat → Bool) {i j : Nat} (hi : i < 8) (hj : j < 8) : f_L_isJoined K b i j = true ↔ Conn (bE (kG K) b) i j := by
  have key : ∀ n r bf, jM bf r < n → bitAt r i = true → (∀ x, x < 8 → bitAt r x = true → Conn (bE (kG K) b) i x) → (bf = r → ∀ k, k < gS (kG K) → b k = true → (bitAt r (gLo (kG K) k) = true ∨ bitAt r (gHi (kG K) k) = true) → bitAt r (gLo (kG K) k) = true ∧ bitAt r (gHi (kG K) k) = true) → (lpW (default : Bool) (f_L_isJoined_l8s K b j) n (r, bf) = true ↔ Conn (bE (kG K) b) i j) := by
    intro n
    induction n with
    | zero => intro r bf hn; omega
    | succ n ih =>
      intro r bf hn hb hr hc
      show sE id (lpW (default : Bool) (f_L_isJoined_l8s K b j) n) (f_L_isJoined_l8b K b j r bf) = true ↔ _
      unfold f_L_isJoined_l8b f_L_isJoined_j98
      by_cases q : bf = r
      · rw [if_pos q]
        by_cases c : (r >>> (nI j &&& 31)) &&& 1 = 1
        · rw [if_pos c]
          have bj := (and_1 _).mp c
          rw [bit_shr r j hj] at bj
          exact ⟨fun _ => hr j hj bj, fun _ => rfl⟩
        · rw [if_neg c]
          refine ⟨fun z => absurd (show false = true from z) (by decide), fun g => ?_⟩
          have bj : bitAt r j = true := (g (fun z => bitAt r z = true) (fun e he => by
            obtain ⟨k, hk, bk, ek⟩ := he
            subst ek
            have cc := hc q k hk bk
            exact ⟨fun z => (cc (Or.inl z)).2, fun z => (cc (Or.inr z)).1⟩)).mp hb
          rw [← bit_shr r j hj] at bj
          exact absurd ((and_1 _).mpr bj) c
      · rw [if_neg q]
        obtain ⟨r', s1, s2, s3, s4, s5⟩ := join_scan h b (i := i) r hr
        rw [s1]
        have lt := jM_lt q s2
        exact ih r' r (by omega) (s3 i hi hb) s4 (fun e k hk bk o => s5 k hk bk (by rw [e]; exact o))
  unfold f_L_isJoined f_L_isJoined_l8
  have m : ∀ x, x < 8 → bitAt (1 <<< (nI i &&& 31)) x = decide (x = i) := fun x hx => by rw [bit_mask i hi, bit_mask_at i hi x (by omega)]
  refine key 9 _ 0 (jM_0 hi) (by rw [m i hi]; simp) (fun x hx q => ?_) (fun e => ?_)
  · rw [m x hx, decide_eq_true_iff] at q
    subst q
    exact Conn_rf _ _
  · have := m i hi
    rw [← e, bit_0] at this
    simp at this
