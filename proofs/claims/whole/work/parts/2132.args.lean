/-! reading: what stands behind the verb -/
def argF (w : Nat) : List Bool := [[true], [false, false, false], [false, false], [false], [false, true, true], [false, true, true], [false, true], [false, true], [true]].getD w []
def ra (tx : Nat → Int32) (si : Nat) : List Bool → Bool → Nat → Sum Nat (List Int32 × Nat)
  | [], _, pl => .inr ([], pl)
  | v :: fl, first, pl => if (first || sg tx si pl 32) = true then (match nr tx si v (if first = true then pl else pl + 1) with
    | none => .inl (if first = true then pl else pl + 1)
    | some (x, q) => (match ra tx si fl false q with
      | .inl p => .inl p
      | .inr (l, e) => .inr (x :: l, e))) else .inl pl
theorem argF_ok : ∀ w, w < 9 → ∀ k, k < 3 → (k < tlen (argN.getD w 0) → (argF w).drop k = decide (f_J0_charAt_5068e (argN.getD w 0) k = 110) :: (argF w).drop (k + 1)) ∧ (tlen (argN.getD w 0) ≤ k → (argF w).drop k = []) := by decide +kernel
theorem argF_3 : ∀ w, w < 9 → (argF w).drop 3 = [] ∧ tlen (argN.getD w 0) ≤ 3 := by decide +kernel
theorem nr_lt {tx : Nat → Int32} {si pl q : Nat} {v : Bool} {x : Int32} (hs : si ≤ 60) (hp : pl ≤ si) (h : nr tx si v pl = some (x, q)) : pl < q ∧ q ≤ si := by
  unfold nr at h
  cases d : dg tx si pl
  · rw [d, if_neg (show ¬ false = true by decide)] at h
    cases h
  · have lt := dg_lt hs (by omega) d
    rw [d, if_pos rfl] at h
    cases v
    · rw [Bool.false_and, if_neg (show ¬ false = true by decide)] at h
      cases h
      omega
    · rw [Bool.true_and] at h
      cases d2 : dg tx si (pl + 1)
      · rw [d2, if_neg (show ¬ false = true by decide)] at h
        cases h
        omega
      · have lt2 := dg_lt hs (by omega) d2
        rw [d2, if_pos rfl] at h
        cases h
        omega
theorem sg_lt {tx : Nat → Int32} {si pl : Nat} {x : Int32} (h : sg tx si pl x = true) : pl < si := by
  unfold sg at h
  rw [Bool.and_eq_true] at h
  exact of_decide_eq_true h.1
theorem cl_arg {tx : Nat → Int32} {si w : Nat} (hs : si ≤ 60) (hw : w < 9) : ∀ n k pl S, k + n = 3 → AG S tx si pl → pl ≤ si → sVb S = w →
    (∀ p, ra tx si ((argF w).drop k) (k == 0) pl = .inl p → ∃ S', f_X4_readCommand_l11 n k S = (false, S') ∧ AG S' tx si p ∧ p ≤ si ∧ sVb S' = w) ∧
    (∀ l q, ra tx si ((argF w).drop k) (k == 0) pl = .inr (l, q) → ∃ S', f_X4_readCommand_l11 n k S = (true, S') ∧ AG S' tx si q ∧ q ≤ si ∧ sVb S' = w ∧ (∀ i, i < k → sNum S' i = sNum S i) ∧ ∀ i, i < l.length → sNum S' (k + i) = l.getD i 0) := by
  intro n
  induction n with
  | zero =>
    intro k pl S hk a hp hv
    have e : k = 3 := by omega
    subst e
    rw [(argF_3 w hw).1]
    refine ⟨fun p h => (by cases h), fun l q h => ?_⟩
    cases h
    exact ⟨S, rfl, a, hp, hv, fun i _ => rfl, fun i hi => absurd hi (Nat.not_lt_zero i)⟩
  | succ n ih =>
    intro k pl S hk a hp hv
    obtain ⟨f1, f2⟩ := argF_ok w hw k (by omega)
    have t3 := (argF_3 w hw).2
    have s1 : f_X4_readCommand_l11 (n + 1) k S = sE id (fun q : SS => f_X4_readCommand_l11 n (k + 1) q) (f_X4_readCommand_l11b k S) := rfl
    have le : nI (tlen (argN.getD w 0)) ≤ nI k ↔ tlen (argN.getD w 0) ≤ k := by rw [ile, nI_toInt (by omega), nI_toInt (by omega)]; omega
    rw [s1]
    unfold f_X4_readCommand_l11b f_X4_readCommand_j82
    rw [hv]
    by_cases c : tlen (argN.getD w 0) ≤ k
    · rw [if_pos (le.mpr c), f2 c]
      refine ⟨fun p h => (by cases h), fun l q h => ?_⟩
      cases h
      exact ⟨S, rfl, a, hp, hv, fun i _ => rfl, fun i hi => absurd hi (Nat.not_lt_zero i)⟩
    · rw [if_neg (fun z => c (le.mp z)), f1 (by omega)]
      generalize hvv : decide (f_J0_charAt_5068e (argN.getD w 0) k = 110) = v
      -- the number, once its sign was read
      have num : ∀ p1 S1, AG S1 tx si p1 → p1 ≤ si → sVb S1 = w → (∀ i, sNum S1 i = sNum S i) →
          (∀ p, (match nr tx si v p1 with
            | none => Sum.inl p1
            | some (x, q) => (match ra tx si ((argF w).drop (k + 1)) false q with
              | .inl p => .inl p
              | .inr (l, e) => .inr (x :: l, e))) = (Sum.inl p : Sum Nat (List Int32 × Nat)) → ∃ S', sE id (fun q : SS => f_X4_readCommand_l11 n (k + 1) q) (f_X4_readCommand_j45 k S1) = (false, S') ∧ AG S' tx si p ∧ p ≤ si ∧ sVb S' = w) ∧
          (∀ l q, (match nr tx si v p1 with
            | none => Sum.inl p1
            | some (x, q) => (match ra tx si ((argF w).drop (k + 1)) false q with
              | .inl p => .inl p
              | .inr (l, e) => .inr (x :: l, e))) = (Sum.inr (l, q) : Sum Nat (List Int32 × Nat)) → ∃ S', sE id (fun q : SS => f_X4_readCommand_l11 n (k + 1) q) (f_X4_readCommand_j45 k S1) = (true, S') ∧ AG S' tx si q ∧ q ≤ si ∧ sVb S' = w ∧ (∀ i, i < k → sNum S' i = sNum S i) ∧ ∀ i, i < l.length → sNum S' (k + i) = l.getD i 0) := by
        intro p1 S1 a1 hp1 hv1 hn1
        have ej : f_X4_readCommand_j45 k S1 = f_X4_readCommand_j68 v k S1 := by
          unfold f_X4_readCommand_j45
          rw [hv1]
          by_cases z : f_J0_charAt_5068e (argN.getD w 0) k = 110
          · rw [if_pos z, ← hvv, decide_eq_true z]
          · rw [if_neg z, ← hvv, decide_eq_false z]
        rw [ej]
        unfold f_X4_readCommand_j68 lt_
        rw [cl_num hs hp1 a1 k v]
        cases en : nr tx si v p1 with
        | none =>
          dsimp only
          rw [if_neg (show ¬ false = true by decide)]
          refine ⟨fun p h => ?_, fun l q h => (by cases h)⟩
          cases h
          exact ⟨S1, rfl, a1, hp1, hv1⟩
        | some xq =>
          obtain ⟨x, q⟩ := xq
          dsimp only
          rw [if_pos rfl]
          have lq := nr_lt hs hp1 en
          have a2 : AG (mkS (sSgn S1) (sSiz S1) q (sVb S1) (upd (sNum S1) k x)) tx si q := ⟨a1.1, rfl, a1.2.2⟩
          obtain ⟨i1, i2⟩ := ih (k + 1) q (mkS (sSgn S1) (sSiz S1) q (sVb S1) (upd (sNum S1) k x)) (by omega) a2 lq.2 hv1
          have ek : ((k + 1 : Nat) == 0) = false := rfl
          rw [ek] at i1 i2
          cases er : ra tx si ((argF w).drop (k + 1)) false q with
          | inl p =>
            dsimp only
            refine ⟨fun p' h => ?_, fun l q h => (by cases h)⟩
            cases h
            exact i1 p er
          | inr le =>
            obtain ⟨l, e⟩ := le
            dsimp only
            refine ⟨fun p h => (by cases h), fun l' q' h => ?_⟩
            cases h
            obtain ⟨S', g1, g2, g3, g4, g5, g6⟩ := i2 l e er
            refine ⟨S', g1, g2, g3, g4, fun i hi => ?_, fun i hi => ?_⟩
            · rw [g5 i (by omega)]
              show upd (sNum S1) k x i = sNum S i
              rw [pk_un (by omega)]
              exact hn1 i
            · cases i with
              | zero =>
                rw [Nat.add_zero, g5 k (by omega)]
                exact pk_us
              | succ i =>
                have := g6 i (Nat.lt_of_succ_lt_succ hi)
                rw [show k + (i + 1) = k + 1 + i by omega, this]
                rfl
      by_cases k0 : k = 0
      · subst k0
        rw [if_pos (show nI 0 ≤ 0 by decide)]
        obtain ⟨n1, n2⟩ := num pl S a hp hv (fun _ => rfl)
        have er : ra tx si (v :: (argF w).drop (0 + 1)) (0 == 0) pl = (match nr tx si v pl with
            | none => Sum.inl pl
            | some (x, q) => (match ra tx si ((argF w).drop (0 + 1)) false q with
              | .inl p => .inl p
              | .inr (l, e) => .inr (x :: l, e))) := rfl
        rw [er]
        exact ⟨n1, n2⟩
      · have kn : ¬ nI k ≤ 0 := by
          rw [ile, nI_toInt (by omega)]
          show ¬ (k : Int) ≤ 0
          omega
        rw [if_neg kn]
        have kb : (k == 0) = false := beq_eq_false_iff_ne.mpr k0
        rw [kb, cl_sign hs hp a 32]
        unfold lt_
        dsimp only
        cases es : sg tx si pl 32
        · rw [if_neg (show ¬ false = true by decide), if_neg (show ¬ false = true by decide)]
          have er : ra tx si (v :: (argF w).drop (k + 1)) false pl = .inl pl := by
            show (if (false || sg tx si pl 32) = true then _ else _) = _
            rw [es, if_neg (by decide)]
          rw [er]
          refine ⟨fun p h => ?_, fun l q h => (by cases h)⟩
          cases h
          exact ⟨_, rfl, ⟨a.1, rfl, a.2.2⟩, hp, hv⟩
        · have lt := sg_lt es
          rw [if_pos rfl, if_pos rfl]
          obtain ⟨n1, n2⟩ := num (pl + 1) (mkS (sSgn S) (sSiz S) (pl + 1) (sVb S) (sNum S)) ⟨a.1, rfl, a.2.2⟩ (by omega) hv (fun _ => rfl)
          have er : ra tx si (v :: (argF w).drop (k + 1)) false pl = (match nr tx si v (pl + 1) with
            | none => Sum.inl (pl + 1)
            | some (x, q) => (match ra tx si ((argF w).drop (k + 1)) false q with
              | .inl p => .inl p
              | .inr (l, e) => .inr (x :: l, e))) := by
            show (if (false || sg tx si pl 32) = true then _ else _) = _
            rw [es, if_pos (by decide)]
            rfl
          rw [er]
          exact ⟨n1, n2⟩
/-! the same in the reference -/
def rd (v : Bool) (tx : Nat → Int32) (si pl : Nat) (wr : Int32) : Int32 × Nat × Int32 := if v = true then f_X8_number tx si pl wr else f_X8_digit tx si pl wr
theorem rd_ok {tx : Nat → Int32} {si pl : Nat} (v : Bool) (hp : pl < 2 ^ 30) : rd v tx si pl (-1) = match nr tx si v pl with
    | none => (0, pl, nI pl)
    | some (x, q) => (x, q, -1) := by
  unfold rd
  cases v
  · rw [if_neg (by decide)]; exact rf_digit
  · rw [if_pos rfl]; exact rf_number hp
theorem rd_no {tx : Nat → Int32} {si pl : Nat} {wr : Int32} (v : Bool) (h : ¬ wr = -1) : rd v tx si pl wr = (0, pl, wr) := by
  unfold rd
  cases v
  · rw [if_neg (by decide)]; exact rf_digit_no h
  · rw [if_pos rfl]; exact rf_number_no h
/-- one more: blank, then a number -/
def rb (v : Bool) (tx : Nat → Int32) (si pl : Nat) (wr : Int32) : Int32 × Nat × Int32 := rd v tx si (f_X8_blank tx si pl wr).1 (f_X8_blank tx si pl wr).2
theorem rb_no {tx : Nat → Int32} {si pl : Nat} {wr : Int32} (v : Bool) (h : ¬ wr = -1) : rb v tx si pl wr = (0, pl, wr) := by
  unfold rb
  rw [rf_blank_no h]
  exact rd_no v h
def rs1 (v : Bool) (tx : Nat → Int32) (si pl : Nat) (wr : Int32) (nm : Nat → Int32) (x : Nat) : Nat × Int32 × (Nat → Int32) := ((rd v tx si pl wr).2.1, (rd v tx si pl wr).2.2, upd nm (x + 1) (rd v tx si pl wr).1)
def rs2 (v1 v2 : Bool) (tx : Nat → Int32) (si pl : Nat) (wr : Int32) (nm : Nat → Int32) (x : Nat) : Nat × Int32 × (Nat → Int32) := lt_ (rd v1 tx si pl wr) (fun a => lt_ (rb v2 tx si a.2.1 a.2.2) (fun b => (b.2.1, b.2.2, upd (upd nm (x + 1) a.1) (x + 2) b.1)))
def rs3 (v1 v2 v3 : Bool) (tx : Nat → Int32) (si pl : Nat) (wr : Int32) (nm : Nat → Int32) (x : Nat) : Nat × Int32 × (Nat → Int32) := lt_ (rd v1 tx si pl wr) (fun a => lt_ (rb v2 tx si a.2.1 a.2.2) (fun b => lt_ (rb v3 tx si b.2.1 b.2.2) (fun c => (c.2.1, c.2.2, upd (upd (upd nm (x + 1) a.1) (x + 2) b.1) (x + 3) c.1))))
def RES (tx : Nat → Int32) (si : Nat) (fl : List Bool) (pl : Nat) (nm : Nat → Int32) (x : Nat) (r : Nat × Int32 × (Nat → Int32)) : Prop :=
  (∀ p, ra tx si fl true pl = .inl p → r.2.1 = nI p ∧ p ≤ si) ∧ (∀ l q, ra tx si fl true pl = .inr (l, q) → r.1 = q ∧ r.2.1 = -1 ∧ q ≤ si ∧ ∀ i, i < l.length → r.2.2 (x + 1 + i) = l.getD i 0) ∧ ∀ i, i ≤ x → r.2.2 i = nm i
def cons1 (x : Int32) : Sum Nat (List Int32 × Nat) → Sum Nat (List Int32 × Nat)
  | .inl p => .inl p
  | .inr (l, e) => .inr (x :: l, e)
theorem ra_f0 {tx : Nat → Int32} {si pl : Nat} {v : Bool} {fl : List Bool} (h : nr tx si v pl = none) : ra tx si (v :: fl) true pl = .inl pl := by
  have e : ra tx si (v :: fl) true pl = (match nr tx si v pl with
    | none => .inl pl
    | some (x, q) => cons1 x (ra tx si fl false q)) := by
    show (if (true || sg tx si pl 32) = true then _ else _) = _
    rw [Bool.true_or, if_pos rfl]
    rfl
  rw [e, h]
theorem ra_f1 {tx : Nat → Int32} {si pl q : Nat} {v : Bool} {x : Int32} {fl : List Bool} (h : nr tx si v pl = some (x, q)) : ra tx si (v :: fl) true pl = cons1 x (ra tx si fl false q) := by
  have e : ra tx si (v :: fl) true pl = (match nr tx si v pl with
    | none => .inl pl
    | some (x, q) => cons1 x (ra tx si fl false q)) := by
    show (if (true || sg tx si pl 32) = true then _ else _) = _
    rw [Bool.true_or, if_pos rfl]
    rfl
  rw [e, h]
theorem ra_n {tx : Nat → Int32} {si pl : Nat} {v : Bool} {fl : List Bool} (h : sg tx si pl 32 = false) : ra tx si (v :: fl) false pl = .inl pl := by
  show (if (false || sg tx si pl 32) = true then _ else _) = _
  rw [h, if_neg (by decide)]
theorem ra_n0 {tx : Nat → Int32} {si pl : Nat} {v : Bool} {fl : List Bool} (g : sg tx si pl 32 = true) (h : nr tx si v (pl + 1) = none) : ra tx si (v :: fl) false pl = .inl (pl + 1) := by
  have e : ra tx si (v :: fl) false pl = (match nr tx si v (pl + 1) with
    | none => .inl (pl + 1)
    | some (x, q) => cons1 x (ra tx si fl false q)) := by
    show (if (false || sg tx si pl 32) = true then _ else _) = _
    rw [g, if_pos (by decide)]
    rfl
  rw [e, h]
theorem ra_n1 {tx : Nat → Int32} {si pl q : Nat} {v : Bool} {x : Int32} {fl : List Bool} (g : sg tx si pl 32 = true) (h : nr tx si v (pl + 1) = some (x, q)) : ra tx si (v :: fl) false pl = cons1 x (ra tx si fl false q) := by
  have e : ra tx si (v :: fl) false pl = (match nr tx si v (pl + 1) with
    | none => .inl (pl + 1)
    | some (x, q) => cons1 x (ra tx si fl false q)) := by
    show (if (false || sg tx si pl 32) = true then _ else _) = _
    rw [g, if_pos (by decide)]
    rfl
  rw [e, h]
/-- one more, in cases -/
theorem rb_ok {tx : Nat → Int32} {si pl : Nat} (hs : si ≤ 60) (hp : pl ≤ si) (v : Bool) (fl : List Bool) :
    (∃ p, p ≤ si ∧ ra tx si (v :: fl) false pl = .inl p ∧ rb v tx si pl (-1) = (0, p, nI p)) ∨ ∃ x q, q ≤ si ∧ ra tx si (v :: fl) false pl = cons1 x (ra tx si fl false q) ∧ rb v tx si pl (-1) = (x, q, -1) := by
  unfold rb
  rw [rf_blank hs (by omega)]
  cases g : sg tx si pl 32
  · rw [if_neg (show ¬ false = true by decide)]
    exact Or.inl ⟨pl, hp, ra_n g, rd_no v (nI_m1_ne (by omega))⟩
  · have lt := sg_lt g
    rw [if_pos rfl]
    have e := rd_ok (tx := tx) (si := si) (pl := pl + 1) v (by omega)
    cases h : nr tx si v (pl + 1) with
    | none =>
      rw [h] at e
      exact Or.inl ⟨pl + 1, by omega, ra_n0 g h, e⟩
    | some xq =>
      obtain ⟨x, q⟩ := xq
      rw [h] at e
      exact Or.inr ⟨x, q, (nr_lt hs (by omega) h).2, ra_n1 g h, e⟩
theorem ra_nil (tx : Nat → Int32) (si : Nat) (b : Bool) (pl : Nat) : ra tx si [] b pl = .inr ([], pl) := rfl
theorem rs1_ok {tx : Nat → Int32} {si pl : Nat} (hs : si ≤ 60) (hp : pl ≤ si) (v : Bool) (nm : Nat → Int32) (x : Nat) : RES tx si [v] pl nm x (rs1 v tx si pl (-1) nm x) := by
  unfold RES rs1
  have ed := rd_ok (tx := tx) (si := si) (pl := pl) v (by omega)
  cases e : nr tx si v pl with
  | none =>
    rw [e] at ed
    rw [ed, ra_f0 e]
    exact ⟨fun p h => (by cases h; exact ⟨rfl, hp⟩), fun l q h => (by cases h), fun i hi => pk_un (by omega)⟩
  | some xq =>
    obtain ⟨y, q⟩ := xq
    have lq := nr_lt hs hp e
    rw [e] at ed
    rw [ed, ra_f1 e, ra_nil]
    refine ⟨fun p h => (by cases h), fun l q' h => ?_, fun i hi => pk_un (by omega)⟩
    cases h
    refine ⟨rfl, rfl, lq.2, fun i hi => ?_⟩
    have : i = 0 := by have : i < 1 := hi; omega
    subst this
    exact pk_us
theorem rs2_ok {tx : Nat → Int32} {si pl : Nat} (hs : si ≤ 60) (hp : pl ≤ si) (v1 v2 : Bool) (nm : Nat → Int32) (x : Nat) : RES tx si [v1, v2] pl nm x (rs2 v1 v2 tx si pl (-1) nm x) := by
  unfold RES rs2 lt_
  have ed := rd_ok (tx := tx) (si := si) (pl := pl) v1 (by omega)
  cases e : nr tx si v1 pl with
  | none =>
    rw [e] at ed
    rw [ed, ra_f0 e]
    dsimp only
    rw [rb_no v2 (nI_m1_ne (by omega))]
    exact ⟨fun p h => (by cases h; exact ⟨rfl, hp⟩), fun l q h => (by cases h), fun i hi => (pk_un (by omega)).trans (pk_un (by omega))⟩
  | some xq =>
    obtain ⟨y, q⟩ := xq
    have lq := nr_lt hs hp e
    rw [e] at ed
    rw [ed, ra_f1 e]
    dsimp only
    rcases rb_ok hs lq.2 v2 [] with ⟨p, hp2, r1, r2⟩ | ⟨z, q2, hq2, r1, r2⟩
    · rw [r1, r2]
      exact ⟨fun p h => (by cases h; exact ⟨rfl, hp2⟩), fun l q h => (by cases h), fun i hi => (pk_un (by omega)).trans (pk_un (by omega))⟩
    · rw [r1, r2, ra_nil]
      refine ⟨fun p h => (by cases h), fun l q' h => ?_, fun i hi => (pk_un (by omega)).trans (pk_un (by omega))⟩
      cases h
      refine ⟨rfl, rfl, hq2, fun i hi => ?_⟩
      have : i = 0 ∨ i = 1 := by have : i < 2 := hi; omega
      rcases this with h | h <;> subst h
      · exact (pk_un (by omega)).trans pk_us
      · exact pk_us
theorem rs3_ok {tx : Nat → Int32} {si pl : Nat} (hs : si ≤ 60) (hp : pl ≤ si) (v1 v2 v3 : Bool) (nm : Nat → Int32) (x : Nat) : RES tx si [v1, v2, v3] pl nm x (rs3 v1 v2 v3 tx si pl (-1) nm x) := by
  unfold RES rs3 lt_
  have ed := rd_ok (tx := tx) (si := si) (pl := pl) v1 (by omega)
  cases e : nr tx si v1 pl with
  | none =>
    rw [e] at ed
    rw [ed, ra_f0 e]
    dsimp only
    rw [rb_no v2 (nI_m1_ne (by omega))]
    dsimp only
    rw [rb_no v3 (nI_m1_ne (by omega))]
    exact ⟨fun p h => (by cases h; exact ⟨rfl, hp⟩), fun l q h => (by cases h), fun i hi => (pk_un (by omega)).trans ((pk_un (by omega)).trans (pk_un (by omega)))⟩
  | some xq =>
    obtain ⟨y, q⟩ := xq
    have lq := nr_lt hs hp e
    rw [e] at ed
    rw [ed, ra_f1 e]
    dsimp only
    rcases rb_ok hs lq.2 v2 [v3] with ⟨p, hp2, r1, r2⟩ | ⟨z, q2, hq2, r1, r2⟩
    · rw [r1, r2]
      dsimp only
      rw [rb_no v3 (nI_m1_ne (by omega))]
      exact ⟨fun p h => (by cases h; exact ⟨rfl, hp2⟩), fun l q h => (by cases h), fun i hi => (pk_un (by omega)).trans ((pk_un (by omega)).trans (pk_un (by omega)))⟩
    · rw [r1, r2]
      dsimp only
      rcases rb_ok hs hq2 v3 [] with ⟨p, hp2, r1, r2⟩ | ⟨u, q3, hq3, r1, r2⟩
      · rw [r1, r2]
        exact ⟨fun p h => (by cases h; exact ⟨rfl, hp2⟩), fun l q h => (by cases h), fun i hi => (pk_un (by omega)).trans ((pk_un (by omega)).trans (pk_un (by omega)))⟩
      · rw [r1, r2, ra_nil]
        refine ⟨fun p h => (by cases h), fun l q' h => ?_, fun i hi => (pk_un (by omega)).trans ((pk_un (by omega)).trans (pk_un (by omega)))⟩
        cases h
        refine ⟨rfl, rfl, hq3, fun i hi => ?_⟩
        have : i = 0 ∨ i = 1 ∨ i = 2 := by have : i < 3 := hi; omega
        rcases this with h | h | h <;> subst h
        · exact (pk_un (by omega)).trans ((pk_un (by omega)).trans pk_us)
        · exact (pk_un (by omega)).trans pk_us
        · exact pk_us
theorem rfrest_0 (tx : Nat → Int32) (si pl : Nat) (wr : Int32) (nm : Nat → Int32) (x : Nat) : f_X8_readsRest tx si pl wr nm x (nI 0) = rs1 true tx si pl wr nm x := by
  simp only [f_X8_readsRest, f_X8_readsRest_j17, f_X8_readsRest_j28, f_X8_readsRest_j44, f_X8_readsRest_j66, f_X8_readsRest_j77, f_X8_readsRest_j93, f_X8_readsRest_j120, f_X8_readsRest_j121, rs1, rb, rd, lt_, if_true, if_false, Bool.false_eq_true, eq_true (show nI 0 = 0 by decide), show ¬ nI 0 = 1 by decide, show ¬ nI 0 = 2 by decide, show ¬ nI 0 = 3 by decide, show ¬ nI 0 = 4 by decide, show ¬ nI 0 = 5 by decide, show ¬ nI 0 = 8 by decide]
theorem rfrest_1 (tx : Nat → Int32) (si pl : Nat) (wr : Int32) (nm : Nat → Int32) (x : Nat) : f_X8_readsRest tx si pl wr nm x (nI 1) = rs3 false false false tx si pl wr nm x := by
  simp only [f_X8_readsRest, f_X8_readsRest_j17, f_X8_readsRest_j28, f_X8_readsRest_j44, f_X8_readsRest_j66, f_X8_readsRest_j77, f_X8_readsRest_j93, f_X8_readsRest_j120, f_X8_readsRest_j121, rs3, rb, rd, lt_, if_true, if_false, Bool.false_eq_true, show ¬ nI 1 = 0 by decide, eq_true (show nI 1 = 1 by decide), show ¬ nI 1 = 2 by decide, show ¬ nI 1 = 3 by decide, show ¬ nI 1 = 4 by decide, show ¬ nI 1 = 5 by decide, show ¬ nI 1 = 8 by decide]
theorem rfrest_2 (tx : Nat → Int32) (si pl : Nat) (wr : Int32) (nm : Nat → Int32) (x : Nat) : f_X8_readsRest tx si pl wr nm x (nI 2) = rs2 false false tx si pl wr nm x := by
  simp only [f_X8_readsRest, f_X8_readsRest_j17, f_X8_readsRest_j28, f_X8_readsRest_j44, f_X8_readsRest_j66, f_X8_readsRest_j77, f_X8_readsRest_j93, f_X8_readsRest_j120, f_X8_readsRest_j121, rs2, rb, rd, lt_, if_true, if_false, Bool.false_eq_true, show ¬ nI 2 = 0 by decide, show ¬ nI 2 = 1 by decide, eq_true (show nI 2 = 2 by decide), show ¬ nI 2 = 3 by decide, show ¬ nI 2 = 4 by decide, show ¬ nI 2 = 5 by decide, show ¬ nI 2 = 8 by decide]
theorem rfrest_3 (tx : Nat → Int32) (si pl : Nat) (wr : Int32) (nm : Nat → Int32) (x : Nat) : f_X8_readsRest tx si pl wr nm x (nI 3) = rs1 false tx si pl wr nm x := by
  simp only [f_X8_readsRest, f_X8_readsRest_j17, f_X8_readsRest_j28, f_X8_readsRest_j44, f_X8_readsRest_j66, f_X8_readsRest_j77, f_X8_readsRest_j93, f_X8_readsRest_j120, f_X8_readsRest_j121, rs1, rb, rd, lt_, if_true, if_false, Bool.false_eq_true, show ¬ nI 3 = 0 by decide, show ¬ nI 3 = 1 by decide, show ¬ nI 3 = 2 by decide, eq_true (show nI 3 = 3 by decide), show ¬ nI 3 = 4 by decide, show ¬ nI 3 = 5 by decide, show ¬ nI 3 = 8 by decide]
theorem rfrest_4 (tx : Nat → Int32) (si pl : Nat) (wr : Int32) (nm : Nat → Int32) (x : Nat) : f_X8_readsRest tx si pl wr nm x (nI 4) = rs3 false true true tx si pl wr nm x := by
  simp only [f_X8_readsRest, f_X8_readsRest_j17, f_X8_readsRest_j28, f_X8_readsRest_j44, f_X8_readsRest_j66, f_X8_readsRest_j77, f_X8_readsRest_j93, f_X8_readsRest_j120, f_X8_readsRest_j121, rs3, rb, rd, lt_, if_true, if_false, Bool.false_eq_true, show ¬ nI 4 = 0 by decide, show ¬ nI 4 = 1 by decide, show ¬ nI 4 = 2 by decide, show ¬ nI 4 = 3 by decide, eq_true (show nI 4 = 4 by decide), show ¬ nI 4 = 5 by decide, show ¬ nI 4 = 8 by decide]
theorem rfrest_5 (tx : Nat → Int32) (si pl : Nat) (wr : Int32) (nm : Nat → Int32) (x : Nat) : f_X8_readsRest tx si pl wr nm x (nI 5) = rs3 false true true tx si pl wr nm x := by
  simp only [f_X8_readsRest, f_X8_readsRest_j17, f_X8_readsRest_j28, f_X8_readsRest_j44, f_X8_readsRest_j66, f_X8_readsRest_j77, f_X8_readsRest_j93, f_X8_readsRest_j120, f_X8_readsRest_j121, rs3, rb, rd, lt_, if_true, if_false, Bool.false_eq_true, show ¬ nI 5 = 0 by decide, show ¬ nI 5 = 1 by decide, show ¬ nI 5 = 2 by decide, show ¬ nI 5 = 3 by decide, show ¬ nI 5 = 4 by decide, eq_true (show nI 5 = 5 by decide), show ¬ nI 5 = 8 by decide]
theorem rfrest_6 (tx : Nat → Int32) (si pl : Nat) (wr : Int32) (nm : Nat → Int32) (x : Nat) : f_X8_readsRest tx si pl wr nm x (nI 6) = rs2 false true tx si pl wr nm x := by
  simp only [f_X8_readsRest, f_X8_readsRest_j17, f_X8_readsRest_j28, f_X8_readsRest_j44, f_X8_readsRest_j66, f_X8_readsRest_j77, f_X8_readsRest_j93, f_X8_readsRest_j120, f_X8_readsRest_j121, rs2, rb, rd, lt_, if_true, if_false, Bool.false_eq_true, show ¬ nI 6 = 0 by decide, show ¬ nI 6 = 1 by decide, show ¬ nI 6 = 2 by decide, show ¬ nI 6 = 3 by decide, show ¬ nI 6 = 4 by decide, show ¬ nI 6 = 5 by decide, show ¬ nI 6 = 8 by decide]
theorem rfrest_7 (tx : Nat → Int32) (si pl : Nat) (wr : Int32) (nm : Nat → Int32) (x : Nat) : f_X8_readsRest tx si pl wr nm x (nI 7) = rs2 false true tx si pl wr nm x := by
  simp only [f_X8_readsRest, f_X8_readsRest_j17, f_X8_readsRest_j28, f_X8_readsRest_j44, f_X8_readsRest_j66, f_X8_readsRest_j77, f_X8_readsRest_j93, f_X8_readsRest_j120, f_X8_readsRest_j121, rs2, rb, rd, lt_, if_true, if_false, Bool.false_eq_true, show ¬ nI 7 = 0 by decide, show ¬ nI 7 = 1 by decide, show ¬ nI 7 = 2 by decide, show ¬ nI 7 = 3 by decide, show ¬ nI 7 = 4 by decide, show ¬ nI 7 = 5 by decide, show ¬ nI 7 = 8 by decide]
theorem rfrest_8 (tx : Nat → Int32) (si pl : Nat) (wr : Int32) (nm : Nat → Int32) (x : Nat) : f_X8_readsRest tx si pl wr nm x (nI 8) = rs1 true tx si pl wr nm x := by
  simp only [f_X8_readsRest, f_X8_readsRest_j17, f_X8_readsRest_j28, f_X8_readsRest_j44, f_X8_readsRest_j66, f_X8_readsRest_j77, f_X8_readsRest_j93, f_X8_readsRest_j120, f_X8_readsRest_j121, rs1, rb, rd, lt_, if_true, if_false, Bool.false_eq_true, show ¬ nI 8 = 0 by decide, show ¬ nI 8 = 1 by decide, show ¬ nI 8 = 2 by decide, show ¬ nI 8 = 3 by decide, show ¬ nI 8 = 4 by decide, show ¬ nI 8 = 5 by decide, eq_true (show nI 8 = 8 by decide)]
theorem rest_ok {tx : Nat → Int32} {si pl : Nat} (hs : si ≤ 60) (hp : pl ≤ si) (nm : Nat → Int32) (x : Nat) {w : Nat} (hw : w < 9) : RES tx si (argF w) pl nm x (f_X8_readsRest tx si pl (-1) nm x (nI w)) := by
  rcases (by omega : w = 0 ∨ w = 1 ∨ w = 2 ∨ w = 3 ∨ w = 4 ∨ w = 5 ∨ w = 6 ∨ w = 7 ∨ w = 8) with h | h | h | h | h | h | h | h | h <;> subst h
  · rw [rfrest_0]; exact rs1_ok hs hp true nm x
  · rw [rfrest_1]; exact rs3_ok hs hp false false false nm x
  · rw [rfrest_2]; exact rs2_ok hs hp false false nm x
  · rw [rfrest_3]; exact rs1_ok hs hp false nm x
  · rw [rfrest_4]; exact rs3_ok hs hp false true true nm x
  · rw [rfrest_5]; exact rs3_ok hs hp false true true nm x
  · rw [rfrest_6]; exact rs2_ok hs hp false true nm x
  · rw [rfrest_7]; exact rs2_ok hs hp false true nm x
  · rw [rfrest_8]; exact rs1_ok hs hp true nm x
