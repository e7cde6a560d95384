/-! reading: a command, and the whole text -/
theorem ra_len {tx : Nat → Int32} {si : Nat} : ∀ (fl : List Bool) (b : Bool) (pl : Nat) (l : List Int32) (q : Nat), ra tx si fl b pl = .inr (l, q) → l.length = fl.length := by
  intro fl
  induction fl with
  | nil => intro b pl l q h; cases h; rfl
  | cons v fl ih =>
    intro b pl l q h
    have fin : ∀ x q1, cons1 x (ra tx si fl false q1) = .inr (l, q) → l.length = (v :: fl).length := fun x q1 h => by
      cases e : ra tx si fl false q1 with
      | inl p => rw [e] at h; cases h
      | inr le =>
        obtain ⟨l1, e1⟩ := le
        rw [e] at h
        cases h
        show l1.length + 1 = fl.length + 1
        rw [ih false q1 l1 _ e]
    cases b
    · cases g : sg tx si pl 32
      · rw [ra_n g] at h; cases h
      · cases e : nr tx si v (pl + 1) with
        | none => rw [ra_n0 g e] at h; cases h
        | some xq => obtain ⟨x, q1⟩ := xq; rw [ra_n1 g e] at h; exact fin x q1 h
    · cases e : nr tx si v pl with
      | none => rw [ra_f0 e] at h; cases h
      | some xq => obtain ⟨x, q1⟩ := xq; rw [ra_f1 e] at h; exact fin x q1 h
theorem argF_len : ∀ w, w < 9 → (argF w).length = tlen (argN.getD w 0) ∧ (argF w).length ≤ 3 := by decide +kernel
def CR (tx : Nat → Int32) (si pl w q : Nat) (a : Nat → Int32) : Prop := ∀ S, AG S tx si pl → ∃ S', f_X4_readCommand S = (true, S') ∧ AG S' tx si q ∧ sVb S' = w ∧ ∀ i, i < (argF w).length → sNum S' i = a i
def CF (tx : Nat → Int32) (si pl p : Nat) : Prop := ∀ S, AG S tx si pl → sVb S < 9 → ∃ S', f_X4_readCommand S = (false, S') ∧ AG S' tx si p ∧ sVb S' < 9
theorem CR_cg {tx : Nat → Int32} {si pl w q : Nat} {a b : Nat → Int32} (hw : w < 9) (h : CR tx si pl w q a) (e : ∀ i, i < 3 → a i = b i) : CR tx si pl w q b := fun S hS => by
  obtain ⟨S', h1, h2, h3, h4⟩ := h S hS
  have := (argF_len w hw).2
  exact ⟨S', h1, h2, h3, fun i hi => (h4 i hi).trans (e i (by omega))⟩
theorem cmd_ok {tx : Nat → Int32} {si pl : Nat} (hs : si ≤ 60) (hp : pl ≤ si) (tl : Nat) (nm : Nat → Int32) :
    (∃ w q, w < 9 ∧ q ≤ si ∧ pl + 4 ≤ q ∧ ∃ nm', f_X8_readsCommand tx si pl (-1) tl nm = (q, -1, tl + 1, nm') ∧ nm' (4 * tl) = nI w ∧ (∀ i, i < 4 * tl → nm' i = nm i) ∧ CR tx si pl w q (fun i => nm' (4 * tl + 1 + i))) ∨
    (∃ p q nm', p ≤ si ∧ q ≤ si ∧ f_X8_readsCommand tx si pl (-1) tl nm = (q, nI p, tl + 1, nm') ∧ CF tx si pl p) := by
  have bnd := X8_readsCommand_pl tx si pl (-1) tl nm hp hs
  have ed : f_X8_readsCommand tx si pl (-1) tl nm = (if (f_X8_kindHere tx si pl (-1)).2.2 = -1 then ((f_X8_readsRest tx si (f_X8_kindHere tx si pl (-1)).2.1 (f_X8_kindHere tx si pl (-1)).2.2 (upd nm (4 * tl) (f_X8_kindHere tx si pl (-1)).1) (4 * tl) (f_X8_kindHere tx si pl (-1)).1).1, (f_X8_readsRest tx si (f_X8_kindHere tx si pl (-1)).2.1 (f_X8_kindHere tx si pl (-1)).2.2 (upd nm (4 * tl) (f_X8_kindHere tx si pl (-1)).1) (4 * tl) (f_X8_kindHere tx si pl (-1)).1).2.1, tl + 1, (f_X8_readsRest tx si (f_X8_kindHere tx si pl (-1)).2.1 (f_X8_kindHere tx si pl (-1)).2.2 (upd nm (4 * tl) (f_X8_kindHere tx si pl (-1)).1) (4 * tl) (f_X8_kindHere tx si pl (-1)).1).2.2) else ((f_X8_kindHere tx si pl (-1)).2.1, (f_X8_kindHere tx si pl (-1)).2.2, tl + 1, upd nm (4 * tl) (f_X8_kindHere tx si pl (-1)).1)) := rfl
  rcases verb_ok hs hp (S0 := mkS tx si pl 0 (fun _ => 0)) ⟨rfl, rfl, fun j _ => rfl⟩ with ⟨w, hw, hb, k1, k2⟩ | ⟨m, hb, k1, k2⟩
  · rw [k1] at ed
    dsimp only at ed
    rw [if_pos rfl] at ed
    obtain ⟨r1, r2, r3⟩ := rest_ok hs hb (upd nm (4 * tl) (nI w)) (4 * tl) hw
    generalize f_X8_readsRest tx si (pl + wlen w) (-1) (upd nm (4 * tl) (nI w)) (4 * tl) (nI w) = y at ed r1 r2 r3
    have cls : ∀ S, AG S tx si pl → f_X4_readCommand S = f_X4_readCommand_l11 3 0 (mkS (sSgn S) (sSiz S) (pl + wlen w) w (sNum S)) := fun S a => by
      unfold f_X4_readCommand lt_
      rw [k2 S a]
      dsimp only
      rw [if_pos rfl]
    have arg : ∀ S, AG S tx si pl → _ := fun S a => cl_arg hs hw 3 0 (pl + wlen w) (mkS (sSgn S) (sSiz S) (pl + wlen w) w (sNum S)) rfl ⟨a.1, rfl, a.2.2⟩ hb rfl
    have d0 : (argF w).drop 0 = argF w := rfl
    cases er : ra tx si (argF w) true (pl + wlen w) with
    | inl p =>
      obtain ⟨g1, g2⟩ := r1 p er
      have y1 : y.1 ≤ si := by
        have := bnd.1
        rw [ed] at this
        exact this
      refine Or.inr ⟨p, y.1, y.2.2, g2, y1, by rw [ed, g1], fun S a hv => ?_⟩
      obtain ⟨S', h1, h2, h3, h4⟩ := (arg S a).1 p er
      exact ⟨S', (cls S a).trans h1, h2, by rw [h4]; exact hw⟩
    | inr lq =>
      obtain ⟨l, q⟩ := lq
      obtain ⟨g1, g2, g3, g4⟩ := r2 l q er
      have ll := ra_len _ _ _ _ _ er
      have e1 : f_X8_readsCommand tx si pl (-1) tl nm = (q, -1, tl + 1, y.2.2) := by rw [ed, g1, g2]
      refine Or.inl ⟨w, q, hw, g3, ?_, y.2.2, e1, ?_, fun i hi => ?_, fun S a => ?_⟩
      · have := bnd.2.2.1
        rw [e1] at this
        exact this rfl
      · rw [r3 _ (Nat.le_refl _)]
        exact pk_us
      · rw [r3 i (by omega)]
        exact pk_un (by omega)
      · obtain ⟨S', h1, h2, h3, h4, h5, h6⟩ := (arg S a).2 l q er
        refine ⟨S', (cls S a).trans h1, h2, h4, fun i hi => ?_⟩
        have := h6 i (by rw [ll]; exact hi)
        rw [Nat.zero_add] at this
        rw [this]
        exact (g4 i (by rw [ll]; exact hi)).symm
  · rw [k1] at ed
    dsimp only at ed
    rw [if_neg (nI_m1_ne (by omega))] at ed
    refine Or.inr ⟨pl + m, pl, _, hb, hp, ed, fun S a hv => ?_⟩
    refine ⟨mkS (sSgn S) (sSiz S) (pl + m) (sVb S) (sNum S), ?_, ⟨a.1, rfl, a.2.2⟩, hv⟩
    unfold f_X4_readCommand lt_
    rw [k2 S a]
    rfl
/-! the whole text -/
def TR (tx : Nat → Int32) (si : Nat) (nm : Nat → Int32) : Nat → Nat → Nat → Prop
  | 0, _, pl => pl = si
  | m + 1, j, pl => pl < si ∧ tx pl = 59 ∧ ∃ w q, w < 9 ∧ q ≤ si ∧ nm (4 * j) = nI w ∧ CR tx si (pl + 1) w q (fun i => nm (4 * j + 1 + i)) ∧ TR tx si nm m (j + 1) q
def contC (n k : Nat) (S : SS) : Int32 × SS := if nI (sAt S) = nI (sSiz S) then (nI k, S) else lt_ (f_X4_readSign S 59) (fun y38 => if y38.1 = true then lpF f_X4_countCommands_l7s f_X4_countCommands_l7e n (k + 1) y38.2 else (-1, y38.2))
theorem cm_step (n k : Nat) (S : SS) : lpF f_X4_countCommands_l7s f_X4_countCommands_l7e (n + 1) k S = if (f_X4_readCommand S).1 = true then contC n k (f_X4_readCommand S).2 else (-1, (f_X4_readCommand S).2) := by
  show sE id (lpF f_X4_countCommands_l7s f_X4_countCommands_l7e n (k + 1)) (f_X4_countCommands_l7b k S) = _
  unfold f_X4_countCommands_l7b contC lt_
  dsimp only
  by_cases c : (f_X4_readCommand S).1 = true
  · rw [if_pos c, if_pos c]
    by_cases d : nI (sAt (f_X4_readCommand S).2) = nI (sSiz (f_X4_readCommand S).2)
    · rw [if_pos d, if_pos d]; rfl
    · rw [if_neg d, if_neg d]
      split <;> rfl
  · rw [if_neg c, if_neg c]; rfl
theorem parse_loop {tx : Nat → Int32} {si : Nat} (hs : si ≤ 60) : ∀ n j pl nm0, pl ≤ si → si - pl < n → 4 * j ≤ pl →
    (∃ (p : Nat) (r : Nat × Nat × (Nat → Int32)), p ≤ si ∧ lpW default (f_X8_readsAll_l32s tx) n (0, si, pl, -1, j, nm0) = (0, si, r.1, nI p, r.2) ∧ ∀ S, AG S tx si pl → sVb S < 9 → ∃ S', contC (60 - j) j S = (-1, S') ∧ AG S' tx si p ∧ sVb S' < 9) ∨
    (∃ m nm, 4 * (j + m) ≤ si ∧ lpW default (f_X8_readsAll_l32s tx) n (0, si, pl, -1, j, nm0) = (0, si, si, -1, j + m, nm) ∧ (∀ i, i < 4 * j → nm i = nm0 i) ∧ TR tx si nm m j pl ∧ ∀ S, AG S tx si pl → sVb S < 9 → ∃ S', contC (60 - j) j S = (nI (j + m), S') ∧ AG S' tx si si ∧ sVb S' < 9) := by
  intro n
  induction n with
  | zero => intro j pl nm0 _ h _; exact absurd h (Nat.not_lt_zero _)
  | succ n ih =>
    intro j pl nm0 hp hn hj
    have s1 : lpW default (f_X8_readsAll_l32s tx) (n + 1) (0, si, pl, -1, j, nm0) = sE id (lpW default (f_X8_readsAll_l32s tx) n) (f_X8_readsAll_l32b tx 0 si pl (-1) j nm0) := rfl
    rw [s1]
    have le : nI si ≤ nI pl ↔ si ≤ pl := by rw [ile, nI_toInt (by omega), nI_toInt (by omega)]; omega
    unfold f_X8_readsAll_l32b f_X8_readsAll_j75 f_X8_readsAll_j72 lt_
    rw [if_pos rfl]
    by_cases c : si ≤ pl
    · rw [if_pos (le.mpr c)]
      have e : pl = si := by omega
      refine Or.inr ⟨0, nm0, by omega, by rw [e]; rfl, fun i _ => rfl, e, fun S a hv => ⟨S, ?_, by rw [← e]; rw [← e] at a; exact a, hv⟩⟩
      unfold contC
      rw [a.1, a.2.1, e, if_pos rfl]
      rfl
    · rw [if_neg (fun z => c (le.mp z)), rf_sign hs (by omega) (by decide)]
      dsimp only
      have cn : ∀ S, AG S tx si pl → contC (60 - j) j S = if sg tx si pl 59 = true then lpF f_X4_countCommands_l7s f_X4_countCommands_l7e (60 - j) (j + 1) (mkS (sSgn S) (sSiz S) (pl + 1) (sVb S) (sNum S)) else (-1, mkS (sSgn S) (sSiz S) pl (sVb S) (sNum S)) := fun S a => by
        unfold contC lt_
        have ne : ¬ nI (sAt S) = nI (sSiz S) := by
          rw [a.1, a.2.1]
          exact fun z => by have := (nI_eq (by omega) (by omega)).mp z; omega
        rw [if_neg ne, cl_sign hs hp a 59]
        dsimp only
        cases sg tx si pl 59 <;> rfl
      cases g : sg tx si pl 59
      · rw [if_neg (show ¬ false = true by decide)]
        dsimp only
        rw [if_neg (nI_m1_ne (by omega))]
        refine Or.inl ⟨pl, (pl, j, nm0), hp, ?_, fun S a hv => ⟨mkS (sSgn S) (sSiz S) pl (sVb S) (sNum S), (cn S a).trans (by rw [g, if_neg (by decide)]), ⟨a.1, rfl, a.2.2⟩, hv⟩⟩
        show lpW default (f_X8_readsAll_l32s tx) n (0, si, pl, nI pl, j, nm0) = _
        obtain ⟨n', rfl⟩ : ∃ n', n = n' + 1 := ⟨n - 1, by omega⟩
        show sE id _ (f_X8_readsAll_l32b tx 0 si pl (nI pl) j nm0) = _
        unfold f_X8_readsAll_l32b f_X8_readsAll_j75
        rw [if_neg (nI_m1_ne (by omega))]
        rfl
      · rw [if_pos rfl]
        dsimp only
        rw [if_pos rfl]
        have lt := sg_lt g
        have ch : tx pl = 59 := by
          unfold sg at g
          rw [Bool.and_eq_true] at g
          exact of_decide_eq_true g.2
        rcases cmd_ok hs (show pl + 1 ≤ si from lt) j nm0 with ⟨w, q, hw, hq, q4, nm', ec, n1, n2, cr⟩ | ⟨p, q, nm', hp2, hq, ec, cf⟩
        · rw [ec]
          dsimp only
          have cn2 : ∀ S, AG S tx si pl → sVb S < 9 → ∃ S1, contC (60 - j) j S = contC (60 - (j + 1)) (j + 1) S1 ∧ AG S1 tx si q ∧ sVb S1 < 9 := fun S a hv => by
            obtain ⟨S1, h1, h2, h3, h4⟩ := cr (mkS (sSgn S) (sSiz S) (pl + 1) (sVb S) (sNum S)) ⟨a.1, rfl, a.2.2⟩
            refine ⟨S1, ?_, h2, by rw [h3]; exact hw⟩
            rw [cn S a, g, if_pos rfl, show 60 - j = 60 - (j + 1) + 1 by omega, cm_step, h1]
            dsimp only
            rw [if_pos rfl]
          rcases ih (j + 1) q nm' hq (by omega) (by omega) with ⟨p, r, h1, h2, h3⟩ | ⟨m, nm, h1, h2, h3, h4, h5⟩
          · refine Or.inl ⟨p, r, h1, h2, fun S a hv => ?_⟩
            obtain ⟨S1, i1, i2, i3⟩ := cn2 S a hv
            obtain ⟨S', k1, k2, k3⟩ := h3 S1 i2 i3
            exact ⟨S', i1.trans k1, k2, k3⟩
          · have ej : j + 1 + m = j + (m + 1) := by omega
            rw [ej] at h1 h2 h5
            refine Or.inr ⟨m + 1, nm, h1, h2, fun i hi => (h3 i (by omega)).trans (n2 i hi), ⟨lt, ch, w, q, hw, hq, (h3 _ (by omega)).trans n1, CR_cg hw cr (fun i hi => (h3 _ (by omega)).symm), h4⟩, fun S a hv => ?_⟩
            obtain ⟨S1, i1, i2, i3⟩ := cn2 S a hv
            obtain ⟨S', k1, k2, k3⟩ := h5 S1 i2 i3
            exact ⟨S', i1.trans k1, k2, k3⟩
        · rw [ec]
          dsimp only
          refine Or.inl ⟨p, (q, j + 1, nm'), hp2, ?_, fun S a hv => ?_⟩
          · show lpW default (f_X8_readsAll_l32s tx) n (0, si, q, nI p, j + 1, nm') = _
            obtain ⟨n', rfl⟩ : ∃ n', n = n' + 1 := ⟨n - 1, by omega⟩
            show sE id _ (f_X8_readsAll_l32b tx 0 si q (nI p) (j + 1) nm') = _
            unfold f_X8_readsAll_l32b f_X8_readsAll_j75
            rw [if_neg (nI_m1_ne (by omega))]
            rfl
          · obtain ⟨S1, h1, h2, h3⟩ := cf (mkS (sSgn S) (sSiz S) (pl + 1) (sVb S) (sNum S)) ⟨a.1, rfl, a.2.2⟩ hv
            refine ⟨S1, ?_, h2, h3⟩
            rw [cn S a, g, if_pos rfl, show 60 - j = 60 - (j + 1) + 1 by omega, cm_step, h1]
            rfl
