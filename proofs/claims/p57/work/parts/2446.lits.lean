/-! the law's own texts; rows that lie apart -/
theorem tb_fit {i : Nat} (hi : i < 23) : sb_Fit (tbyt i) := by
  intro j
  by_cases h : j < 60
  · revert h
    have k : ∀ i, i < 23 → ∀ j, j < 60 → fits .byte (.int (tbyt i j)) = true := by decide +kernel
    exact k i hi j
  · have e : tbyt i j = 0 := by
      have l := tlen_le i
      have l2 : (txtL.getD i []).length = tlen i := by
        revert i
        decide +kernel
      unfold tbyt
      rw [List.getD_eq_getElem?_getD, List.getElem?_eq_none (by omega)]
      rfl
    rw [e]
    decide
section
variable {ev : Nat → Nat} {A : Nat → Prop} {U : State} {H : Heap}
theorem lit_15 (h : vk_S 23 (txtL.map List.length) txtL (fun i => ev (40 + i)) (fun i => ev (70 + i)) A U H) : STR (ev (40 + 15)) (ev (70 + 15)) 1 (tbyt 15) A U H := by
  have := STR_lit h (i := 15) (by decide)
  rw [show tlen 15 = 1 from by decide +kernel] at this
  exact this
theorem lit_16 (h : vk_S 23 (txtL.map List.length) txtL (fun i => ev (40 + i)) (fun i => ev (70 + i)) A U H) : STR (ev (40 + 16)) (ev (70 + 16)) 1 (tbyt 16) A U H := by
  have := STR_lit h (i := 16) (by decide)
  rw [show tlen 16 = 1 from by decide +kernel] at this
  exact this
theorem lit_17 (h : vk_S 23 (txtL.map List.length) txtL (fun i => ev (40 + i)) (fun i => ev (70 + i)) A U H) : STR (ev (40 + 17)) (ev (70 + 17)) 1 (tbyt 17) A U H := by
  have := STR_lit h (i := 17) (by decide)
  rw [show tlen 17 = 1 from by decide +kernel] at this
  exact this
theorem lit_18 (h : vk_S 23 (txtL.map List.length) txtL (fun i => ev (40 + i)) (fun i => ev (70 + i)) A U H) : STR (ev (40 + 18)) (ev (70 + 18)) 0 (tbyt 18) A U H := by
  have := STR_lit h (i := 18) (by decide)
  rw [show tlen 18 = 0 from by decide +kernel] at this
  exact this
theorem lit_19 (h : vk_S 23 (txtL.map List.length) txtL (fun i => ev (40 + i)) (fun i => ev (70 + i)) A U H) : STR (ev (40 + 19)) (ev (70 + 19)) 1 (tbyt 19) A U H := by
  have := STR_lit h (i := 19) (by decide)
  rw [show tlen 19 = 1 from by decide +kernel] at this
  exact this
theorem lit_20 (h : vk_S 23 (txtL.map List.length) txtL (fun i => ev (40 + i)) (fun i => ev (70 + i)) A U H) : STR (ev (40 + 20)) (ev (70 + 20)) 1 (tbyt 20) A U H := by
  have := STR_lit h (i := 20) (by decide)
  rw [show tlen 20 = 1 from by decide +kernel] at this
  exact this
theorem lit_21 (h : vk_S 23 (txtL.map List.length) txtL (fun i => ev (40 + i)) (fun i => ev (70 + i)) A U H) : STR (ev (40 + 21)) (ev (70 + 21)) 1 (tbyt 21) A U H := by
  have := STR_lit h (i := 21) (by decide)
  rw [show tlen 21 = 1 from by decide +kernel] at this
  exact this
theorem lit_22 (h : vk_S 23 (txtL.map List.length) txtL (fun i => ev (40 + i)) (fun i => ev (70 + i)) A U H) : STR (ev (40 + 22)) (ev (70 + 22)) 1 (tbyt 22) A U H := by
  have := STR_lit h (i := 22) (by decide)
  rw [show tlen 22 = 1 from by decide +kernel] at this
  exact this
end
theorem lit_c : (tbyt 15 0 = sb_b 45 ∧ tbyt 16 0 = sb_b 47 ∧ tbyt 17 0 = sb_b 61) ∧ tbyt 19 0 = sb_b 63 ∧ tbyt 20 0 = sb_b 42 ∧ tbyt 21 0 = sb_b 32 ∧ tbyt 22 0 = sb_b 58 := by decide +kernel
theorem lit_1 {t : Nat → Int32} {c : Nat} (h : t 0 = sb_b c) : ∀ i, i < 1 → t i = sb_b c := fun i hi => by
  obtain rfl : i = 0 := by omega
  exact h
theorem row_out {A : Nat → Prop} {D : va_G} {bs : List va_W} {H : Heap} (hP : va_P D vwCl (wj bs) H) (hD : va_D A (wj bs)) {i j : Nat} (hij : i ≠ j) {Z X : va_W} (hi : bs[i]? = some Z) (hj : bs[j]? = some X) {q : Nat × va_E} (hq : q ∈ X) : ¬ va_A Z H.size q.1 := by
  have hb := (wj_Dm.mp hD).2.1
  have mZ := List.mem_of_getElem? hi
  have mX := List.mem_of_getElem? hj
  rintro (⟨k, e, hk⟩ | h)
  · have mk : (q.1, e) ∈ Z := List.mem_of_getElem? hk
    obtain ⟨li, ei⟩ := List.getElem?_eq_some_iff.mp hi
    obtain ⟨lj, ej⟩ := List.getElem?_eq_some_iff.mp hj
    rcases Nat.lt_or_gt_of_ne hij with h | h
    · have := List.pairwise_iff_getElem.mp hb i j li lj h
      rw [ei, ej] at this
      exact this _ mk _ hq rfl
    · have := List.pairwise_iff_getElem.mp hb j i lj li h
      rw [ei, ej] at this
      exact this _ hq _ mk rfl
  · have := va_at.lt (va_P_m.mp hP q (wj_mem.mpr ⟨X, mX, hq⟩))
    omega
theorem bid_free {K : CT} (hI : GI (kG K)) {q s : Nat} (hq : q < gP (kG K)) (hs : s < gS (kG K)) (h : ¬ f_L_bid K (nI q) (nI s) ≤ 0) : f_X1_hasBridge (kG K) s = false := by
  refine nt_f (fun c => h ?_)
  have nb : gBld (kG K) s ≠ -1 := fun e => by
    unfold f_X1_hasBridge f_X1_hasBridge_j15 at c
    rw [if_pos e] at c
    cases c
  have no := (hI.2.1.2.2.1 s hs nb).2 q (by have := (GI_safe hI).2.1; omega)
  rw [bid_v hI hq hs]
  unfold f_X1_amountOf
  rw [no]
  decide
