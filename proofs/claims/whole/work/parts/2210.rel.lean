/-! the relation between the two worlds -/
def REL (Q : QS) (G : GS) (S : HS) (Sc : SS) (G1 G2 : GS) (T : TX) (Rr : GR) (M : MS) : Prop :=
  RR G (mNow M) ∧ HR S (mHis M) (mRem M) ∧ (qHs Q = mIsS M ∧ (mIsS M = true → RR G1 (mSav M)) ∧ GSafe G1) ∧ GSafe G2 ∧ (qEr Q = mErA M ∧ qFa Q = mFaA M) ∧ (sSiz Sc = mTyp M ∧ mTyp M ≤ 60 ∧ (∀ j, j < mTyp M → sSgn Sc j = mTxt M j) ∧ sVb Sc < 9) ∧ (LN T (mLin M) (mLnd M) ∧ mLnd M ≤ 34) ∧ RSafe Rr
theorem now0_lo : ∀ i, i < 8 → now0 8 (6 + i) = suits0 8 i := by decide +kernel
theorem now0_0 : now0 8 0 = 0 ∧ now0 8 1 = 0 ∧ now0 8 2 = 0 ∧ now0 8 3 = 0 ∧ now0 8 4 = 0 ∧ now0 8 5 = 0 := by decide +kernel
theorem now0_hi : ∀ k, k < 12 → now0 8 (22 + 13 * k + 0) = 0 ∧ now0 8 (22 + 13 * k + 1) = 0 ∧ now0 8 (22 + 13 * k + 4) = 0 := by decide +kernel
theorem suits0_in : ∀ i, i < 8 → 0 ≤ (suits0 8 i).toInt ∧ (suits0 8 i).toInt < 4 := by decide +kernel
theorem GSafe_0 : GSafe G0 := ⟨Nat.zero_le _, Nat.zero_le _, fun _ => (show 0 < 8 by decide), fun _ => (show 0 < 8 by decide)⟩
theorem NowOK_0 : NowOK (now0 8) := by
  obtain ⟨h0, h1, h2, h3, h4, h5⟩ := now0_0
  refine ⟨⟨?_, ?_⟩, ⟨?_, ?_⟩, fun k hk => ?_, fun k hk => ?_⟩
  · unfold mS; rw [h2]; rfl
  · unfold mS; rw [h2]; decide
  · unfold mP; rw [h1]; rfl
  · unfold mP; rw [h1]; decide
  · obtain ⟨a, b, c⟩ := now0_hi k hk
    rw [a, b]
    exact ⟨vp_of_int (by decide) (by decide), vp_of_int (by decide) (by decide)⟩
  · obtain ⟨a, b, c⟩ := now0_hi k hk
    rw [c]
    exact Or.inr (vp_of_int (by decide) (by decide))
theorem NR_0 : NR G0 (now0 8) := by
  obtain ⟨h0, h1, h2, h3, h4, h5⟩ := now0_0
  exact ⟨⟨h0, h1, h2, h3, h4, h5⟩, fun i hi => now0_lo i hi, fun p hp => absurd hp (Nat.not_lt_zero p), fun k hk => absurd hk (Nat.not_lt_zero k)⟩
theorem FerOK_0 : FerOK G0 := fun k hk => Or.inr (vp_of_int (show 0 ≤ (0 : Int32).toInt by decide) (show (0 : Int32).toInt < (4 : Nat) by decide))
theorem GI_0 : GI G0 := by
  refine ⟨⟨GSafe_0, ⟨0, by decide, rfl⟩, fun i hi => ?_, fun p hp => absurd hp (Nat.not_lt_zero p), fun k hk => absurd hk (Nat.not_lt_zero k), fun k hk => absurd hk (Nat.not_lt_zero k), fun k hk => absurd hk (Nat.not_lt_zero k)⟩, ⟨fun k hk q hq => ?_, fun k hk q hq _ => rfl, fun k hk => absurd hk (Nat.not_lt_zero k), fun q hq _ => ?_⟩, fun q hq => absurd hq (Nat.not_lt_zero q), rfl⟩
  · obtain ⟨a, b⟩ := suits0_in i hi
    exact vp_of_int a b
  · exact ⟨show -99 ≤ (0 : Int32).toInt by decide, show (0 : Int32).toInt ≤ 99 by decide⟩
  · have : ∀ q, q < 4 → f_X1_hasUsedFerry G0 q = false := by decide +kernel
    exact this q hq
theorem RR_0 : RR G0 (now0 8) := ⟨GI_0, NR_0, NowOK_0, FerOK_0⟩
theorem REL_0 : REL (mkQ false (-1) (-1)) G0 (mkHS (fun _ => G0) 0 0) S0 G0 G0 T0 R0 M0 :=
  ⟨RR_0, ⟨show 0 < 8 by decide, show 0 ≤ 8 by decide, rfl, fun _ => GSafe_0, fun k hk => absurd hk (Nat.not_lt_zero k)⟩, ⟨rfl, fun h => (by cases h), GSafe_0⟩, GSafe_0, ⟨rfl, rfl⟩, ⟨rfl, show 0 ≤ 60 by decide, fun j hj => absurd hj (Nat.not_lt_zero j), show 0 < 9 by decide⟩, ⟨⟨rfl, fun j hj => absurd hj (Nat.not_lt_zero j)⟩, show 0 ≤ 34 by decide⟩, fun _ => show 0 < 8 by decide⟩
