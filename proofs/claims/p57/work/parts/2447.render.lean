/-! a site rendered, as the law asks it: the output text is the site's line then -/
theorem k_renderSite {l : Launch} {D : va_G} {C : Nat → ClassId} {ev u : Nat → Nat} {K : CT} {T : TX} (hl9 : l.stackTraces = false) (hI : GI (kG K)) {k : Nat} (hk : k < gS (kG K)) : KM l yX7_renderSite wsX7_renderSite ({ frames := 8, cells := 33, slots := 1094, locals := 181 } : Room) [.ref (u 0), .int (nI k)] D C ev u K T (dSite (kG K) k (T.1, 0)) (some (.int (nI (dSite (kG K) k (T.1, 0)).2))) 33 1094 := by
  have hG := GI_safe hI
  have h12 := hG.1
  intro x sz hx
  have e1 : f_X7_renderSite (kQ K) (kG K) T (nI k) = (0, dSite (kG K) k (T.1, 0)) := by
    have e2 : f_X7_requireSite (kQ K) (kG K) (nI k) = 0 := by
      unfold f_X7_requireSite
      rw [if_pos (site_y hG hk)]
    unfold f_X7_renderSite
    rw [if_pos e2, nI_clamp (by omega)]
  have hm := c_X7_renderSite l D C ev u (kQ K) (kG K) T x.2 (nI k) hG (fun k hk => DOK_of hI hk) hx.2 sz hl9
  rw [e1] at hm
  have hp : (kB C ev u K x).Perm ([acells C u (kQ K), gcells C (uA u) (kG K), ocells C (uO u) x.2] ++ [gcells C (uB u) (kG1 K), gcells C (uC u) (kG2 K), grcells C (uG u) x.1, hcells C (uH u) (kS K), scells C ev (uS u) (kSc K)]) := bsP 8 [0, 1, 7, 2, 3, 4, 5, 6] rfl (by decide) rfl
  have e : (kW C ev u K x).Perm (wj [acells C u (kQ K), gcells C (uA u) (kG K), ocells C (uO u) x.2] ++ wj [gcells C (uB u) (kG1 K), gcells C (uC u) (kG2 K), grcells C (uG u) x.1, hcells C (uH u) (kS K), scells C ev (uS u) (kSc K)]) := (wj_pm hp).trans wj_app
  refine MetFree.mono hm (fun a s hv => ?_) (fun _ _ _ _ _ h => h) (fun a s o t hv hq => ?_)
  · obtain ⟨⟨⟨h0, h1, h2, h3, h4, h5, h6, h7, h8, h9⟩, hDV⟩, hN, hC⟩ := hv
    exact ⟨⟨h0, h1, va_P_l e h2, h3, va_D_l e h4, h5, h6, h7.narrow (fun q => va_A_l e), h8, h9.narrow (fun q => va_A_l e)⟩, hDV.narrow (fun q => va_A_l e)⟩
  · obtain ⟨⟨⟨h0, h1, h2, h3, h4, -⟩, -⟩, -, -⟩ := hv
    rcases hq with ⟨⟨hz, ⟨O1, ho, hO1, hP1, hD1⟩, hFr⟩, L, hL, hf⟩ | ⟨q, ho, E, ce, L, hXC, -⟩
    · have hp' : ([acells C u (kQ K), gcells C (uA u) (kG K), ocells C (uO u) O1] ++ [gcells C (uB u) (kG1 K), gcells C (uC u) (kG2 K), grcells C (uG u) x.1, hcells C (uH u) (kS K), scells C ev (uS u) (kSc K)]).Perm (kB C ev u K (x.1, O1)) := bsP 8 [0, 1, 3, 4, 5, 6, 7, 2] rfl (by decide) rfl
      have pm := wj_app.symm.trans (wj_pm hp')
      have P1 := fr_P (va_P_pm e h2) (va_D_pm e h4) (fun q hq hn => hFr.2 q hq (by rw [h1] at hn; exact hn)) hP1
      have D1 := fr_D (va_P_pm e h2) (va_D_pm e (h4.self (sz := sz))) (fun q hq => va_A_l e (by rw [h1] at hq; exact hq)) (by rw [h1]; exact hD1)
      exact ⟨⟨⟨(x.1, O1), ho, ⟨hx.1, hO1⟩, va_P_pm pm P1, va_D_pm pm D1⟩, hFr.1, fun q hq hn => hFr.2 q hq (fun hc => hn (va_A_l e hc))⟩, L, hL, fun q hq => va_A_l e (hf q hq)⟩
    · have := hXC.1
      exact absurd this (Nat.lt_irrefl 0)
/-- what the line was before is of no matter -/
theorem dSite_T {G : GS} (hI : GI G) {k : Nat} (hk : k < gS G) (f : Nat → Nat) : TE (lineT G k) (dSite G k (f, 0)) := line_e hI hk f
