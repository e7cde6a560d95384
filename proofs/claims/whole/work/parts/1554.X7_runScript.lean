theorem X4_count_sz {S : SS} (hSz : sSiz S ≤ 60) (hVb : sVb S < 9) : ((f_X4_countCommands S).1 = -1 ∨ vp_in (f_X4_countCommands S).1 61) ∧ sSiz (f_X4_countCommands S).2 = sSiz S ∧ sVb (f_X4_countCommands S).2 < 9 := by
  refine lpF_invN (step := f_X4_countCommands_l7s) (ex := f_X4_countCommands_l7e) 61 (fun _ s => sSiz s = sSiz S ∧ sAt s ≤ sSiz S ∧ sVb s < 9) (fun r => (r.1 = -1 ∨ vp_in r.1 61) ∧ sSiz r.2 = sSiz S ∧ sVb r.2 < 9) ?_ ?_ ?_ (61 - 1) 1 _ rfl ⟨rfl, Nat.zero_le _, hVb⟩
  · rintro k s r hk ⟨h1, h2, h3⟩ h
    have q := X4_readCommand_sz (S := s) (by omega) (by omega) h3
    simp only [f_X4_countCommands_l7s, f_X4_countCommands_l7b, lt_] at h
    generalize f_X4_readCommand s = y at q h
    have q2 := X4_readSign_sz (S := y.2) (by omega) (by omega) 59
    generalize f_X4_readSign y.2 59 = u at q2 h
    split at h
    · split at h
      · cases h; exact ⟨Or.inr (vp_in_nI hk (by omega)), by show sSiz y.2 = _; omega, q.2.2⟩
      · split at h
        · cases h
        · cases h; exact ⟨Or.inl rfl, by show sSiz u.2 = _; omega, by show sVb u.2 < 9; omega⟩
    · cases h; exact ⟨Or.inl rfl, by show sSiz y.2 = _; omega, q.2.2⟩
  · rintro k s s' hk ⟨h1, h2, h3⟩ h
    have q := X4_readCommand_sz (S := s) (by omega) (by omega) h3
    simp only [f_X4_countCommands_l7s, f_X4_countCommands_l7b, lt_] at h
    generalize f_X4_readCommand s = y at q h
    have q2 := X4_readSign_sz (S := y.2) (by omega) (by omega) 59
    generalize f_X4_readSign y.2 59 = u at q2 h
    split at h
    · split at h
      · cases h
      · split at h
        · cases h; exact ⟨by omega, by omega, by omega⟩
        · cases h
    · cases h
  · rintro s ⟨h1, h2, h3⟩
    exact ⟨Or.inl rfl, h1, h3⟩
theorem copyFrom_fer {G G2 : GS} (h : FerOK G2) : FerOK (f_X1_copyFrom G G2) := by
  intro k hk
  have e : gFer (f_X1_copyFrom G G2) k = gFer G2 k := cpy_in hk
  rw [e]; exact h k hk
def f_X7_runScript (Q : QS) (G : GS) (S : HS) (Sc : SS) (G2 : GS) : Nat × Int32 × QS × GS × HS × SS × GS := (lt_ (f_X4_countCommands Sc) (fun y4 => (if y4.1 = (-1) then (2, 0, (mkQ (qHs Q) (nI (sAt y4.2)) (qFa Q)), G, S, (mkS (sSgn y4.2) 0 (sAt y4.2) (sVb y4.2) (sNum y4.2)), G2) else (lt_ (f_X1_copyFrom G2 G) (fun y51 => (lt_ (f_X4_runOn y4.2 y51 ((y4.1).toNatClampNeg)) (fun y63 => (if y63.1 = (-1) then (lt_ (f_X3_push S G) (fun y104 => (lt_ (f_X1_copyFrom G y63.2.2) (fun y115 => (0, y4.1, Q, y115, y104, (mkS (sSgn y63.2.1) 0 (sAt y63.2.1) (sVb y63.2.1) (sNum y63.2.1)), y63.2.2))))) else (3, 0, (mkQ (qHs Q) (qEr Q) y63.1), G, S, (mkS (sSgn y63.2.1) 0 (sAt y63.2.1) (sVb y63.2.1) (sNum y63.2.1)), y63.2.2)))))))))
set_option maxHeartbeats 4000000 in
set_option maxRecDepth 100000 in
theorem c_X7_runScript (l : Launch) (D : va_G) (C : Nat → ClassId) (ev : Nat → Nat) (u : Nat → Nat) (Q : QS) (G : GS) (S : HS) (Sc : SS) (G2 : GS) (sz : Nat) (hG : GSafe G) (hN : hNx S < 8) (hC : hCt S ≤ 8) (hG2 : GSafe G2) (hF : FerOK G) (hSz : sSiz Sc ≤ 60) (hVb : sVb Sc < 9) (hl9 : l.stackTraces = false) : vx_Met l yX7_runScript wsX7_runScript ({ frames := 8, cells := 1, slots := 6, locals := 177 } : Room) (xP [.ref (u 0)] D C ev (wj [acells C u Q, gcells C (uA u) G, hcells C (uH u) S, scells C ev (uS u) Sc, gcells C (uC u) G2]) sz) (xO ((f_X7_runScript Q G S Sc G2).1) (some (.int ((f_X7_runScript Q G S Sc G2).2.1))) D (wj [acells C u ((f_X7_runScript Q G S Sc G2).2.2.1), gcells C (uA u) ((f_X7_runScript Q G S Sc G2).2.2.2.1), hcells C (uH u) ((f_X7_runScript Q G S Sc G2).2.2.2.2.1), scells C ev (uS u) ((f_X7_runScript Q G S Sc G2).2.2.2.2.2.1), gcells C (uC u) ((f_X7_runScript Q G S Sc G2).2.2.2.2.2.2)]) (va_A (wj [acells C u Q, gcells C (uA u) G, hcells C (uH u) S, scells C ev (uS u) Sc, gcells C (uC u) G2]) sz)) (xC ((f_X7_runScript Q G S Sc G2).1) D (wj [acells C u ((f_X7_runScript Q G S Sc G2).2.2.1), gcells C (uA u) ((f_X7_runScript Q G S Sc G2).2.2.2.1), hcells C (uH u) ((f_X7_runScript Q G S Sc G2).2.2.2.2.1), scells C ev (uS u) ((f_X7_runScript Q G S Sc G2).2.2.2.2.2.1), gcells C (uC u) ((f_X7_runScript Q G S Sc G2).2.2.2.2.2.2)]) (va_A (wj [acells C u Q, gcells C (uA u) G, hcells C (uH u) S, scells C ev (uS u) Sc, gcells C (uC u) G2]) sz)) 1 6 (va_A (wj [acells C u Q, gcells C (uA u) G, hcells C (uH u) S, scells C ev (uS u) Sc, gcells C (uC u) G2]) sz) := by
  refine vx_ofW (cc := cX7_runScript) (maxL := 3) (ret := (some .int)) (by decide) rfl ?_
  intro p e s m args below meth c s₁ B hml htab hv
  obtain ⟨rfl, hsz, hP, hK, hD0, hE, hR, hX, hT9, hV9⟩ := hv
  have hx := B.exec
  have hb := B.bytes
  have hr := B.returns
  have hts := atoms_spec (ws := wsX7_runScript) B.pre
  have hown : s.vm.findClass RX7 = some m.cls := findClass_of_methodNamed B.named
  have hlocks := B.notSynchronized
  subst hsz
  have hD := hD0.self (sz := s.heap.size)
  generalize hAe : va_A (wj [acells C u Q, gcells C (uA u) G, hcells C (uH u) S, scells C ev (uS u) Sc, gcells C (uC u) G2]) s.heap.size = A at hD hX hV9 ⊢
  have hA : ∀ q : Nat, s.heap.size ≤ q → A q := fun q h => by rw [← hAe]; exact Or.inr h
  have hS0 : va_S A s.heap s.heap [] := va_S.rf
  have hP : va_P D vwCl (wj [acells C u Q, gcells C (uA u) G, hcells C (uH u) S, scells C ev (uS u) Sc, gcells C (uC u) G2]) s.heap := hP
  have hS := hS0
  obtain ⟨⟨hV, hB, hMV, hMB, hAL, hEk, hEa, hTX, hXZ⟩, hCS, hSF⟩ := id hX
  obtain ⟨hS12, hP4, hlo, hhi⟩ := id hG
  have hinX4 : ∀ w ∈ u_ws RX4 TX4 5, w ∈ wsX7_runScript := by decide +kernel
  have hinX7 : ∀ w ∈ u_ws RX7 TX7 10, w ∈ wsX7_runScript := by decide +kernel
  have hl := lv_entry ([.ref (u 0)]) (n := 3) (Nat.le_of_ble_eq_true rfl)
  rw [lg_entry_eq]
  generalize (lg_sl ([.ref (u 0)]) ++ List.replicate (3 - (lg_sl ([.ref (u 0)])).length) Slot.unset).toArray = ls at hl ⊢
  have hl : lv_has ls 3 [(0, .ref (u 0))] := hl
  obtain ⟨z, hz⟩ : ∃ z, z = f_X7_runScript Q G S Sc G2 := ⟨_, rfl⟩
  rw [← hz]
  refine lv_aload_n hx hb dX7_runScript_0 rfl (lv_at hl 0 rfl) ?_
  refine va_get (D := D) (ci := 8) (v := .ref ((uS u) 0)) (C := RX7) (T := TX7) (N := 10) hx hb hts hinX7 hown hK hP 0 rfl rfl 5 (by decide) (hts (.fieldLink RX7 39 "BridgeAuction" "script" "LBridgeAuction$Script;") (by decide +kernel)) (fun _ h9 => h9) rfl dX7_runScript_1 ?_
  have hPc : va_P D vwCl (scells C ev (uS u) Sc) _ := wj_P (cs := [scells C ev (uS u) Sc]) hP [3] rfl
  have hDc : va_D A (scells C ev (uS u) Sc) := wj_D (cs := [scells C ev (uS u) Sc]) hD [3] (by decide) rfl
  have hFc : ∀ q, va_A (scells C ev (uS u) Sc) (Array.size _) q → A q := wj_F (cs := [scells C ev (uS u) Sc]) hD hS hA [3] rfl
  refine callRw (va_runV (As := []) (rest := []) ⟨hx, hb, hml, hown, hts⟩ (c_X4_countCommands l D C ev (uS u) Sc _ (by show (sSiz Sc) ≤ 60; first | assumption | omega) (by show (sVb Sc) < 9; first | assumption | omega)) (cwV 0 hts gX7_runScript_X4_countCommands rfl rfl rfl (by decide +kernel) ⟨Nat.le_of_ble_eq_true rfl, Nat.le_of_ble_eq_true rfl⟩) (rwPE_v hPc hK hE hDc hR hX hS hFc (va_recv hK hPc (ci := 7) (q0 := 0) rfl rfl)) rfl rfl hl.1 rfl (lv_room (Nat.le_of_ble_eq_true rfl)) dX7_runScript_4 ⟨Nat.le_of_ble_eq_true rfl, Nat.le_of_ble_eq_true rfl⟩) hS hFc (fun H1 locs hPn hk hS => ?_)
  generalize hy4 : (f_X4_countCommands Sc) = y4 at hPn ⊢
  have hz := lt_eq hz hy4.symm
  have hP : va_P D vwCl (wj [acells C u Q, gcells C (uA u) G, hcells C (uH u) S, scells C ev (uS u) y4.2, gcells C (uC u) G2]) H1 := jb (bs := [acells C u Q, gcells C (uA u) G, hcells C (uH u) S, scells C ev (uS u) Sc, gcells C (uC u) G2]) (cs := [scells C ev (uS u) Sc]) (rs := [acells C u Q, gcells C (uA u) G, hcells C (uH u) S, gcells C (uC u) G2]) (cs' := [scells C ev (uS u) y4.2]) (bs' := [acells C u Q, gcells C (uA u) G, hcells C (uH u) S, scells C ev (uS u) y4.2, gcells C (uC u) G2]) hP hD (bsP 5 [3, 0, 1, 2, 4] rfl (by decide) rfl) (bsP 5 [1, 2, 3, 0, 4] rfl (by decide) rfl) hk hPn
  have hD : va_D A (wj [acells C u Q, gcells C (uA u) G, hcells C (uH u) S, scells C ev (uS u) y4.2, gcells C (uC u) G2]) := adr_D hD rfl
  generalize H1 = H at hP hS ⊢
  have a4 := X4_count_sz hSz hVb
  rw [hy4] at a4
  refine lv_istore_n (lv' := [(1, .int y4.1), (0, .ref (u 0))]) hx hb dX7_runScript_7 rfl hl (by decide) rfl (fun ls hl => ?_)
  refine lv_iload_n hx hb dX7_runScript_8 rfl (lv_at hl 0 rfl) ?_
  refine lv_iconst (v := (-1)) hx hb dX7_runScript_9 (by decide) ?_
  refine lv_icmp_ne (tgt := 43) hx hb dX7_runScript_10 (by decide) (fun c_10 => ?_) (fun c_10 => ?_)
  · have hz := hz.trans (if_neg c_10)
    have q10 : vp_in y4.1 61 := a4.1.resolve_left c_10
    refine lv_aload_n hx hb dX7_runScript_43 rfl (lv_at hl 1 rfl) ?_
    refine va_get (D := D) (ci := 8) (v := .ref ((uC u) 0)) (C := RX7) (T := TX7) (N := 10) hx hb hts hinX7 hown hK hP 0 rfl rfl 2 (by decide) (hts (.fieldLink RX7 19 "BridgeAuction" "trial" "LBridgeAuction$Game;") (by decide +kernel)) (fun _ h9 => h9) rfl dX7_runScript_44 ?_
    refine lv_aload_n hx hb dX7_runScript_47 rfl (lv_at hl 1 rfl) ?_
    refine va_get (D := D) (ci := 8) (v := .ref ((uA u) 0)) (C := RX7) (T := TX7) (N := 10) hx hb hts hinX7 hown hK hP 0 rfl rfl 0 (by decide) (hts (.fieldLink RX7 10 "BridgeAuction" "game" "LBridgeAuction$Game;") (by decide +kernel)) (fun _ h9 => h9) rfl dX7_runScript_48 ?_
    have hPc : va_P D vwCl (gcells C (uC u) G2 ++ gcells C (uA u) G) _ := wj_P (cs := [gcells C (uC u) G2, gcells C (uA u) G]) hP [4, 1] rfl
    have hDc : va_D A (gcells C (uC u) G2 ++ gcells C (uA u) G) := wj_D (cs := [gcells C (uC u) G2, gcells C (uA u) G]) hD [4, 1] (by decide) rfl
    have hFc : ∀ q, va_A (gcells C (uC u) G2 ++ gcells C (uA u) G) (Array.size _) q → A q := wj_F (cs := [gcells C (uC u) G2, gcells C (uA u) G]) hD hS hA [4, 1] rfl
    refine callRw (va_runV (As := [.ref ((uA u) 0)]) (rest := []) ⟨hx, hb, hml, hown, hts⟩ (c_X1_copyFrom l D C (uC u) G2 (uA u) G _) (cwV 1 hts gX7_runScript_X1_copyFrom rfl rfl rfl (by decide +kernel) ⟨Nat.le_of_ble_eq_true rfl, Nat.le_of_ble_eq_true rfl⟩) (rwP_v hPc hK hE hDc (va_recv hK hPc (ci := 4) (q0 := 0) rfl rfl)) rfl rfl hl.1 rfl (lv_room (Nat.le_of_ble_eq_true rfl)) dX7_runScript_51 ⟨Nat.le_of_ble_eq_true rfl, Nat.le_of_ble_eq_true rfl⟩) hS hFc (fun H1 locs hPn hk hS => ?_)
    generalize hy51 : (f_X1_copyFrom G2 G) = y51 at hPn ⊢
    have hz := lt_eq hz hy51.symm
    have hP : va_P D vwCl (wj [acells C u Q, gcells C (uA u) G, hcells C (uH u) S, scells C ev (uS u) y4.2, gcells C (uC u) y51]) H1 := jb (bs := [acells C u Q, gcells C (uA u) G, hcells C (uH u) S, scells C ev (uS u) y4.2, gcells C (uC u) G2]) (cs := [gcells C (uC u) G2, gcells C (uA u) G]) (rs := [acells C u Q, hcells C (uH u) S, scells C ev (uS u) y4.2]) (cs' := [gcells C (uC u) y51, gcells C (uA u) G]) (bs' := [acells C u Q, gcells C (uA u) G, hcells C (uH u) S, scells C ev (uS u) y4.2, gcells C (uC u) y51]) hP hD (bsP 5 [4, 1, 0, 2, 3] rfl (by decide) rfl) (bsP 5 [2, 1, 3, 4, 0] rfl (by decide) rfl) hk hPn
    have hD : va_D A (wj [acells C u Q, gcells C (uA u) G, hcells C (uH u) S, scells C ev (uS u) y4.2, gcells C (uC u) y51]) := adr_D hD rfl
    generalize H1 = H at hP hS ⊢
    have g51 : GSafe y51 := by rw [← hy51]; exact copyFrom_safe hG2 hG
    have f51 : FerOK y51 := by rw [← hy51]; exact copyFrom_fer hF
    refine lv_aload_n hx hb dX7_runScript_54 rfl (lv_at hl 1 rfl) ?_
    refine va_get (D := D) (ci := 8) (v := .ref ((uS u) 0)) (C := RX7) (T := TX7) (N := 10) hx hb hts hinX7 hown hK hP 0 rfl rfl 5 (by decide) (hts (.fieldLink RX7 39 "BridgeAuction" "script" "LBridgeAuction$Script;") (by decide +kernel)) (fun _ h9 => h9) rfl dX7_runScript_55 ?_
    refine lv_aload_n hx hb dX7_runScript_58 rfl (lv_at hl 1 rfl) ?_
    refine va_get (D := D) (ci := 8) (v := .ref ((uC u) 0)) (C := RX7) (T := TX7) (N := 10) hx hb hts hinX7 hown hK hP 0 rfl rfl 2 (by decide) (hts (.fieldLink RX7 19 "BridgeAuction" "trial" "LBridgeAuction$Game;") (by decide +kernel)) (fun _ h9 => h9) rfl dX7_runScript_59 ?_
    refine lv_iload_n hx hb dX7_runScript_62 rfl (lv_at hl 0 rfl) ?_
    obtain ⟨ehn_1, lhn_1⟩ := nat_of (x := y4.1) (n := 61) (by exact q10) (by omega)
    refine topN ehn_1 ?_
    have hPc : va_P D vwCl (scells C ev (uS u) y4.2 ++ gcells C (uC u) y51) _ := wj_P (cs := [scells C ev (uS u) y4.2, gcells C (uC u) y51]) hP [3, 4] rfl
    have hDc : va_D A (scells C ev (uS u) y4.2 ++ gcells C (uC u) y51) := wj_D (cs := [scells C ev (uS u) y4.2, gcells C (uC u) y51]) hD [3, 4] (by decide) rfl
    have hFc : ∀ q, va_A (scells C ev (uS u) y4.2 ++ gcells C (uC u) y51) (Array.size _) q → A q := wj_F (cs := [scells C ev (uS u) y4.2, gcells C (uC u) y51]) hD hS hA [3, 4] rfl
    refine callRw (va_runV (As := [.ref ((uC u) 0), .int (nI (y4.1).toNatClampNeg)]) (rest := []) ⟨hx, hb, hml, hown, hts⟩ (c_X4_runOn l D C ev (uS u) y4.2 (uC u) y51 ((y4.1).toNatClampNeg) _ g51 (by omega) (by show sSiz y4.2 ≤ 60; omega) (by exact a4.2.2) (by exact f51)) (cwV 2 hts gX7_runScript_X4_runOn rfl rfl rfl (by decide +kernel) ⟨Nat.le_of_ble_eq_true rfl, Nat.le_of_ble_eq_true rfl⟩) (rwPE_v hPc hK hE hDc hR hX hS hFc (va_recv hK hPc (ci := 7) (q0 := 0) rfl rfl)) rfl rfl hl.1 rfl (lv_room (Nat.le_of_ble_eq_true rfl)) dX7_runScript_63 ⟨Nat.le_of_ble_eq_true rfl, Nat.le_of_ble_eq_true rfl⟩) hS hFc (fun H1 locs hPn hk hS => ?_)
    generalize hy63 : (f_X4_runOn y4.2 y51 ((y4.1).toNatClampNeg)) = y63 at hPn ⊢
    have hz := lt_eq hz hy63.symm
    have hP : va_P D vwCl (wj [acells C u Q, gcells C (uA u) G, hcells C (uH u) S, scells C ev (uS u) y63.2.1, gcells C (uC u) y63.2.2]) H1 := jb (bs := [acells C u Q, gcells C (uA u) G, hcells C (uH u) S, scells C ev (uS u) y4.2, gcells C (uC u) y51]) (cs := [scells C ev (uS u) y4.2, gcells C (uC u) y51]) (rs := [acells C u Q, gcells C (uA u) G, hcells C (uH u) S]) (cs' := [scells C ev (uS u) y63.2.1, gcells C (uC u) y63.2.2]) (bs' := [acells C u Q, gcells C (uA u) G, hcells C (uH u) S, scells C ev (uS u) y63.2.1, gcells C (uC u) y63.2.2]) hP hD (bsP 5 [3, 4, 0, 1, 2] rfl (by decide) rfl) (bsP 5 [2, 3, 4, 0, 1] rfl (by decide) rfl) hk hPn
    have hD : va_D A (wj [acells C u Q, gcells C (uA u) G, hcells C (uH u) S, scells C ev (uS u) y63.2.1, gcells C (uC u) y63.2.2]) := adr_D hD rfl
    generalize H1 = H at hP hS ⊢
    refine lv_istore_n (lv' := [(2, .int y63.1), (1, .int y4.1), (0, .ref (u 0))]) hx hb dX7_runScript_66 rfl hl (by decide) rfl (fun ls hl => ?_)
    refine lv_aload_n hx hb dX7_runScript_67 rfl (lv_at hl 2 rfl) ?_
    refine va_get (D := D) (ci := 8) (v := .ref ((uS u) 0)) (C := RX7) (T := TX7) (N := 10) hx hb hts hinX7 hown hK hP 0 rfl rfl 5 (by decide) (hts (.fieldLink RX7 39 "BridgeAuction" "script" "LBridgeAuction$Script;") (by decide +kernel)) (fun _ h9 => h9) rfl dX7_runScript_68 ?_
    refine lv_iconst (v := 0) hx hb dX7_runScript_71 (by decide) ?_
    refine topN (k := 0) (by decide +kernel) ?_
    refine va_putN (D := D) (ci := 7) (v := .int (nI 0)) (ty := .int) (C := RX4) (T := TX4) (N := 5) hx hb hts hinX4 tyX4 tyX4_ok nmX4 hown hK hP hD hS 84 rfl rfl 1 (by decide) (hE.use 20 rfl) (fun _ h9 => h9) rfl (by decide +kernel) rfl rfl (Nat.le_of_ble_eq_true rfl) dX7_runScript_72 (fun H locs hP hD hS => ?_)
    have hP : va_P D vwCl (wj [acells C u Q, gcells C (uA u) G, hcells C (uH u) S, scells C ev (uS u) (mkS (sSgn y63.2.1) 0 (sAt y63.2.1) (sVb y63.2.1) (sNum y63.2.1)), gcells C (uC u) y63.2.2]) H := hP
    have hD : va_D A (wj [acells C u Q, gcells C (uA u) G, hcells C (uH u) S, scells C ev (uS u) (mkS (sSgn y63.2.1) 0 (sAt y63.2.1) (sVb y63.2.1) (sNum y63.2.1)), gcells C (uC u) y63.2.2]) := hD
    refine lv_iload_n hx hb dX7_runScript_75 rfl (lv_at hl 0 rfl) ?_
    refine lv_iconst (v := (-1)) hx hb dX7_runScript_76 (by decide) ?_
    refine lv_icmp_eq (tgt := 96) hx hb dX7_runScript_77 (by decide) (fun c_77 => ?_) (fun c_77 => ?_)
    · have hz := hz.trans (if_pos c_77)
      refine lv_aload_n hx hb dX7_runScript_96 rfl (lv_at hl 2 rfl) ?_
      refine va_get (D := D) (ci := 8) (v := .ref ((uH u) 0)) (C := RX7) (T := TX7) (N := 10) hx hb hts hinX7 hown hK hP 0 rfl rfl 4 (by decide) (hts (.fieldLink RX7 32 "BridgeAuction" "history" "LBridgeAuction$History;") (by decide +kernel)) (fun _ h9 => h9) rfl dX7_runScript_97 ?_
      refine lv_aload_n hx hb dX7_runScript_100 rfl (lv_at hl 2 rfl) ?_
      refine va_get (D := D) (ci := 8) (v := .ref ((uA u) 0)) (C := RX7) (T := TX7) (N := 10) hx hb hts hinX7 hown hK hP 0 rfl rfl 0 (by decide) (hts (.fieldLink RX7 10 "BridgeAuction" "game" "LBridgeAuction$Game;") (by decide +kernel)) (fun _ h9 => h9) rfl dX7_runScript_101 ?_
      have hPc : va_P D vwCl (hcells C (uH u) S ++ gcells C (uA u) G) _ := wj_P (cs := [hcells C (uH u) S, gcells C (uA u) G]) hP [2, 1] rfl
      have hDc : va_D A (hcells C (uH u) S ++ gcells C (uA u) G) := wj_D (cs := [hcells C (uH u) S, gcells C (uA u) G]) hD [2, 1] (by decide) rfl
      have hFc : ∀ q, va_A (hcells C (uH u) S ++ gcells C (uA u) G) (Array.size _) q → A q := wj_F (cs := [hcells C (uH u) S, gcells C (uA u) G]) hD hS hA [2, 1] rfl
      refine callRw (va_runV (As := [.ref ((uA u) 0)]) (rest := []) ⟨hx, hb, hml, hown, hts⟩ (c_X3_push l D C (uH u) S (uA u) G _ (by show (hNx S) < 8; first | assumption | omega) (by show (hCt S) ≤ 8; first | assumption | omega)) (cwV 1 hts gX7_runScript_X3_push rfl rfl rfl (by decide +kernel) ⟨Nat.le_of_ble_eq_true rfl, Nat.le_of_ble_eq_true rfl⟩) (rwP_v hPc hK hE hDc (va_recv hK hPc (ci := 6) (q0 := 0) rfl rfl)) rfl rfl hl.1 rfl (lv_room (Nat.le_of_ble_eq_true rfl)) dX7_runScript_104 ⟨Nat.le_of_ble_eq_true rfl, Nat.le_of_ble_eq_true rfl⟩) hS hFc (fun H1 locs hPn hk hS => ?_)
      generalize hy104 : (f_X3_push S G) = y104 at hPn ⊢
      have hz := lt_eq hz hy104.symm
      have hP : va_P D vwCl (wj [acells C u Q, gcells C (uA u) G, hcells C (uH u) y104, scells C ev (uS u) (mkS (sSgn y63.2.1) 0 (sAt y63.2.1) (sVb y63.2.1) (sNum y63.2.1)), gcells C (uC u) y63.2.2]) H1 := jb (bs := [acells C u Q, gcells C (uA u) G, hcells C (uH u) S, scells C ev (uS u) (mkS (sSgn y63.2.1) 0 (sAt y63.2.1) (sVb y63.2.1) (sNum y63.2.1)), gcells C (uC u) y63.2.2]) (cs := [hcells C (uH u) S, gcells C (uA u) G]) (rs := [acells C u Q, scells C ev (uS u) (mkS (sSgn y63.2.1) 0 (sAt y63.2.1) (sVb y63.2.1) (sNum y63.2.1)), gcells C (uC u) y63.2.2]) (cs' := [hcells C (uH u) y104, gcells C (uA u) G]) (bs' := [acells C u Q, gcells C (uA u) G, hcells C (uH u) y104, scells C ev (uS u) (mkS (sSgn y63.2.1) 0 (sAt y63.2.1) (sVb y63.2.1) (sNum y63.2.1)), gcells C (uC u) y63.2.2]) hP hD (bsP 5 [2, 1, 0, 3, 4] rfl (by decide) rfl) (bsP 5 [2, 1, 0, 3, 4] rfl (by decide) rfl) hk hPn
      have hD : va_D A (wj [acells C u Q, gcells C (uA u) G, hcells C (uH u) y104, scells C ev (uS u) (mkS (sSgn y63.2.1) 0 (sAt y63.2.1) (sVb y63.2.1) (sNum y63.2.1)), gcells C (uC u) y63.2.2]) := adr_D hD rfl
      generalize H1 = H at hP hS ⊢
      refine lv_aload_n hx hb dX7_runScript_107 rfl (lv_at hl 2 rfl) ?_
      refine va_get (D := D) (ci := 8) (v := .ref ((uA u) 0)) (C := RX7) (T := TX7) (N := 10) hx hb hts hinX7 hown hK hP 0 rfl rfl 0 (by decide) (hts (.fieldLink RX7 10 "BridgeAuction" "game" "LBridgeAuction$Game;") (by decide +kernel)) (fun _ h9 => h9) rfl dX7_runScript_108 ?_
      refine lv_aload_n hx hb dX7_runScript_111 rfl (lv_at hl 2 rfl) ?_
      refine va_get (D := D) (ci := 8) (v := .ref ((uC u) 0)) (C := RX7) (T := TX7) (N := 10) hx hb hts hinX7 hown hK hP 0 rfl rfl 2 (by decide) (hts (.fieldLink RX7 19 "BridgeAuction" "trial" "LBridgeAuction$Game;") (by decide +kernel)) (fun _ h9 => h9) rfl dX7_runScript_112 ?_
      have hPc : va_P D vwCl (gcells C (uA u) G ++ gcells C (uC u) y63.2.2) _ := wj_P (cs := [gcells C (uA u) G, gcells C (uC u) y63.2.2]) hP [1, 4] rfl
      have hDc : va_D A (gcells C (uA u) G ++ gcells C (uC u) y63.2.2) := wj_D (cs := [gcells C (uA u) G, gcells C (uC u) y63.2.2]) hD [1, 4] (by decide) rfl
      have hFc : ∀ q, va_A (gcells C (uA u) G ++ gcells C (uC u) y63.2.2) (Array.size _) q → A q := wj_F (cs := [gcells C (uA u) G, gcells C (uC u) y63.2.2]) hD hS hA [1, 4] rfl
      refine callRw (va_runV (As := [.ref ((uC u) 0)]) (rest := []) ⟨hx, hb, hml, hown, hts⟩ (c_X1_copyFrom l D C (uA u) G (uC u) y63.2.2 _) (cwV 1 hts gX7_runScript_X1_copyFrom rfl rfl rfl (by decide +kernel) ⟨Nat.le_of_ble_eq_true rfl, Nat.le_of_ble_eq_true rfl⟩) (rwP_v hPc hK hE hDc (va_recv hK hPc (ci := 4) (q0 := 0) rfl rfl)) rfl rfl hl.1 rfl (lv_room (Nat.le_of_ble_eq_true rfl)) dX7_runScript_115 ⟨Nat.le_of_ble_eq_true rfl, Nat.le_of_ble_eq_true rfl⟩) hS hFc (fun H1 locs hPn hk hS => ?_)
      generalize hy115 : (f_X1_copyFrom G y63.2.2) = y115 at hPn ⊢
      have hz := lt_eq hz hy115.symm
      have hP : va_P D vwCl (wj [acells C u Q, gcells C (uA u) y115, hcells C (uH u) y104, scells C ev (uS u) (mkS (sSgn y63.2.1) 0 (sAt y63.2.1) (sVb y63.2.1) (sNum y63.2.1)), gcells C (uC u) y63.2.2]) H1 := jb (bs := [acells C u Q, gcells C (uA u) G, hcells C (uH u) y104, scells C ev (uS u) (mkS (sSgn y63.2.1) 0 (sAt y63.2.1) (sVb y63.2.1) (sNum y63.2.1)), gcells C (uC u) y63.2.2]) (cs := [gcells C (uA u) G, gcells C (uC u) y63.2.2]) (rs := [acells C u Q, hcells C (uH u) y104, scells C ev (uS u) (mkS (sSgn y63.2.1) 0 (sAt y63.2.1) (sVb y63.2.1) (sNum y63.2.1))]) (cs' := [gcells C (uA u) y115, gcells C (uC u) y63.2.2]) (bs' := [acells C u Q, gcells C (uA u) y115, hcells C (uH u) y104, scells C ev (uS u) (mkS (sSgn y63.2.1) 0 (sAt y63.2.1) (sVb y63.2.1) (sNum y63.2.1)), gcells C (uC u) y63.2.2]) hP hD (bsP 5 [1, 4, 0, 2, 3] rfl (by decide) rfl) (bsP 5 [2, 0, 3, 4, 1] rfl (by decide) rfl) hk hPn
      have hD : va_D A (wj [acells C u Q, gcells C (uA u) y115, hcells C (uH u) y104, scells C ev (uS u) (mkS (sSgn y63.2.1) 0 (sAt y63.2.1) (sVb y63.2.1) (sNum y63.2.1)), gcells C (uC u) y63.2.2]) := adr_D hD rfl
      generalize H1 = H at hP hS ⊢
      refine lv_iload_n hx hb dX7_runScript_118 rfl (lv_at hl 1 rfl) ?_
      have hz : z = (0, y4.1, Q, y115, y104, (mkS (sSgn y63.2.1) 0 (sAt y63.2.1) (sVb y63.2.1) (sNum y63.2.1)), y63.2.2) := hz
      rw [hz]
      exact x_ret hx hb hr hP hS rfl rfl (Nat.le_of_ble_eq_true rfl) (Nat.le_of_ble_eq_true rfl) dX7_runScript_119 hlocks
    · have hz := hz.trans (if_neg c_77)
      refine lv_aload_n hx hb dX7_runScript_80 rfl (lv_at hl 2 rfl) ?_
      refine lv_iload_n hx hb dX7_runScript_81 rfl (lv_at hl 0 rfl) ?_
      refine va_put (D := D) (ci := 8) (v := .int y63.1) (ty := .int) (C := RX7) (T := TX7) (N := 10) hx hb hts hinX7 tyX7 tyX7_ok nmX7 hown hK hP hD hS 0 rfl rfl 9 (by decide) (hts (.fieldLink RX7 58 "BridgeAuction" "failedCommand" "I") (by decide +kernel)) (fun _ h9 => h9) rfl (by decide +kernel) rfl rfl (Nat.le_of_ble_eq_true rfl) dX7_runScript_82 (fun H locs hP hD hS => ?_)
      have hP : va_P D vwCl (wj [acells C u (mkQ (qHs Q) (qEr Q) y63.1), gcells C (uA u) G, hcells C (uH u) S, scells C ev (uS u) (mkS (sSgn y63.2.1) 0 (sAt y63.2.1) (sVb y63.2.1) (sNum y63.2.1)), gcells C (uC u) y63.2.2]) H := hP
      have hD : va_D A (wj [acells C u (mkQ (qHs Q) (qEr Q) y63.1), gcells C (uA u) G, hcells C (uH u) S, scells C ev (uS u) (mkS (sSgn y63.2.1) 0 (sAt y63.2.1) (sVb y63.2.1) (sNum y63.2.1)), gcells C (uC u) y63.2.2]) := hD
      have hz : z = (3, 0, (mkQ (qHs Q) (qEr Q) y63.1), G, S, (mkS (sSgn y63.2.1) 0 (sAt y63.2.1) (sVb y63.2.1) (sNum y63.2.1)), y63.2.2) := hz
      rw [hz]
      exact x_throwW (C := C) (k9 := 2) (text := "a command of the script failed") (wsm := wsX7_runScript) hx hb hl9 hts hown hT9 hV9 hP hS (by decide) (by decide +kernel) (by decide +kernel) (by decide +kernel) (by decide +kernel) (by decide +kernel) (by decide +kernel) (by decide +kernel) (hml.trans hl.1.symm) htab dX7_runScript_85 dX7_runScript_88 dX7_runScript_89 dX7_runScript_92 dX7_runScript_95 (Nat.le_of_ble_eq_true rfl) (Nat.le_of_ble_eq_true rfl) (Nat.le_of_ble_eq_true rfl) (Nat.le_of_ble_eq_true rfl) hlocks rfl (Nat.le_of_ble_eq_true rfl) (Nat.le_of_ble_eq_true rfl)
  · have hz := hz.trans (if_pos c_10)
    refine lv_aload_n hx hb dX7_runScript_13 rfl (lv_at hl 1 rfl) ?_
    refine lv_aload_n hx hb dX7_runScript_14 rfl (lv_at hl 1 rfl) ?_
    refine va_get (D := D) (ci := 8) (v := .ref ((uS u) 0)) (C := RX7) (T := TX7) (N := 10) hx hb hts hinX7 hown hK hP 0 rfl rfl 5 (by decide) (hts (.fieldLink RX7 39 "BridgeAuction" "script" "LBridgeAuction$Script;") (by decide +kernel)) (fun _ h9 => h9) rfl dX7_runScript_15 ?_
    refine va_getN (D := D) (ci := 7) (v := .int (nI (sAt y4.2))) (C := RX4) (T := TX4) (N := 5) hx hb hts hinX4 hown hK hP 84 rfl rfl 2 (by decide) (hE.use 21 rfl) (fun _ h9 => h9) rfl dX7_runScript_18 ?_
    refine va_put (D := D) (ci := 8) (v := .int (nI (sAt y4.2))) (ty := .int) (C := RX7) (T := TX7) (N := 10) hx hb hts hinX7 tyX7 tyX7_ok nmX7 hown hK hP hD hS 0 rfl rfl 8 (by decide) (hts (.fieldLink RX7 54 "BridgeAuction" "errorPosition" "I") (by decide +kernel)) (fun _ h9 => h9) rfl (by decide +kernel) rfl rfl (Nat.le_of_ble_eq_true rfl) dX7_runScript_21 (fun H locs hP hD hS => ?_)
    have hP : va_P D vwCl (wj [acells C u (mkQ (qHs Q) (nI (sAt y4.2)) (qFa Q)), gcells C (uA u) G, hcells C (uH u) S, scells C ev (uS u) y4.2, gcells C (uC u) G2]) H := hP
    have hD : va_D A (wj [acells C u (mkQ (qHs Q) (nI (sAt y4.2)) (qFa Q)), gcells C (uA u) G, hcells C (uH u) S, scells C ev (uS u) y4.2, gcells C (uC u) G2]) := hD
    refine lv_aload_n hx hb dX7_runScript_24 rfl (lv_at hl 1 rfl) ?_
    refine va_get (D := D) (ci := 8) (v := .ref ((uS u) 0)) (C := RX7) (T := TX7) (N := 10) hx hb hts hinX7 hown hK hP 0 rfl rfl 5 (by decide) (hts (.fieldLink RX7 39 "BridgeAuction" "script" "LBridgeAuction$Script;") (by decide +kernel)) (fun _ h9 => h9) rfl dX7_runScript_25 ?_
    refine lv_iconst (v := 0) hx hb dX7_runScript_28 (by decide) ?_
    refine topN (k := 0) (by decide +kernel) ?_
    refine va_putN (D := D) (ci := 7) (v := .int (nI 0)) (ty := .int) (C := RX4) (T := TX4) (N := 5) hx hb hts hinX4 tyX4 tyX4_ok nmX4 hown hK hP hD hS 84 rfl rfl 1 (by decide) (hE.use 20 rfl) (fun _ h9 => h9) rfl (by decide +kernel) rfl rfl (Nat.le_of_ble_eq_true rfl) dX7_runScript_29 (fun H locs hP hD hS => ?_)
    have hP : va_P D vwCl (wj [acells C u (mkQ (qHs Q) (nI (sAt y4.2)) (qFa Q)), gcells C (uA u) G, hcells C (uH u) S, scells C ev (uS u) (mkS (sSgn y4.2) 0 (sAt y4.2) (sVb y4.2) (sNum y4.2)), gcells C (uC u) G2]) H := hP
    have hD : va_D A (wj [acells C u (mkQ (qHs Q) (nI (sAt y4.2)) (qFa Q)), gcells C (uA u) G, hcells C (uH u) S, scells C ev (uS u) (mkS (sSgn y4.2) 0 (sAt y4.2) (sVb y4.2) (sNum y4.2)), gcells C (uC u) G2]) := hD
    have hz : z = (2, 0, (mkQ (qHs Q) (nI (sAt y4.2)) (qFa Q)), G, S, (mkS (sSgn y4.2) 0 (sAt y4.2) (sVb y4.2) (sNum y4.2)), G2) := hz
    rw [hz]
    exact x_throwW (C := C) (k9 := 1) (text := "the script does not have the required form") (wsm := wsX7_runScript) hx hb hl9 hts hown hT9 hV9 hP hS (by decide) (by decide +kernel) (by decide +kernel) (by decide +kernel) (by decide +kernel) (by decide +kernel) (by decide +kernel) (by decide +kernel) (hml.trans hl.1.symm) htab dX7_runScript_32 dX7_runScript_35 dX7_runScript_36 dX7_runScript_39 dX7_runScript_42 (Nat.le_of_ble_eq_true rfl) (Nat.le_of_ble_eq_true rfl) (Nat.le_of_ble_eq_true rfl) (Nat.le_of_ble_eq_true rfl) hlocks rfl (Nat.le_of_ble_eq_true rfl) (Nat.le_of_ble_eq_true rfl)

