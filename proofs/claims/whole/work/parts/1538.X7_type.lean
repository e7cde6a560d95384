def f_X7_type_j12  (Sc_12 : SS) : Nat × Nat × SS := (2, 0, Sc_12)
def f_X7_type (Q : QS) (Sc : SS) (x : Int32) : Nat × Nat × SS := (if x < 32 then (f_X7_type_j12 (Sc)) else (if x ≤ 126 then (if (nI (sSiz Sc)) = 60 then (3, 0, Sc) else (lt_ (f_X4_append Sc (x)) (fun y51 => (0, y51.1, y51.2)))) else (f_X7_type_j12 (Sc))))
set_option maxHeartbeats 4000000 in
set_option maxRecDepth 100000 in
theorem c_X7_type (l : Launch) (D : va_G) (C : Nat → ClassId) (ev : Nat → Nat) (u : Nat → Nat) (Q : QS) (Sc : SS) (x : Int32) (sz : Nat) (hSz : sSiz Sc ≤ 60) (hl9 : l.stackTraces = false) : vx_Met l yX7_type wsX7_type ({ frames := 6, cells := 1, slots := 6, locals := 82 } : Room) (xP [.ref (u 0), .int x] D C ev (wj [acells C u Q, scells C ev (uS u) Sc]) sz) (xO ((f_X7_type Q Sc x).1) (some (.int (nI ((f_X7_type Q Sc x).2.1)))) D (wj [acells C u Q, scells C ev (uS u) ((f_X7_type Q Sc x).2.2)]) (va_A (wj [acells C u Q, scells C ev (uS u) Sc]) sz)) (xC ((f_X7_type Q Sc x).1) D (wj [acells C u Q, scells C ev (uS u) ((f_X7_type Q Sc x).2.2)]) (va_A (wj [acells C u Q, scells C ev (uS u) Sc]) sz)) 1 6 (va_A (wj [acells C u Q, scells C ev (uS u) Sc]) sz) := by
  refine vx_ofW (cc := cX7_type) (maxL := 2) (ret := (some .int)) (by decide) rfl ?_
  intro p e s m args below meth c s₁ B hml htab hv
  obtain ⟨rfl, hsz, hP, hK, hD0, hE, hR, hX, hT9, hV9⟩ := hv
  have hx := B.exec
  have hb := B.bytes
  have hr := B.returns
  have hts := atoms_spec (ws := wsX7_type) B.pre
  have hown : s.vm.findClass RX7 = some m.cls := findClass_of_methodNamed B.named
  have hlocks := B.notSynchronized
  subst hsz
  have hD := hD0.self (sz := s.heap.size)
  generalize hAe : va_A (wj [acells C u Q, scells C ev (uS u) Sc]) s.heap.size = A at hD hX hV9 ⊢
  have hA : ∀ q : Nat, s.heap.size ≤ q → A q := fun q h => by rw [← hAe]; exact Or.inr h
  have hS0 : va_S A s.heap s.heap [] := va_S.rf
  have hP : va_P D vwCl (wj [acells C u Q, scells C ev (uS u) Sc]) s.heap := hP
  have hS := hS0
  obtain ⟨⟨hV, hB, hMV, hMB, hAL, hEk, hEa, hTX, hXZ⟩, hCS, hSF⟩ := id hX
  have hinX4 : ∀ w ∈ u_ws RX4 TX4 5, w ∈ wsX7_type := by decide +kernel
  have hinX7 : ∀ w ∈ u_ws RX7 TX7 10, w ∈ wsX7_type := by decide +kernel
  have hl := lv_entry ([.ref (u 0), .int x]) (n := 2) (Nat.le_of_ble_eq_true rfl)
  rw [lg_entry_eq]
  generalize (lg_sl ([.ref (u 0), .int x]) ++ List.replicate (2 - (lg_sl ([.ref (u 0), .int x])).length) Slot.unset).toArray = ls at hl ⊢
  have hl : lv_has ls 2 [(0, .ref (u 0)), (1, .int x)] := hl
  obtain ⟨z, hz⟩ : ∃ z, z = f_X7_type Q Sc x := ⟨_, rfl⟩
  rw [← hz]
  have J12 : ∀ (Sc_12 : SS)  (H : Heap) (locs : List Loc) (ls : Array Slot), z = f_X7_type_j12 Sc_12 → va_P D vwCl (wj [acells C u Q, scells C ev (uS u) Sc_12]) H → va_D A (wj [acells C u Q, scells C ev (uS u) Sc_12]) → va_S A s.heap H locs → lv_has ls 2 [] → W p l e ({ frames := 6, cells := 1, slots := 6, locals := 82 } : Room) s m ([.ref (u 0), .int x] : List Value).toArray below meth c H locs 0 0 (vx_MQ below (xO z.1 (some (.int (nI z.2.1))) D (wj [acells C u Q, scells C ev (uS u) z.2.2]) A) (xC z.1 D (wj [acells C u Q, scells C ev (uS u) z.2.2]) A) ([.ref (u 0), .int x] : List Value).toArray s 1 6 A) (F0 m 12 ls []) := by
    intro Sc_12 H locs ls hz  hP hD hS hl
    have hz : z = (2, 0, Sc_12) := hz
    rw [hz]
    exact x_throwW (C := C) (k9 := 1) (text := "the character code is not between 32 and 126") (wsm := wsX7_type) hx hb hl9 hts hown hT9 hV9 hP hS (by decide) (by decide +kernel) (by decide +kernel) (by decide +kernel) (by decide +kernel) (by decide +kernel) (by decide +kernel) (by decide +kernel) (hml.trans hl.1.symm) htab dX7_type_12 dX7_type_15 dX7_type_16 dX7_type_19 dX7_type_22 (Nat.le_of_ble_eq_true rfl) (Nat.le_of_ble_eq_true rfl) (Nat.le_of_ble_eq_true rfl) (Nat.le_of_ble_eq_true rfl) hlocks rfl (Nat.le_of_ble_eq_true rfl) (Nat.le_of_ble_eq_true rfl)
  refine lv_iload_n hx hb dX7_type_0 rfl (lv_at hl 1 rfl) ?_
  refine lv_bipush (v := 32) hx hb dX7_type_1 (by decide +kernel) ?_
  refine lv_icmp_lt (tgt := 12) hx hb dX7_type_3 (by decide) (fun c_3 => ?_) (fun c_3 => ?_)
  · have hz := hz.trans (if_pos c_3)
    exact J12 (Sc) _ _ ls hz  hP hD hS (lv_sub hl [] rfl)
  · have hz := hz.trans (if_neg c_3)
    refine lv_iload_n hx hb dX7_type_6 rfl (lv_at hl 1 rfl) ?_
    refine lv_bipush (v := 126) hx hb dX7_type_7 (by decide +kernel) ?_
    refine lv_icmp_le (tgt := 23) hx hb dX7_type_9 (by decide) (fun c_9 => ?_) (fun c_9 => ?_)
    · have hz := hz.trans (if_pos c_9)
      refine lv_aload_n hx hb dX7_type_23 rfl (lv_at hl 0 rfl) ?_
      refine va_get (D := D) (ci := 8) (v := .ref ((uS u) 0)) (C := RX7) (T := TX7) (N := 10) hx hb hts hinX7 hown hK hP 0 rfl rfl 5 (by decide) (hts (.fieldLink RX7 39 "BridgeAuction" "script" "LBridgeAuction$Script;") (by decide +kernel)) (fun _ h9 => h9) rfl dX7_type_24 ?_
      refine va_getN (D := D) (ci := 7) (v := .int (nI (sSiz Sc))) (C := RX4) (T := TX4) (N := 5) hx hb hts hinX4 hown hK hP 1 rfl rfl 1 (by decide) (hE.use 20 rfl) (fun _ h9 => h9) rfl dX7_type_27 ?_
      refine lv_bipush (v := 60) hx hb dX7_type_30 (by decide +kernel) ?_
      refine lv_icmp_ne (tgt := 46) hx hb dX7_type_32 (by decide) (fun c_32 => ?_) (fun c_32 => ?_)
      · have hz := hz.trans (if_neg c_32)
        have q : sSiz Sc < 60 := by have := neN (n := 60) (by decide +kernel) c_32; omega
        refine lv_aload_n hx hb dX7_type_46 rfl (lv_at hl 0 rfl) ?_
        refine va_get (D := D) (ci := 8) (v := .ref ((uS u) 0)) (C := RX7) (T := TX7) (N := 10) hx hb hts hinX7 hown hK hP 0 rfl rfl 5 (by decide) (hts (.fieldLink RX7 39 "BridgeAuction" "script" "LBridgeAuction$Script;") (by decide +kernel)) (fun _ h9 => h9) rfl dX7_type_47 ?_
        refine lv_iload_n hx hb dX7_type_50 rfl (lv_at hl 1 rfl) ?_
        have hPc : va_P D vwCl (scells C ev (uS u) Sc) _ := wj_P (cs := [scells C ev (uS u) Sc]) hP [1] rfl
        have hDc : va_D A (scells C ev (uS u) Sc) := wj_D (cs := [scells C ev (uS u) Sc]) hD [1] (by decide) rfl
        have hFc : ∀ q, va_A (scells C ev (uS u) Sc) (Array.size _) q → A q := wj_F (cs := [scells C ev (uS u) Sc]) hD hS hA [1] rfl
        refine callRw (va_runV (As := [.int x]) (rest := []) ⟨hx, hb, hml, hown, hts⟩ (c_X4_append l D C ev (uS u) Sc (x) _ (by show (sSiz Sc) < 60; first | assumption | omega)) (cwV 1 hts gX7_type_X4_append rfl rfl rfl (by decide +kernel) ⟨Nat.le_of_ble_eq_true rfl, Nat.le_of_ble_eq_true rfl⟩) (rwPE_v hPc hK hE hDc hR hX hS hFc (va_recv hK hPc (ci := 7) (q0 := 0) rfl rfl)) rfl rfl hl.1 rfl (lv_room (Nat.le_of_ble_eq_true rfl)) dX7_type_51 ⟨Nat.le_of_ble_eq_true rfl, Nat.le_of_ble_eq_true rfl⟩) hS hFc (fun H1 locs hPn hk hS => ?_)
        generalize hy51 : (f_X4_append Sc (x)) = y51 at hPn ⊢
        have hz := lt_eq hz hy51.symm
        have hP : va_P D vwCl (wj [acells C u Q, scells C ev (uS u) y51.2]) H1 := jb (bs := [acells C u Q, scells C ev (uS u) Sc]) (cs := [scells C ev (uS u) Sc]) (rs := [acells C u Q]) (cs' := [scells C ev (uS u) y51.2]) (bs' := [acells C u Q, scells C ev (uS u) y51.2]) hP hD (bsP 2 [1, 0] rfl (by decide) rfl) (bsP 2 [1, 0] rfl (by decide) rfl) hk hPn
        have hD : va_D A (wj [acells C u Q, scells C ev (uS u) y51.2]) := adr_D hD rfl
        generalize H1 = H at hP hS ⊢
        have hz : z = (0, y51.1, y51.2) := hz
        rw [hz]
        exact x_ret hx hb hr hP hS rfl rfl (Nat.le_of_ble_eq_true rfl) (Nat.le_of_ble_eq_true rfl) dX7_type_54 hlocks
      · have hz := hz.trans (if_pos c_32)
        have hz : z = (3, 0, Sc) := hz
        rw [hz]
        exact x_throwW (C := C) (k9 := 2) (text := "the script buffer is full") (wsm := wsX7_type) hx hb hl9 hts hown hT9 hV9 hP hS (by decide) (by decide +kernel) (by decide +kernel) (by decide +kernel) (by decide +kernel) (by decide +kernel) (by decide +kernel) (by decide +kernel) (hml.trans hl.1.symm) htab dX7_type_35 dX7_type_38 dX7_type_39 dX7_type_42 dX7_type_45 (Nat.le_of_ble_eq_true rfl) (Nat.le_of_ble_eq_true rfl) (Nat.le_of_ble_eq_true rfl) (Nat.le_of_ble_eq_true rfl) hlocks rfl (Nat.le_of_ble_eq_true rfl) (Nat.le_of_ble_eq_true rfl)
    · have hz := hz.trans (if_neg c_9)
      exact J12 (Sc) _ _ ls hz  hP hD hS (lv_sub hl [] rfl)

