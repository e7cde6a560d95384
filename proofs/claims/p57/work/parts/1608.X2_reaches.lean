theorem X2_visit8_sub {G : GS} (hG : GSafe G) {i : Int32} (hi : vp_in i 8) (x : Int32) : subS x (f_X2_visit8 G i x) := by
  refine lpF_invN (step := f_X2_visit8_l9s G i) (ex := f_X2_visit8_l9e G i) (gS G) (fun _ v => subS x v) (fun r => subS x r) ?_ ?_ ?_ (gS G) 0 _ (Nat.zero_add _) (sub_seti x hi)
  · intro k v r _ hI h
    simp only [f_X2_visit8_l9s, f_X2_visit8_l9b, f_X2_visit8_j50] at h
    repeat' split at h
    all_goals cases h
  · intro k v v' _ hI h
    simp only [f_X2_visit8_l9s, f_X2_visit8_l9b, f_X2_visit8_j50] at h
    split at h
    · cases h; exact hI
    · rename_i c1
      split at h
      · cases h; exact hI
      · cases h; exact subS_trans hI (X2_visit7_sub hG (bridgedFrom_in hG c1) v)
  · intro v hI; exact hI
theorem con_0 {i : Int32} (h : vp_in i 8) : f_X2_contains 0 i = false := by rw [con_in h, bit_0]
def f_X2_reaches (Rr : GR) (G : GS) (x : Int32) (y : Int32) : Bool := (f_X2_contains ((f_X2_visit8 G (x) (0))) (y))
set_option maxHeartbeats 4000000 in
set_option maxRecDepth 100000 in
theorem c_X2_reaches (l : Launch) (D : va_G) (C : Nat → ClassId) (g : Nat → Nat) (Rr : GR) (a : Nat → Nat) (G : GS) (x : Int32) (y : Int32) (hG : GSafe G) (hx8 : vp_in x 8) : Met l yX2_reaches wsX2_reaches ({ frames := 10, cells := 0, slots := 0, locals := 243 } : Room) (roP [.ref (a 0), .int x, .int y] D C (grcells C g Rr ++ gcells C a G)) (roO (some (.int (bI (f_X2_reaches Rr G x y))))) 0 0 (fun _ => False) := by
  refine Met.ofW (cc := cX2_reaches) (maxL := 3) (ret := (some .boolean)) (by decide) rfl ?_
  intro p e s m args below meth c s₁ B hml hv
  obtain ⟨rfl, hP, hK, hE⟩ := hv
  have hx := B.exec
  have hb := B.bytes
  have hr := B.returns
  have hts := atoms_spec (ws := wsX2_reaches) B.pre
  have hown : s.vm.findClass RX2 = some m.cls := findClass_of_methodNamed B.named
  have hlocks := B.notSynchronized
  obtain ⟨hS12, hP4, hlo, hhi⟩ := id hG
  have hl := lv_entry ([.ref (a 0), .int x, .int y]) (n := 3) (Nat.le_of_ble_eq_true rfl)
  rw [lg_entry_eq]
  generalize (lg_sl ([.ref (a 0), .int x, .int y]) ++ List.replicate (3 - (lg_sl ([.ref (a 0), .int x, .int y])).length) Slot.unset).toArray = ls at hl ⊢
  have hl : lv_has ls 3 [(0, .ref (a 0)), (1, .int x), (2, .int y)] := hl
  obtain ⟨z, hz⟩ : ∃ z, z = f_X2_reaches Rr G x y := ⟨_, rfl⟩
  rw [← hz]
  refine lv_aload_n hx hb dX2_reaches_0 rfl (lv_at hl 0 rfl) ?_
  refine lv_iload_n hx hb dX2_reaches_1 rfl (lv_at hl 1 rfl) ?_
  refine lv_iconst (v := 0) hx hb dX2_reaches_2 (by decide) ?_
  refine callRo (va_runS (As := [.ref (a 0), .int x, .int 0]) (rest := []) ⟨hx, hb, hml, hown, hts⟩ (c_X2_visit8 l D C a G (x) (0) hG (by exact hx8) (by exact con_0 hx8) (by exact cU_8 _)) (va_cwS 3 hts gX2_reaches_X2_visit rfl rfl rfl (by decide +kernel) ⟨Nat.le_of_ble_eq_true rfl, Nat.le_of_ble_eq_true rfl⟩) (roP_s (hP.sub (ws' := (gcells C a G)) [4, 5, 6, 7, 8, 9, 10, 11, 12] rfl) hK hE) rfl rfl hl.1 rfl (lv_room (Nat.le_of_ble_eq_true rfl)) dX2_reaches_3 ⟨Nat.le_refl _, Nat.le_refl _⟩) ?_
  refine lv_iload_n hx hb dX2_reaches_6 rfl (lv_at hl 2 rfl) ?_
  refine callRo (va_runS (As := [.int (f_X2_visit8 G (x) (0)), .int y]) (rest := []) ⟨hx, hb, hml, hown, hts⟩ (c_X2_contains l D C ((f_X2_visit8 G (x) (0))) (y)) (va_cwS 2 hts gX2_reaches_X2_contains rfl rfl rfl (by decide +kernel) ⟨Nat.le_of_ble_eq_true rfl, Nat.le_of_ble_eq_true rfl⟩) (roP_s (hP.sub (ws' := ([] : va_W)) [] rfl) hK hE) rfl rfl hl.1 rfl (lv_room (Nat.le_of_ble_eq_true rfl)) dX2_reaches_7 ⟨Nat.le_refl _, Nat.le_refl _⟩) ?_
  exact ro_retB hx hb hr (show _ = (f_X2_contains ((f_X2_visit8 G (x) (0))) (y)) from hz) dX2_reaches_10 hlocks

