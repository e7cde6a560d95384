/-! the graph: its rows and searches -/
def f_J7_fill_53178_l5b (x : Int32) (k5 : Nat) (arr0_5 : (Nat → Int32)) : Sum ((Nat → Int32)) ((Nat → Int32)) := (Sum.inr (upd arr0_5 k5 x))
def f_J7_fill_53178_l5x (x : Int32) (arr0_5 : (Nat → Int32)) : (Nat → Int32) := arr0_5
def f_J7_fill_53178_l5s (x : Int32) (k5 : Nat) (q_ : (Nat → Int32)) : Sum ((Nat → Int32)) ((Nat → Int32)) := f_J7_fill_53178_l5b x k5 (q_)
def f_J7_fill_53178_l5e (x : Int32) (q_ : (Nat → Int32)) : (Nat → Int32) := f_J7_fill_53178_l5x x (q_)
def f_J7_fill_53178_l5 (x : Int32) (n5 k5 : Nat) (arr0_5 : (Nat → Int32)) : (Nat → Int32) := lpF (f_J7_fill_53178_l5s x) (f_J7_fill_53178_l5e x) n5 k5 arr0_5
def f_J7_fill_53178 (F : (Nat → Int32)) (x : Int32) : (Nat → Int32) := (f_J7_fill_53178_l5 x (8) 0 (F))
set_option maxHeartbeats 4000000 in
set_option maxRecDepth 100000 in
theorem c_J7_fill_53178 (l : Launch) (D : va_G) (C : Nat → ClassId) (r : Nat) (F : (Nat → Int32)) (x : Int32) (sz : Nat) : Met l yJ7_fill_53178 wsJ7_fill_53178 ({ frames := 0, cells := 0, slots := 0, locals := 0 } : Room) (rwP [.ref r, .int x] D C ([(r, .inl (C 0, 8, .inl F))]) sz) (rwO none D ([(r, .inl (C 0, 8, .inl ((f_J7_fill_53178 F x))))]) (va_A ([(r, .inl (C 0, 8, .inl F))]) sz)) 0 0 (va_A ([(r, .inl (C 0, 8, .inl F))]) sz) := by
  refine Met.ofW (cc := cJ7_fill_53178) (maxL := 4) (ret := none) (by decide) rfl ?_
  intro p e s m args below meth c s₁ B hml hv
  obtain ⟨rfl, hsz, hP, hK, hD0, hE⟩ := hv
  have hx := B.exec
  have hb := B.bytes
  have hr := B.returns
  have hts := atoms_spec (ws := wsJ7_fill_53178) B.pre
  have hown : s.vm.findClass RJ7 = some m.cls := findClass_of_methodNamed B.named
  have hlocks := B.notSynchronized
  subst hsz
  have hD := hD0.self (sz := s.heap.size)
  generalize hAe : va_A ([(r, .inl (C 0, 8, .inl F))]) s.heap.size = A at hD ⊢
  have hA : ∀ q : Nat, s.heap.size ≤ q → A q := fun q h => by rw [← hAe]; exact Or.inr h
  have hS0 : va_S A s.heap s.heap [] := va_S.rf
  have hP : va_P D vwCl ([(r, .inl (C 0, 8, .inl F))]) s.heap := hP
  have hS := hS0
  have hl := lv_entry ([.ref r, .int x]) (n := 4) (Nat.le_of_ble_eq_true rfl)
  rw [lg_entry_eq]
  generalize (lg_sl ([.ref r, .int x]) ++ List.replicate (4 - (lg_sl ([.ref r, .int x])).length) Slot.unset).toArray = ls at hl ⊢
  have hl : lv_has ls 4 [(0, .ref r), (1, .int x)] := hl
  obtain ⟨z, hz⟩ : ∃ z, z = f_J7_fill_53178 F x := ⟨_, rfl⟩
  rw [← hz]
  have J5 : ∀ (n5 k5 : Nat) (arr0_5 : (Nat → Int32)) (H : Heap) (locs : List Loc) (ls : Array Slot), k5 + n5 = 8 → z = f_J7_fill_53178_l5 x n5 k5 arr0_5 → va_P D vwCl ([(r, .inl (C 0, 8, .inl arr0_5))]) H → va_D A ([(r, .inl (C 0, 8, .inl arr0_5))]) → va_S A s.heap H locs → lv_has ls 4 [(0, .ref r), (1, .int x), (2, .int (nI k5)), (3, .int 8)] → W p l e ({ frames := 0, cells := 0, slots := 0, locals := 0 } : Room) s m ([.ref r, .int x] : List Value).toArray below meth c H locs 0 0 (MQ below (rwO none D ([(r, .inl (C 0, 8, .inl z))]) A) ([.ref r, .int x] : List Value).toArray s 0 0 A) (F0 m 5 ls []) := by
    intro n5
    induction n5 with
    | zero =>
      intro k5 arr0_5 H locs ls hk5 hz  hP hD hS hl
      have hz : z = f_J7_fill_53178_l5x x arr0_5 := hz
      refine lv_iload_n hx hb dJ7_fill_53178_5 rfl (lv_at hl 2 rfl) ?_
      refine lv_iload_n hx hb dJ7_fill_53178_6 rfl (lv_at hl 3 rfl) ?_
      refine lv_icmp_ge (tgt := 20) hx hb dJ7_fill_53178_7 (by decide) (fun c_7 => ?_) (fun c_7 => absurd (by have e : (8 : Int32) = nI 8 := (by decide +kernel); rw [e]; exact nI_le (by omega) (by omega)) c_7)
      have hz : z = arr0_5 := hz
      rw [hz]
      exact rw_retV hx hb hr hP hS dJ7_fill_53178_20 hlocks
    | succ n5 ih5 =>
      intro k5 arr0_5 H locs ls hk5 hz5  hP hD hS hl
      obtain ⟨z5, hz⟩ : ∃ zz_, zz_ = f_J7_fill_53178_l5b x k5 arr0_5 := ⟨_, rfl⟩
      have hq5 : z = sE id (fun q_ => lpF (f_J7_fill_53178_l5s x) (f_J7_fill_53178_l5e x) n5 (k5 + 1) q_) z5 := by rw [hz5, hz]; rfl
      refine lv_iload_n hx hb dJ7_fill_53178_5 rfl (lv_at hl 2 rfl) ?_
      refine lv_iload_n hx hb dJ7_fill_53178_6 rfl (lv_at hl 3 rfl) ?_
      refine lv_icmp_ge (tgt := 20) hx hb dJ7_fill_53178_7 (by decide) (fun c_7 => absurd c_7 (by have e : (8 : Int32) = nI 8 := (by decide +kernel); rw [e]; exact nI_ge (by omega) (by omega))) (fun c_7 => ?_)
      refine lv_aload_n hx hb dJ7_fill_53178_10 rfl (lv_at hl 0 rfl) ?_
      refine lv_iload_n hx hb dJ7_fill_53178_11 rfl (lv_at hl 2 rfl) ?_
      refine lv_iload_n hx hb dJ7_fill_53178_12 rfl (lv_at hl 1 rfl) ?_
      refine iastN (tys := tyA C) hx hb hK hP hD hS 0 0 rfl rfl (i := k5) (by omega) (by decide) dJ7_fill_53178_13 (fun H locs hP hD hS => ?_)
      have hP : va_P D vwCl ([(r, .inl (C 0, 8, .inl (upd arr0_5 k5 x)))]) H := hP
      have hD : va_D A ([(r, .inl (C 0, 8, .inl (upd arr0_5 k5 x)))]) := hD
      refine lv_iinc (v := (nI (k5 + 1))) (lv' := [(2, .int (nI (k5 + 1))), (0, .ref r), (1, .int x), (3, .int 8)]) hx hb dJ7_fill_53178_14 hl (k := 2) rfl (by exact nI_1 _) (by decide) rfl (fun ls hl => ?_)
      refine lv_goto (tgt := 5) hx hb dJ7_fill_53178_17 (by decide) ?_
      exact ih5 (k5 + 1) ((upd arr0_5 k5 x)) _ _ ls (by omega) (by rw [hq5, hz]; rfl)  hP hD hS (lv_sub hl [1, 2, 0, 3] rfl)
  refine lv_iconst (v := 0) hx hb dJ7_fill_53178_0 (by decide) ?_
  refine lv_istore_n (lv' := [(2, .int 0), (0, .ref r), (1, .int x)]) hx hb dJ7_fill_53178_1 rfl hl (by decide) rfl (fun ls hl => ?_)
  refine lv_aload_n hx hb dJ7_fill_53178_2 rfl (lv_at hl 1 rfl) ?_
  refine va_alen (v := 8) hx hb hK hP 0 0 rfl rfl rfl dJ7_fill_53178_3 ?_
  refine lv_istore_n (lv' := [(3, .int 8), (2, .int 0), (0, .ref r), (1, .int x)]) hx hb dJ7_fill_53178_4 rfl hl (by decide) rfl (fun ls hl => ?_)
  exact J5 (8) 0 (F) _ _ ls (by omega) hz  hP hD hS (lv_sub hl [2, 3, 1, 0] rfl)

