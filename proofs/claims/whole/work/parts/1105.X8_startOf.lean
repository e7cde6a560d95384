theorem X8_blank_pl (tx : Nat → Int32) (si pl : Nat) (wr : Int32) (hp : pl ≤ si) : (f_X8_blank tx si pl wr).1 ≤ si ∧ pl ≤ (f_X8_blank tx si pl wr).1 :=
  X8_reads_pl tx si pl wr 32 32 (by decide +kernel) hp
theorem X8_blank_q {y : Nat × Int32} {tx : Nat → Int32} {si pl : Nat} {wr : Int32} (hy : y = f_X8_blank tx si pl wr) (hp : pl ≤ si) : y.1 ≤ si ∧ pl ≤ y.1 := by
  subst hy
  exact X8_blank_pl _ _ _ _ hp
def f_X8_startOf (x : Int32) : Int32 := (if x = 0 then 0 else (if x = 1 then 7 else (if x = 2 then 12 else (if x = 3 then 17 else (if x = 4 then 22 else (if x = 5 then 26 else (if x = 6 then 32 else (if x = 7 then 38 else (if x = 8 then 43 else 50)))))))))
set_option maxHeartbeats 4000000 in
set_option maxRecDepth 100000 in
theorem c_X8_startOf (l : Launch) (D : va_G) (C : Nat → ClassId) (x : Int32) : Met l yX8_startOf wsX8_startOf ({ frames := 0, cells := 0, slots := 0, locals := 0 } : Room) (roP [.int x] D C ([] : va_W)) (roO (some (.int (f_X8_startOf x)))) 0 0 (fun _ => False) := by
  refine Met.ofW (cc := cX8_startOf) (maxL := 1) (ret := (some .int)) (by decide) rfl ?_
  intro p e s m args below meth c s₁ B hml hv
  obtain ⟨rfl, hP, hK, hE⟩ := hv
  have hx := B.exec
  have hb := B.bytes
  have hr := B.returns
  have hts := atoms_spec (ws := wsX8_startOf) B.pre
  have hown : s.vm.findClass RX8 = some m.cls := findClass_of_methodNamed B.named
  have hlocks := B.notSynchronized
  have hl := lv_entry ([.int x]) (n := 1) (Nat.le_of_ble_eq_true rfl)
  rw [lg_entry_eq]
  generalize (lg_sl ([.int x]) ++ List.replicate (1 - (lg_sl ([.int x])).length) Slot.unset).toArray = ls at hl ⊢
  have hl : lv_has ls 1 [(0, .int x)] := hl
  obtain ⟨z, hz⟩ : ∃ z, z = f_X8_startOf x := ⟨_, rfl⟩
  rw [← hz]
  refine lv_iload_n hx hb dX8_startOf_0 rfl (lv_at hl 0 rfl) ?_
  by_cases c_1_0 : x = 0
  · have hz := hz.trans (if_pos c_1_0)
    refine lv_tableIn (tgt := 52) hx hb dX8_startOf_1 (by rw [c_1_0]; decide) (by rw [c_1_0]; decide) (by rw [c_1_0]; rfl) (by decide) ?_
    refine lv_iconst (v := 0) hx hb dX8_startOf_52 (by decide) ?_
    exact ro_ret hx hb hr hz dX8_startOf_53 hlocks
  have hz := hz.trans (if_neg c_1_0)
  by_cases c_1_1 : x = 1
  · have hz := hz.trans (if_pos c_1_1)
    refine lv_tableIn (tgt := 54) hx hb dX8_startOf_1 (by rw [c_1_1]; decide) (by rw [c_1_1]; decide) (by rw [c_1_1]; rfl) (by decide) ?_
    refine lv_bipush (v := 7) hx hb dX8_startOf_54 (by decide +kernel) ?_
    exact ro_ret hx hb hr hz dX8_startOf_56 hlocks
  have hz := hz.trans (if_neg c_1_1)
  by_cases c_1_2 : x = 2
  · have hz := hz.trans (if_pos c_1_2)
    refine lv_tableIn (tgt := 57) hx hb dX8_startOf_1 (by rw [c_1_2]; decide) (by rw [c_1_2]; decide) (by rw [c_1_2]; rfl) (by decide) ?_
    refine lv_bipush (v := 12) hx hb dX8_startOf_57 (by decide +kernel) ?_
    exact ro_ret hx hb hr hz dX8_startOf_59 hlocks
  have hz := hz.trans (if_neg c_1_2)
  by_cases c_1_3 : x = 3
  · have hz := hz.trans (if_pos c_1_3)
    refine lv_tableIn (tgt := 60) hx hb dX8_startOf_1 (by rw [c_1_3]; decide) (by rw [c_1_3]; decide) (by rw [c_1_3]; rfl) (by decide) ?_
    refine lv_bipush (v := 17) hx hb dX8_startOf_60 (by decide +kernel) ?_
    exact ro_ret hx hb hr hz dX8_startOf_62 hlocks
  have hz := hz.trans (if_neg c_1_3)
  by_cases c_1_4 : x = 4
  · have hz := hz.trans (if_pos c_1_4)
    refine lv_tableIn (tgt := 63) hx hb dX8_startOf_1 (by rw [c_1_4]; decide) (by rw [c_1_4]; decide) (by rw [c_1_4]; rfl) (by decide) ?_
    refine lv_bipush (v := 22) hx hb dX8_startOf_63 (by decide +kernel) ?_
    exact ro_ret hx hb hr hz dX8_startOf_65 hlocks
  have hz := hz.trans (if_neg c_1_4)
  by_cases c_1_5 : x = 5
  · have hz := hz.trans (if_pos c_1_5)
    refine lv_tableIn (tgt := 66) hx hb dX8_startOf_1 (by rw [c_1_5]; decide) (by rw [c_1_5]; decide) (by rw [c_1_5]; rfl) (by decide) ?_
    refine lv_bipush (v := 26) hx hb dX8_startOf_66 (by decide +kernel) ?_
    exact ro_ret hx hb hr hz dX8_startOf_68 hlocks
  have hz := hz.trans (if_neg c_1_5)
  by_cases c_1_6 : x = 6
  · have hz := hz.trans (if_pos c_1_6)
    refine lv_tableIn (tgt := 69) hx hb dX8_startOf_1 (by rw [c_1_6]; decide) (by rw [c_1_6]; decide) (by rw [c_1_6]; rfl) (by decide) ?_
    refine lv_bipush (v := 32) hx hb dX8_startOf_69 (by decide +kernel) ?_
    exact ro_ret hx hb hr hz dX8_startOf_71 hlocks
  have hz := hz.trans (if_neg c_1_6)
  by_cases c_1_7 : x = 7
  · have hz := hz.trans (if_pos c_1_7)
    refine lv_tableIn (tgt := 72) hx hb dX8_startOf_1 (by rw [c_1_7]; decide) (by rw [c_1_7]; decide) (by rw [c_1_7]; rfl) (by decide) ?_
    refine lv_bipush (v := 38) hx hb dX8_startOf_72 (by decide +kernel) ?_
    exact ro_ret hx hb hr hz dX8_startOf_74 hlocks
  have hz := hz.trans (if_neg c_1_7)
  by_cases c_1_8 : x = 8
  · have hz := hz.trans (if_pos c_1_8)
    refine lv_tableIn (tgt := 75) hx hb dX8_startOf_1 (by rw [c_1_8]; decide) (by rw [c_1_8]; decide) (by rw [c_1_8]; rfl) (by decide) ?_
    refine lv_bipush (v := 43) hx hb dX8_startOf_75 (by decide +kernel) ?_
    exact ro_ret hx hb hr hz dX8_startOf_77 hlocks
  have hz := hz.trans (if_neg c_1_8)
  refine lv_tableOut (tgt := 78) hx hb dX8_startOf_1 (tsw_out (lo := 0) (n := 9) (by decide) (by intro i hi hi2; rcases (by omega : i = 0 ∨ i = 1 ∨ i = 2 ∨ i = 3 ∨ i = 4 ∨ i = 5 ∨ i = 6 ∨ i = 7 ∨ i = 8) with rfl | rfl | rfl | rfl | rfl | rfl | rfl | rfl | rfl <;> first | exact fun h => c_1_0 (h.trans (by decide +kernel)) | exact fun h => c_1_1 (h.trans (by decide +kernel)) | exact fun h => c_1_2 (h.trans (by decide +kernel)) | exact fun h => c_1_3 (h.trans (by decide +kernel)) | exact fun h => c_1_4 (h.trans (by decide +kernel)) | exact fun h => c_1_5 (h.trans (by decide +kernel)) | exact fun h => c_1_6 (h.trans (by decide +kernel)) | exact fun h => c_1_7 (h.trans (by decide +kernel)) | exact fun h => c_1_8 (h.trans (by decide +kernel)))) (by decide) ?_
  refine lv_bipush (v := 50) hx hb dX8_startOf_78 (by decide +kernel) ?_
  exact ro_ret hx hb hr hz dX8_startOf_80 hlocks

