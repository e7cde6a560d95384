/-! the reference's answers -/
def c16 (x : Int32) : Int32 := x.toUInt32.toUInt16.toUInt32.toInt32
theorem c16_ok (x : Int32) : (x.toUInt32 % 65536).toInt32 = c16 x := by
  unfold c16
  congr 1
theorem nar_c16 (x : Int32) : narrow .char (.int (c16 x)) = .int (c16 x) := by
  show Value.int (c16 x).toUInt32.toUInt16.toUInt32.toInt32 = .int (c16 x)
  unfold c16
  have h : x.toUInt32 % 65536 % 65536 = x.toUInt32 % 65536 := UInt32.toNat_inj.mp (by rw [UInt32.toNat_mod, UInt32.toNat_mod]; exact Nat.mod_mod _ _)
  simp [h]
theorem tsw_out {x : Int32} {n lo : Nat} {b : Int} (hb : b + 1 = ((lo + n : Nat) : Int)) (h : ∀ i, lo ≤ i → i < lo + n → x ≠ nI i) : x.toInt < (lo : Int) ∨ b < x.toInt := by
  by_cases a : x.toInt < (lo : Int)
  · exact Or.inl a
  · refine Or.inr ?_
    by_cases c : b < x.toInt
    · exact c
    · exfalso
      have hm := x.toInt_lt
      have h2 : x = nI x.toInt.toNat := by
        apply Int32.toInt_inj.mp
        rw [nI_toInt (by omega)]
        omega
      exact h x.toInt.toNat (by omega) (by omega) h2
section
variable {p : Program} {l : Launch} {e : Env} {R : Room} {s : State} {m : MethodId} {args : Array Value} {below : List Frame} {meth : Method} {c : Code} {H : Heap} {locs : List Loc} {cells slots : Nat} {cc : ByteArray} {pc : Nat} {ls : Array Slot} {D : va_G} {ws' : va_W} {A0 : Nat → Prop}
theorem rw_retC {v z : Int32} (hx : p.tables.exec = Jvm.exec) (hb : c.code = cc) (hr : meth.sig.returnType = some .char) (hP : va_P D vwCl ws' H) (hS : va_S A0 s.heap H locs) (hz : z = v) (hn : narrow .char (.int v) = .int v) (hdg : decode cc pc = .ok (.ireturn, 1)) (hlocks : meth.locks = false) : W p l e R s m args below meth c H locs cells slots (MQ below (rwO (some (.int z)) D ws' A0) args s cells slots A0) (F0 m pc ls [.int v]) :=
  W.zret (v := v) hx hb hr hn (fun t ht hW => ⟨by rw [hz], by rw [ht]; exact hP, hS.F ht⟩) hS.2.2 hdg hlocks
end
def f_X8_thrown (th : Int32) : Int32 := th
set_option maxHeartbeats 4000000 in
set_option maxRecDepth 100000 in
theorem c_X8_thrown (l : Launch) (D : va_G) (C : Nat → ClassId) (b : Nat → Nat) (M : MS) (hM : MSafe M) : Met l yX8_thrown wsX8_thrown ({ frames := 0, cells := 0, slots := 0, locals := 0 } : Room) (roP [.ref (b 0)] D C (mcells C b M)) (roO (some (.int (f_X8_thrown (mThr M))))) 0 0 (fun _ => False) := by
  refine Met.ofW (cc := cX8_thrown) (maxL := 1) (ret := (some .int)) (by decide) rfl ?_
  intro p e s m args below meth c s₁ B hml hv
  obtain ⟨rfl, hP, hK, hE⟩ := hv
  have hx := B.exec
  have hb := B.bytes
  have hr := B.returns
  have hts := atoms_spec (ws := wsX8_thrown) B.pre
  have hown : s.vm.findClass RX8 = some m.cls := findClass_of_methodNamed B.named
  have hlocks := B.notSynchronized
  obtain ⟨⟨hS2, hS12⟩, ⟨hP2, hP4⟩, hLH, hFE⟩ := id hM
  have hinX8 : ∀ w ∈ u_ws RX8 TX8 20, w ∈ wsX8_thrown := by decide +kernel
  have hl := lv_entry ([.ref (b 0)]) (n := 1) (Nat.le_of_ble_eq_true rfl)
  rw [lg_entry_eq]
  generalize (lg_sl ([.ref (b 0)]) ++ List.replicate (1 - (lg_sl ([.ref (b 0)])).length) Slot.unset).toArray = ls at hl ⊢
  have hl : lv_has ls 1 [(0, .ref (b 0))] := hl
  obtain ⟨z, hz⟩ : ∃ z, z = f_X8_thrown (mThr M) := ⟨_, rfl⟩
  rw [← hz]
  refine lv_aload_n hx hb dX8_thrown_0 rfl (lv_at hl 0 rfl) ?_
  refine va_get (D := D) (ci := 9) (v := .int (mThr M)) (C := RX8) (T := TX8) (N := 20) hx hb hts hinX8 hown hK hP 0 rfl rfl 12 (by decide) (hts (.fieldLink RX8 44 "BridgeAuctionModel" "thrown" "I") (by decide +kernel)) (fun _ h9 => h9) rfl dX8_thrown_1 ?_
  exact ro_ret hx hb hr hz dX8_thrown_4 hlocks

