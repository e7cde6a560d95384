theorem dL_plain_0 : decode cL_plain 0 = .ok (.iload_n 1, 1) := by decide +kernel
theorem dL_plain_1 : decode cL_plain 1 = .ok (.tableswitch 125 0 8 #[51, 57, 66, 73, 79, 88, 97, 104, 111], 51) := by decide +kernel
theorem dL_plain_52 : decode cL_plain 52 = .ok (.aload_n 0, 1) := by decide +kernel
theorem dL_plain_53 : decode cL_plain 53 = .ok (.iload_n 2, 1) := by decide +kernel
theorem dL_plain_54 : decode cL_plain 54 = .ok (.invokevirtual 15, 3) := by decide +kernel
theorem dL_plain_57 : decode cL_plain 57 = .ok (.ireturn, 1) := by decide +kernel
theorem dL_plain_58 : decode cL_plain 58 = .ok (.aload_n 0, 1) := by decide +kernel
theorem dL_plain_59 : decode cL_plain 59 = .ok (.iload_n 2, 1) := by decide +kernel
theorem dL_plain_60 : decode cL_plain 60 = .ok (.iload_n 3, 1) := by decide +kernel
theorem dL_plain_61 : decode cL_plain 61 = .ok (.iload 4, 2) := by decide +kernel
theorem dL_plain_63 : decode cL_plain 63 = .ok (.invokevirtual 21, 3) := by decide +kernel
theorem dL_plain_66 : decode cL_plain 66 = .ok (.ireturn, 1) := by decide +kernel
theorem dL_plain_67 : decode cL_plain 67 = .ok (.aload_n 0, 1) := by decide +kernel
theorem dL_plain_68 : decode cL_plain 68 = .ok (.iload_n 2, 1) := by decide +kernel
theorem dL_plain_69 : decode cL_plain 69 = .ok (.iload_n 3, 1) := by decide +kernel
theorem dL_plain_70 : decode cL_plain 70 = .ok (.invokevirtual 25, 3) := by decide +kernel
theorem dL_plain_73 : decode cL_plain 73 = .ok (.ireturn, 1) := by decide +kernel
theorem dL_plain_74 : decode cL_plain 74 = .ok (.aload_n 0, 1) := by decide +kernel
theorem dL_plain_75 : decode cL_plain 75 = .ok (.iload_n 2, 1) := by decide +kernel
theorem dL_plain_76 : decode cL_plain 76 = .ok (.invokevirtual 29, 3) := by decide +kernel
theorem dL_plain_79 : decode cL_plain 79 = .ok (.ireturn, 1) := by decide +kernel
theorem dL_plain_80 : decode cL_plain 80 = .ok (.aload_n 0, 1) := by decide +kernel
theorem dL_plain_81 : decode cL_plain 81 = .ok (.iload_n 2, 1) := by decide +kernel
theorem dL_plain_82 : decode cL_plain 82 = .ok (.iload_n 3, 1) := by decide +kernel
theorem dL_plain_83 : decode cL_plain 83 = .ok (.iload 4, 2) := by decide +kernel
theorem dL_plain_85 : decode cL_plain 85 = .ok (.invokevirtual 32, 3) := by decide +kernel
theorem dL_plain_88 : decode cL_plain 88 = .ok (.ireturn, 1) := by decide +kernel
theorem dL_plain_89 : decode cL_plain 89 = .ok (.aload_n 0, 1) := by decide +kernel
theorem dL_plain_90 : decode cL_plain 90 = .ok (.iload_n 2, 1) := by decide +kernel
theorem dL_plain_91 : decode cL_plain 91 = .ok (.iload_n 3, 1) := by decide +kernel
theorem dL_plain_92 : decode cL_plain 92 = .ok (.iload 4, 2) := by decide +kernel
theorem dL_plain_94 : decode cL_plain 94 = .ok (.invokevirtual 35, 3) := by decide +kernel
theorem dL_plain_97 : decode cL_plain 97 = .ok (.ireturn, 1) := by decide +kernel
theorem dL_plain_98 : decode cL_plain 98 = .ok (.aload_n 0, 1) := by decide +kernel
theorem dL_plain_99 : decode cL_plain 99 = .ok (.iload_n 2, 1) := by decide +kernel
theorem dL_plain_100 : decode cL_plain 100 = .ok (.iload_n 3, 1) := by decide +kernel
theorem dL_plain_101 : decode cL_plain 101 = .ok (.invokevirtual 38, 3) := by decide +kernel
theorem dL_plain_104 : decode cL_plain 104 = .ok (.ireturn, 1) := by decide +kernel
theorem dL_plain_105 : decode cL_plain 105 = .ok (.aload_n 0, 1) := by decide +kernel
theorem dL_plain_106 : decode cL_plain 106 = .ok (.iload_n 2, 1) := by decide +kernel
theorem dL_plain_107 : decode cL_plain 107 = .ok (.iload_n 3, 1) := by decide +kernel
theorem dL_plain_108 : decode cL_plain 108 = .ok (.invokevirtual 41, 3) := by decide +kernel
theorem dL_plain_111 : decode cL_plain 111 = .ok (.ireturn, 1) := by decide +kernel
theorem dL_plain_112 : decode cL_plain 112 = .ok (.aload_n 0, 1) := by decide +kernel
theorem dL_plain_113 : decode cL_plain 113 = .ok (.iload_n 2, 1) := by decide +kernel
theorem dL_plain_114 : decode cL_plain 114 = .ok (.invokevirtual 44, 3) := by decide +kernel
theorem dL_plain_117 : decode cL_plain 117 = .ok (.ifCond .eq 7, 3) := by decide +kernel
theorem dL_plain_120 : decode cL_plain 120 = .ok (.iconst 1, 1) := by decide +kernel
theorem dL_plain_121 : decode cL_plain 121 = .ok (.goto 4, 3) := by decide +kernel
theorem dL_plain_124 : decode cL_plain 124 = .ok (.iconst 0, 1) := by decide +kernel
theorem dL_plain_125 : decode cL_plain 125 = .ok (.ireturn, 1) := by decide +kernel
theorem dL_plain_126 : decode cL_plain 126 = .ok (.aload_n 0, 1) := by decide +kernel
theorem dL_plain_127 : decode cL_plain 127 = .ok (.invokevirtual 48, 3) := by decide +kernel
theorem dL_plain_130 : decode cL_plain 130 = .ok (.ireturn, 1) := by decide +kernel
section
variable {l : Launch} {D : va_G} {C : Nat → ClassId} {ev u : Nat → Nat} {K : CT} {T : TX}
theorem kd_addPlayer (hl9 : l.stackTraces = false) (hd : DI K) (a b w : Int32) : KVD l yX7_addPlayer wsX7_addPlayer ({ frames := 8, cells := 1, slots := 6, locals := 163 } : Room) [.ref (u 0), .int a] D C ev u K (plK K 0 a b w) T (plF K 0 a b w).1 (some (.int (plF K 0 a b w).2.1)) 1 6 := by
  have hG := GI_safe (DI_I hd)
  obtain ⟨⟨nw, hs, rm, hrr, hh1, hh2, -⟩, -, hFe⟩ := hd
  have h := fun (sz : Nat) => c_X7_addPlayer l D C ev u (kQ K) (kG K) (kS K) a sz hG hh1 hh2 hFe hl9
  have ep : plF K 0 a b w = f_X7_addPlayer (kQ K) (kG K) (kS K) a := rfl
  unfold plK
  rw [ep]
  revert h
  generalize f_X7_addPlayer (kQ K) (kG K) (kS K) a = z
  intro h
  exact KVD_vx (G' := z.2.2.1) (S' := z.2.2.2) (cs := fun x => [acells C u (kQ K), gcells C (uA u) (kG K), hcells C (uH u) (kS K)]) (cs' := fun x => [acells C u (kQ K), gcells C (uA u) z.2.2.1, hcells C (uH u) z.2.2.2]) (rs := fun x => [gcells C (uB u) (kG1 K), gcells C (uC u) (kG2 K), grcells C (uG u) x.1, scells C ev (uS u) (kSc K), ocells C (uO u) x.2]) (fun x sz hx => h sz) (fun x hx => ⟨rfl, rfl⟩) (fun x => bsP 8 [0, 1, 5, 2, 3, 4, 6, 7] rfl (by decide) rfl) (fun x => bsP 8 [0, 1, 3, 4, 5, 2, 6, 7] rfl (by decide) rfl)
theorem kd_addSite (hl9 : l.stackTraces = false) (hd : DI K) (a b w : Int32) : KVD l yX7_addSite wsX7_addSite ({ frames := 8, cells := 1, slots := 6, locals := 163 } : Room) [.ref (u 0), .int a, .int b, .int w] D C ev u K (plK K 1 a b w) T (plF K 1 a b w).1 (some (.int (plF K 1 a b w).2.1)) 1 6 := by
  have hG := GI_safe (DI_I hd)
  obtain ⟨⟨nw, hs, rm, hrr, hh1, hh2, -⟩, -, hFe⟩ := hd
  have h := fun (sz : Nat) => c_X7_addSite l D C ev u (kQ K) (kG K) (kS K) a b w sz hG hh1 hh2 hFe hl9
  have ep : plF K 1 a b w = f_X7_addSite (kQ K) (kG K) (kS K) a b w := rfl
  unfold plK
  rw [ep]
  revert h
  generalize f_X7_addSite (kQ K) (kG K) (kS K) a b w = z
  intro h
  exact KVD_vx (G' := z.2.2.1) (S' := z.2.2.2) (cs := fun x => [acells C u (kQ K), gcells C (uA u) (kG K), hcells C (uH u) (kS K)]) (cs' := fun x => [acells C u (kQ K), gcells C (uA u) z.2.2.1, hcells C (uH u) z.2.2.2]) (rs := fun x => [gcells C (uB u) (kG1 K), gcells C (uC u) (kG2 K), grcells C (uG u) x.1, scells C ev (uS u) (kSc K), ocells C (uO u) x.2]) (fun x sz hx => h sz) (fun x hx => ⟨rfl, rfl⟩) (fun x => bsP 8 [0, 1, 5, 2, 3, 4, 6, 7] rfl (by decide) rfl) (fun x => bsP 8 [0, 1, 3, 4, 5, 2, 6, 7] rfl (by decide) rfl)
theorem kd_setSuit (hl9 : l.stackTraces = false) (hd : DI K) (a b w : Int32) : KVD l yX7_setSuit wsX7_setSuit ({ frames := 8, cells := 1, slots := 6, locals := 163 } : Room) [.ref (u 0), .int a, .int b] D C ev u K (plK K 2 a b w) T (plF K 2 a b w).1 (some (.int (plF K 2 a b w).2.1)) 1 6 := by
  have hG := GI_safe (DI_I hd)
  obtain ⟨⟨nw, hs, rm, hrr, hh1, hh2, -⟩, -, hFe⟩ := hd
  have h := fun (sz : Nat) => c_X7_setSuit l D C ev u (kQ K) (kG K) (kS K) a b sz hG hh1 hh2 hFe hl9
  have ep : plF K 2 a b w = f_X7_setSuit (kQ K) (kG K) (kS K) a b := rfl
  unfold plK
  rw [ep]
  revert h
  generalize f_X7_setSuit (kQ K) (kG K) (kS K) a b = z
  intro h
  exact KVD_vx (G' := z.2.2.1) (S' := z.2.2.2) (cs := fun x => [acells C u (kQ K), gcells C (uA u) (kG K), hcells C (uH u) (kS K)]) (cs' := fun x => [acells C u (kQ K), gcells C (uA u) z.2.2.1, hcells C (uH u) z.2.2.2]) (rs := fun x => [gcells C (uB u) (kG1 K), gcells C (uC u) (kG2 K), grcells C (uG u) x.1, scells C ev (uS u) (kSc K), ocells C (uO u) x.2]) (fun x sz hx => h sz) (fun x hx => ⟨rfl, rfl⟩) (fun x => bsP 8 [0, 1, 5, 2, 3, 4, 6, 7] rfl (by decide) rfl) (fun x => bsP 8 [0, 1, 3, 4, 5, 2, 6, 7] rfl (by decide) rfl)
theorem kd_setTide (hl9 : l.stackTraces = false) (hd : DI K) (a b w : Int32) : KVD l yX7_setTide wsX7_setTide ({ frames := 8, cells := 1, slots := 6, locals := 163 } : Room) [.ref (u 0), .int a] D C ev u K (plK K 3 a b w) T (plF K 3 a b w).1 (some (.int (plF K 3 a b w).2.1)) 1 6 := by
  have hG := GI_safe (DI_I hd)
  obtain ⟨⟨nw, hs, rm, hrr, hh1, hh2, -⟩, -, hFe⟩ := hd
  have h := fun (sz : Nat) => c_X7_setTide l D C ev u (kQ K) (kG K) (kS K) a sz hG hh1 hh2 hFe hl9
  have ep : plF K 3 a b w = f_X7_setTide (kQ K) (kG K) (kS K) a := rfl
  unfold plK
  rw [ep]
  revert h
  generalize f_X7_setTide (kQ K) (kG K) (kS K) a = z
  intro h
  exact KVD_vx (G' := z.2.2.1) (S' := z.2.2.2) (cs := fun x => [acells C u (kQ K), gcells C (uA u) (kG K), hcells C (uH u) (kS K)]) (cs' := fun x => [acells C u (kQ K), gcells C (uA u) z.2.2.1, hcells C (uH u) z.2.2.2]) (rs := fun x => [gcells C (uB u) (kG1 K), gcells C (uC u) (kG2 K), grcells C (uG u) x.1, scells C ev (uS u) (kSc K), ocells C (uO u) x.2]) (fun x sz hx => h sz) (fun x hx => ⟨rfl, rfl⟩) (fun x => bsP 8 [0, 1, 5, 2, 3, 4, 6, 7] rfl (by decide) rfl) (fun x => bsP 8 [0, 1, 3, 4, 5, 2, 6, 7] rfl (by decide) rfl)
theorem kd_placeBid (hl9 : l.stackTraces = false) (hd : DI K) (a b w : Int32) : KVD l yX7_placeBid wsX7_placeBid ({ frames := 8, cells := 1, slots := 6, locals := 163 } : Room) [.ref (u 0), .int a, .int b, .int w] D C ev u K (plK K 4 a b w) T (plF K 4 a b w).1 (some (.int (plF K 4 a b w).2.1)) 1 6 := by
  have hG := GI_safe (DI_I hd)
  obtain ⟨⟨nw, hs, rm, hrr, hh1, hh2, -⟩, -, hFe⟩ := hd
  have h := fun (sz : Nat) => c_X7_placeBid l D C ev u (kQ K) (kG K) (kS K) a b w sz hG hh1 hh2 hFe hl9
  have ep : plF K 4 a b w = f_X7_placeBid (kQ K) (kG K) (kS K) a b w := rfl
  unfold plK
  rw [ep]
  revert h
  generalize f_X7_placeBid (kQ K) (kG K) (kS K) a b w = z
  intro h
  exact KVD_vx (G' := z.2.2.1) (S' := z.2.2.2) (cs := fun x => [acells C u (kQ K), gcells C (uA u) (kG K), hcells C (uH u) (kS K)]) (cs' := fun x => [acells C u (kQ K), gcells C (uA u) z.2.2.1, hcells C (uH u) z.2.2.2]) (rs := fun x => [gcells C (uB u) (kG1 K), gcells C (uC u) (kG2 K), grcells C (uG u) x.1, scells C ev (uS u) (kSc K), ocells C (uO u) x.2]) (fun x sz hx => h sz) (fun x hx => ⟨rfl, rfl⟩) (fun x => bsP 8 [0, 1, 5, 2, 3, 4, 6, 7] rfl (by decide) rfl) (fun x => bsP 8 [0, 1, 3, 4, 5, 2, 6, 7] rfl (by decide) rfl)
theorem kd_placeBluff (hl9 : l.stackTraces = false) (hd : DI K) (a b w : Int32) : KVD l yX7_placeBluff wsX7_placeBluff ({ frames := 8, cells := 1, slots := 6, locals := 163 } : Room) [.ref (u 0), .int a, .int b, .int w] D C ev u K (plK K 5 a b w) T (plF K 5 a b w).1 (some (.int (plF K 5 a b w).2.1)) 1 6 := by
  have hG := GI_safe (DI_I hd)
  obtain ⟨⟨nw, hs, rm, hrr, hh1, hh2, -⟩, -, hFe⟩ := hd
  have h := fun (sz : Nat) => c_X7_placeBluff l D C ev u (kQ K) (kG K) (kS K) a b w sz hG hh1 hh2 hFe hl9
  have ep : plF K 5 a b w = f_X7_placeBluff (kQ K) (kG K) (kS K) a b w := rfl
  unfold plK
  rw [ep]
  revert h
  generalize f_X7_placeBluff (kQ K) (kG K) (kS K) a b w = z
  intro h
  exact KVD_vx (G' := z.2.2.1) (S' := z.2.2.2) (cs := fun x => [acells C u (kQ K), gcells C (uA u) (kG K), hcells C (uH u) (kS K)]) (cs' := fun x => [acells C u (kQ K), gcells C (uA u) z.2.2.1, hcells C (uH u) z.2.2.2]) (rs := fun x => [gcells C (uB u) (kG1 K), gcells C (uC u) (kG2 K), grcells C (uG u) x.1, scells C ev (uS u) (kSc K), ocells C (uO u) x.2]) (fun x sz hx => h sz) (fun x hx => ⟨rfl, rfl⟩) (fun x => bsP 8 [0, 1, 5, 2, 3, 4, 6, 7] rfl (by decide) rfl) (fun x => bsP 8 [0, 1, 3, 4, 5, 2, 6, 7] rfl (by decide) rfl)
theorem kd_withdrawBid (hl9 : l.stackTraces = false) (hd : DI K) (a b w : Int32) : KVD l yX7_withdrawBid wsX7_withdrawBid ({ frames := 8, cells := 1, slots := 6, locals := 163 } : Room) [.ref (u 0), .int a, .int b] D C ev u K (plK K 6 a b w) T (plF K 6 a b w).1 (some (.int (plF K 6 a b w).2.1)) 1 6 := by
  have hG := GI_safe (DI_I hd)
  obtain ⟨⟨nw, hs, rm, hrr, hh1, hh2, -⟩, -, hFe⟩ := hd
  have h := fun (sz : Nat) => c_X7_withdrawBid l D C ev u (kQ K) (kG K) (kS K) a b sz hG hh1 hh2 hFe hl9
  have ep : plF K 6 a b w = f_X7_withdrawBid (kQ K) (kG K) (kS K) a b := rfl
  unfold plK
  rw [ep]
  revert h
  generalize f_X7_withdrawBid (kQ K) (kG K) (kS K) a b = z
  intro h
  exact KVD_vx (G' := z.2.2.1) (S' := z.2.2.2) (cs := fun x => [acells C u (kQ K), gcells C (uA u) (kG K), hcells C (uH u) (kS K)]) (cs' := fun x => [acells C u (kQ K), gcells C (uA u) z.2.2.1, hcells C (uH u) z.2.2.2]) (rs := fun x => [gcells C (uB u) (kG1 K), gcells C (uC u) (kG2 K), grcells C (uG u) x.1, scells C ev (uS u) (kSc K), ocells C (uO u) x.2]) (fun x sz hx => h sz) (fun x hx => ⟨rfl, rfl⟩) (fun x => bsP 8 [0, 1, 5, 2, 3, 4, 6, 7] rfl (by decide) rfl) (fun x => bsP 8 [0, 1, 3, 4, 5, 2, 6, 7] rfl (by decide) rfl)
theorem kd_playFerry (hl9 : l.stackTraces = false) (hd : DI K) (a b w : Int32) : KVD l yX7_playFerry wsX7_playFerry ({ frames := 8, cells := 1, slots := 6, locals := 163 } : Room) [.ref (u 0), .int a, .int b] D C ev u K (plK K 7 a b w) T (plF K 7 a b w).1 (some (.int (plF K 7 a b w).2.1)) 1 6 := by
  have hG := GI_safe (DI_I hd)
  obtain ⟨⟨nw, hs, rm, hrr, hh1, hh2, -⟩, -, hFe⟩ := hd
  have h := fun (sz : Nat) => c_X7_playFerry l D C ev u (kQ K) (kG K) (kS K) a b sz hG hh1 hh2 hFe hl9
  have ep : plF K 7 a b w = f_X7_playFerry (kQ K) (kG K) (kS K) a b := rfl
  unfold plK
  rw [ep]
  revert h
  generalize f_X7_playFerry (kQ K) (kG K) (kS K) a b = z
  intro h
  exact KVD_vx (G' := z.2.2.1) (S' := z.2.2.2) (cs := fun x => [acells C u (kQ K), gcells C (uA u) (kG K), hcells C (uH u) (kS K)]) (cs' := fun x => [acells C u (kQ K), gcells C (uA u) z.2.2.1, hcells C (uH u) z.2.2.2]) (rs := fun x => [gcells C (uB u) (kG1 K), gcells C (uC u) (kG2 K), grcells C (uG u) x.1, scells C ev (uS u) (kSc K), ocells C (uO u) x.2]) (fun x sz hx => h sz) (fun x hx => ⟨rfl, rfl⟩) (fun x => bsP 8 [0, 1, 5, 2, 3, 4, 6, 7] rfl (by decide) rfl) (fun x => bsP 8 [0, 1, 3, 4, 5, 2, 6, 7] rfl (by decide) rfl)
theorem kd_settle (hl9 : l.stackTraces = false) (hd : DI K) (a b w : Int32) : KVD l yX7_settle wsX7_settle ({ frames := 8, cells := 1, slots := 6, locals := 163 } : Room) [.ref (u 0), .int a] D C ev u K (plK K 8 a b w) T (plF K 8 a b w).1 (some (.int (plF K 8 a b w).2.1)) 1 6 := by
  have hG := GI_safe (DI_I hd)
  obtain ⟨⟨nw, hs, rm, hrr, hh1, hh2, -⟩, -, hFe⟩ := hd
  have h := fun (sz : Nat) => c_X7_settle l D C ev u (kQ K) (kG K) (kS K) a sz hG hh1 hh2 hFe hl9
  have ep : plF K 8 a b w = ((f_X7_settle (kQ K) (kG K) (kS K) a).1, bI (f_X7_settle (kQ K) (kG K) (kS K) a).2.1, (f_X7_settle (kQ K) (kG K) (kS K) a).2.2) := rfl
  unfold plK
  rw [ep]
  revert h
  generalize f_X7_settle (kQ K) (kG K) (kS K) a = z
  intro h
  dsimp only at h ⊢
  exact KVD_vx (G' := z.2.2.1) (S' := z.2.2.2) (cs := fun x => [acells C u (kQ K), gcells C (uA u) (kG K), hcells C (uH u) (kS K)]) (cs' := fun x => [acells C u (kQ K), gcells C (uA u) z.2.2.1, hcells C (uH u) z.2.2.2]) (rs := fun x => [gcells C (uB u) (kG1 K), gcells C (uC u) (kG2 K), grcells C (uG u) x.1, scells C ev (uS u) (kSc K), ocells C (uO u) x.2]) (fun x sz hx => h sz) (fun x hx => ⟨rfl, rfl⟩) (fun x => bsP 8 [0, 1, 5, 2, 3, 4, 6, 7] rfl (by decide) rfl) (fun x => bsP 8 [0, 1, 3, 4, 5, 2, 6, 7] rfl (by decide) rfl)

end
