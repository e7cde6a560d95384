theorem mem_r {big : List Cond} (ws : List Cond) (ps : List Nat) (hp : ws = ps.filterMap (fun i => big[i]?)) : ∀ w ∈ ws, w ∈ big := by
  intro w h
  rw [hp] at h
  obtain ⟨i, -, hi⟩ := List.mem_filterMap.mp h
  exact List.mem_of_getElem? hi
/-- a private method of a class above: it is what is found -/
theorem sel_sub {A : Array Value} {s : State} {C : String} {y x0 z : MethodName} (hz : (Cond.selects C x0 z).before A s = true) (hzy : z.cls = y.cls) (hy : y.cls ≠ "java/lang/invoke/MethodHandle" ∧ y.cls ≠ "java/lang/invoke/VarHandle") (hp : (Cond.privateMethod y).before A s = true) (hi : (Cond.instanceMethod y).before A s = true) : (Cond.selects C y y).before A s = true := by
  obtain ⟨c, r, m, h1, h2, h3, h4, mk, h5, h6⟩ := Cond.selects_spec hz
  obtain ⟨my, methM, hn, hm, -, -⟩ := Cond.instanceMethod_spec hi
  have hf := State.methodFound?_of_named hn hy
  have hc : my.cls = m.cls := by
    have e1 := findClass_of_methodNamed hn
    have e2 := findClass_of_methodNamed h3
    rw [hzy] at e2
    exact Option.some.inj (e1.symm.trans e2)
  have hsel : selectMethod {} s.vm c my = .method my := selectMethod_private hm (Cond.privateMethod_at hp my methM hn hm)
  simp only [Cond.before, Cond.holds, Cond.value, h1, hf, hn, hsel, hc, h5]
  simp; exact h6
def lw_sub : List Cond := [.selects RJ4 yJ5_ensureCapacityInternal_d00df yJ5_ensureCapacityInternal_d00df, .selects RJ4 yJ5_newCapacity_0f7a4 yJ5_newCapacity_0f7a4, .selects RJ4 yJ5_inflate_da8c8 yJ5_inflate_da8c8, .selects RJ4 yJ5_appendNull_278bc yJ5_appendNull_278bc, .selects RJ4 ⟨RJ5, "putStringAt", "(ILjava/lang/String;)V"⟩ ⟨RJ5, "putStringAt", "(ILjava/lang/String;)V"⟩, .selects RJ4 ⟨RJ5, "inflateIfNeededFor", "(Ljava/lang/String;)V"⟩ ⟨RJ5, "inflateIfNeededFor", "(Ljava/lang/String;)V"⟩]
def lw_tb2 : List Cond := lw_sub ++ lw_tbl
theorem lw_tb2_ok {A : Array Value} {s : State} (hts : ∀ w ∈ lw_tbl, w.before A s = true) : ∀ w ∈ lw_tb2, w.before A s = true := by
  have hz := hts (.selects RJ4 yJ5_isLatin1_aae02 yJ5_isLatin1_aae02) (by decide +kernel)
  refine List.forall_mem_append.mpr ⟨?_, hts⟩
  exact List.forall_mem_cons.mpr ⟨sel_sub hz rfl ⟨by decide +kernel, by decide +kernel⟩ (hts (.privateMethod yJ5_ensureCapacityInternal_d00df) (by decide +kernel)) (hts (.instanceMethod yJ5_ensureCapacityInternal_d00df) (by decide +kernel)), List.forall_mem_cons.mpr ⟨sel_sub hz rfl ⟨by decide +kernel, by decide +kernel⟩ (hts (.privateMethod yJ5_newCapacity_0f7a4) (by decide +kernel)) (hts (.instanceMethod yJ5_newCapacity_0f7a4) (by decide +kernel)), List.forall_mem_cons.mpr ⟨sel_sub hz rfl ⟨by decide +kernel, by decide +kernel⟩ (hts (.privateMethod yJ5_inflate_da8c8) (by decide +kernel)) (hts (.instanceMethod yJ5_inflate_da8c8) (by decide +kernel)), List.forall_mem_cons.mpr ⟨sel_sub hz rfl ⟨by decide +kernel, by decide +kernel⟩ (hts (.privateMethod yJ5_appendNull_278bc) (by decide +kernel)) (hts (.instanceMethod yJ5_appendNull_278bc) (by decide +kernel)), List.forall_mem_cons.mpr ⟨sel_sub hz rfl ⟨by decide +kernel, by decide +kernel⟩ (hts (.privateMethod ⟨RJ5, "putStringAt", "(ILjava/lang/String;)V"⟩) (by decide +kernel)) (hts (.instanceMethod ⟨RJ5, "putStringAt", "(ILjava/lang/String;)V"⟩) (by decide +kernel)), List.forall_mem_cons.mpr ⟨sel_sub hz rfl ⟨by decide +kernel, by decide +kernel⟩ (hts (.privateMethod ⟨RJ5, "inflateIfNeededFor", "(Ljava/lang/String;)V"⟩) (by decide +kernel)) (hts (.instanceMethod ⟨RJ5, "inflateIfNeededFor", "(Ljava/lang/String;)V"⟩) (by decide +kernel)), fun _ h => absurd h List.not_mem_nil⟩⟩⟩⟩⟩⟩
theorem mem_rx {big : List Cond} (ws : List Cond) (k : Nat) (pa pb : List Nat) (w0 : Cond) (h0 : w0 ∈ big) (hk : ws[k]? = some w0) (ha : ws.take k = pa.filterMap (fun i => big[i]?)) (hb : ws.drop (k + 1) = pb.filterMap (fun i => big[i]?)) : ∀ w ∈ ws, w ∈ big := by
  intro w h
  obtain ⟨j, hj⟩ := List.mem_iff_getElem?.mp h
  rcases Nat.lt_trichotomy j k with q | q | q
  · exact mem_r (ws.take k) pa ha w (List.mem_of_getElem? (i := j) (by rw [List.getElem?_take_of_lt q]; exact hj))
  · rw [q, hk] at hj
    exact Option.some.inj hj ▸ h0
  · exact mem_r (ws.drop (k + 1)) pb hb w (List.mem_of_getElem? (i := j - (k + 1)) (by rw [List.getElem?_drop, show k + 1 + (j - (k + 1)) = j by omega]; exact hj))
theorem gd_cons {big a : List Cond} {c : Cond} (h0 : c ∈ big) (hg : goodWord c = true) (ha : GoodIn big a) : GoodIn big (c :: a) := fun w h => (List.mem_cons.mp h).elim (fun e => by rw [e]; exact ⟨h0, good_of_word hg⟩) (fun h => ha w h)
