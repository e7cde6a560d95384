def lwC : List (List Cond) := [wsL_law0_r1, wsL_law0_r2, wsL_law0_r3, wsL_law0_r4, wsL_law0_r5, wsL_law0_r6, wsL_law0_r7, wsL_law0_r8, wsL_law0_r9, wsL_law0_r10, wsL_law0_r11, wsL_law0_r12, wsL_law0_r13, wsL_law0_r14, wsL_law0_r15, wsL_law0_r16, wsL_law0_r17, wsL_law0_r18, wsL_law0_r19, wsL_law0_r20, wsL_law0_r21, wsL_law0_r22, wsL_law0_r23, wsL_law0_r24, wsL_law0_r25, wsL_law0_r26, wsL_law0_r27, wsL_law0_r28, wsL_law0_r29, wsL_law0_r30, wsL_law0_r31, wsL_law0_r32, wsL_law0_r33, wsL_law0_r34, wsL_law0_r35, wsL_law0_r36, wsL_law0_r37, wsL_law0_r38, wsL_law0_r39, wsL_law0_r40, wsL_law0_r41, wsL_law0_r42, wsL_law0_r43, wsL_law0_r44, wsX70, wsX10, wsX20, wsX30, wsX40, wsJ40, wsJ00, wsJx7c7330, wsJx000600]
theorem lwC_in : ∀ l ∈ lwC, ∀ w ∈ l, w ∈ wsL_law := by
  intro l hl w hw
  have h : w ∈ lwC.flatten := List.mem_flatten.mpr ⟨l, hl, hw⟩
  have e : lwC.flatten = wsL_law0 := by simp only [lwC, wsL_law0, List.flatten_cons, List.flatten_nil, List.append_nil, List.append_assoc]
  rw [e] at h
  exact List.mem_append_left _ (List.mem_append_left _ (List.mem_append_left _ (List.mem_append_left _ (List.mem_append_left _ (List.mem_append_left _ (List.mem_append_left _ (List.mem_append_left _ (h))))))))
theorem goodIn_c (ws : List Cond) (ps : List (Nat × Nat)) (hp : ws = ps.filterMap (fun q => (lwC[q.1]?).bind (fun l => l[q.2]?))) (h : ws.all goodWord = true) : GoodIn wsL_law ws := by
  intro w hw
  have h1 := List.all_eq_true.mp h w hw
  rw [hp] at hw
  obtain ⟨q, -, hq⟩ := List.mem_filterMap.mp hw
  obtain ⟨l, hl, hb⟩ := Option.bind_eq_some_iff.mp hq
  exact ⟨lwC_in l (List.mem_of_getElem? hl) w (List.mem_of_getElem? hb), good_of_word h1⟩
