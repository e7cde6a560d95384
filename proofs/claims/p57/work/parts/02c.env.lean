/-! what the statics hold: the two enums, the switches' rows, the texts of the verbs, what a throw needs -/
def vnV : List String := ["FINE", "NO_SUCH_INDEX", "BAD_ARGUMENT", "WRONG_STATE", "NOT_ALLOWED", "NOT_FOUND"]
def vnB : List String := ["PLAYER", "SITE", "SUIT", "TIDE", "BID", "BLUFF", "FERRY", "DROP", "SETTLE"]
def smB : List Int32 := [1, 2, 3, 4, 5, 6, 7, 8, 0]
def smV : List Int32 := [0, 1, 2, 3, 4, 5]
def argN : List Nat := [9, 10, 11, 12, 13, 13, 14, 14, 9]
def txtL : List (List Int32) := [[112, 108, 97, 121, 101, 114, 32], [115, 105, 116, 101, 32], [115, 117, 105, 116, 32], [116, 105, 100, 101, 32], [98, 105, 100, 32], [98, 108, 117, 102, 102, 32], [102, 101, 114, 114, 121, 32], [100, 114, 111, 112, 32], [115, 101, 116, 116, 108, 101, 32], [110], [100, 100, 100], [100, 100], [100], [100, 110, 110], [100, 110],
  [45],
  [47],
  [61],
  [],
  [63],
  [42],
  [32],
  [58]]
def ES (v : Nat → Nat) (A : Nat → Prop) (U : State) (H : Heap) : Prop :=
  va_En "BridgeAuction$Verdict" "LBridgeAuction$Verdict;" vnV [("java/lang/Enum", "ordinal", "I", [0, 1, 2, 3, 4, 5])] v A U H ∧
  va_En "BridgeAuction$Verb" "LBridgeAuction$Verb;" vnB [("java/lang/Enum", "ordinal", "I", [0, 1, 2, 3, 4, 5, 6, 7, 8])] (fun i => v (10 + i)) A U H ∧
  (va_Z "BridgeAuction$1" "$SwitchMap$BridgeAuction$Verdict" "[I" (.ref (v 30)) A U H ∧ va_T .int (v 30) 6 (fun j => .int (smV.getD j 0)) A U H) ∧
  (va_Z "BridgeAuction$1" "$SwitchMap$BridgeAuction$Verb" "[I" (.ref (v 31)) A U H ∧ va_T .int (v 31) 9 (fun j => .int (smB.getD j 0)) A U H) ∧
  (va_Z "BridgeAuction$Verb" "ALL" "[LBridgeAuction$Verb;" (.ref (v 32)) A U H ∧ va_T (.object "BridgeAuction$Verb") (v 32) 9 (fun j => .ref (v (10 + j))) A U H) ∧
  va_Ef 9 "BridgeAuction$Verb" "keyword" "Ljava/lang/String;" (fun i => .ref (v (40 + i))) (fun i => v (10 + i)) A U H ∧
  va_Ef 9 "BridgeAuction$Verb" "arguments" "Ljava/lang/String;" (fun i => .ref (v (40 + argN.getD i 0))) (fun i => v (10 + i)) A U H ∧
  vk_S 23 (txtL.map List.length) txtL (fun i => v (40 + i)) (fun i => v (70 + i)) A U H ∧
  (vx_Zq Bundle.tN "UNASSIGNED_STACK" Bundle.steD A U H ∧ vx_Zq Bundle.tN "SUPPRESSED_SENTINEL" Bundle.listD A U H)
theorem ES.moved {v : Nat → Nat} {A : Nat → Prop} {u U : State} {H : Heap} (hvm : u.vm.Alike U.vm) (h : ES v A u H) : ES v A U H := by
  obtain ⟨h1, h2, ⟨h3, h4⟩, ⟨h5, h6⟩, ⟨h7, h8⟩, h9, h10, h11, h12, h13⟩ := h
  exact ⟨h1.moved hvm, h2.moved hvm, ⟨h3.moved hvm, h4.moved hvm⟩, ⟨h5.moved hvm, h6.moved hvm⟩, ⟨h7.moved hvm, h8.moved hvm⟩, h9.moved hvm, h10.moved hvm, h11.moved hvm, vx_Zq.moved hvm h12, vx_Zq.moved hvm h13⟩
theorem ES.kept {v : Nat → Nat} {A : Nat → Prop} {U : State} {H H1 : Heap} (h : ES v A U H) (hq : ∀ a : Nat, a < H.size → ¬ A a → H1[a]? = H[a]?) : ES v A U H1 := by
  obtain ⟨h1, h2, ⟨h3, h4⟩, ⟨h5, h6⟩, ⟨h7, h8⟩, h9, h10, h11, h12, h13⟩ := h
  exact ⟨h1.kept hq, h2.kept hq, ⟨h3.kept hq, h4.kept hq⟩, ⟨h5.kept hq, h6.kept hq⟩, ⟨h7.kept hq, h8.kept hq⟩, h9.kept hq, h10.kept hq, h11.kept hq, vx_Zq.kept h12 hq, vx_Zq.kept h13 hq⟩
theorem ES.narrow {v : Nat → Nat} {A B : Nat → Prop} {U : State} {H : Heap} (h : ES v A U H) (hAB : ∀ q, B q → A q) : ES v B U H := by
  obtain ⟨h1, h2, ⟨h3, h4⟩, ⟨h5, h6⟩, ⟨h7, h8⟩, h9, h10, h11, h12, h13⟩ := h
  exact ⟨h1.narrow hAB, h2.narrow hAB, ⟨h3.narrow hAB, h4.narrow hAB⟩, ⟨h5.narrow hAB, h6.narrow hAB⟩, ⟨h7.narrow hAB, h8.narrow hAB⟩, h9.narrow hAB, h10.narrow hAB, h11.narrow hAB, vx_Zq.narrow h12 hAB, vx_Zq.narrow h13 hAB⟩
