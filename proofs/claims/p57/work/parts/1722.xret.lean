/-! ends of methods that throw, with a world that is only said to be there -/
section
variable {p : Program} {l : Launch} {e : Env} {R : Room} {s : State} {m : MethodId} {args : Array Value} {below : List Frame} {meth : Method} {c : Code} {H : Heap} {locs : List Loc} {cells slots mc ms : Nat} {cc : ByteArray} {pc : Nat} {ls : Array Slot} {A0 : Nat → Prop} {D : va_G} {α : Type} {F : α → Prop} {w : α → va_W} {v : α → Option Value} {cz : Nat}
def xE (cz : Nat) (v : α → Option Value) (D : va_G) (F : α → Prop) (w : α → va_W) (A : Nat → Prop) : Array Value → State → Outcome → State → Prop := fun a st o t => cz = 0 ∧ eO v D F w A a st o t
theorem x_retE {i : Int32} {XC : String → State → State → Prop} (x : α) (hv : v x = some (.int i)) (hx : p.tables.exec = Jvm.exec) (hb : c.code = cc) (hr : meth.sig.returnType = some .int) (hc : cz = 0) (hF : F x) (hP : va_P D vwCl (w x) H) (hD : va_D A0 (w x)) (hS : va_S A0 s.heap H locs) (h1 : cells ≤ mc) (h2 : slots ≤ ms) (hdg : decode cc pc = .ok (.ireturn, 1)) (hlocks : meth.locks = false) : W p l e R s m args below meth c H locs cells slots (vx_MQ below (xE cz v D F w A0) XC args s mc ms A0) (F0 m pc ls [.int i]) :=
  W.widen h1 h2 (vx_ret (W.iret (v := i) hx hb hr (fun t ht hW => ⟨hc, ⟨x, by rw [hv], hF, by rw [ht]; exact hP, hD⟩, hS.F ht⟩) hS.2.2 hdg hlocks))
end

