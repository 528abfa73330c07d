/-! what is thrown -/
def exN : List String := ["java/lang/RuntimeException", "java/lang/Exception"]
/-- words that are no good words: they go with the state -/
def dW : List Cond := [.declares (Bundle.initS "java/lang/RuntimeException"), .declares (Bundle.initS "java/lang/Exception"), .declares (Bundle.initS "java/lang/Throwable"), .castable "java/lang/IllegalArgumentException" "java/lang/IllegalArgumentException", .castable "java/lang/UnsupportedOperationException" "java/lang/UnsupportedOperationException", .castable "java/lang/IllegalStateException" "java/lang/IllegalStateException", .castable "java/lang/IndexOutOfBoundsException" "java/lang/IndexOutOfBoundsException"]
def x1 : List Cond := (vx_atS "CircuitProver" 67 "java/lang/IllegalArgumentException" exN).filter goodWord
def x2 : List Cond := (vx_atS "CircuitProver" 78 "java/lang/UnsupportedOperationException" exN).filter goodWord
def x3 : List Cond := (vx_atS "CircuitProver" 160 "java/lang/IllegalStateException" exN).filter goodWord
def x4 : List Cond := (vx_atS "CircuitProver" 168 "java/lang/IndexOutOfBoundsException" exN).filter goodWord
theorem x1_d : ∀ w ∈ (vx_atS "CircuitProver" 67 "java/lang/IllegalArgumentException" exN).filter (fun w => !goodWord w), w ∈ dW := by decide +kernel
theorem x2_d : ∀ w ∈ (vx_atS "CircuitProver" 78 "java/lang/UnsupportedOperationException" exN).filter (fun w => !goodWord w), w ∈ dW := by decide +kernel
theorem x3_d : ∀ w ∈ (vx_atS "CircuitProver" 160 "java/lang/IllegalStateException" exN).filter (fun w => !goodWord w), w ∈ dW := by decide +kernel
theorem x4_d : ∀ w ∈ (vx_atS "CircuitProver" 168 "java/lang/IndexOutOfBoundsException" exN).filter (fun w => !goodWord w), w ∈ dW := by decide +kernel
theorem nw_cast {C D : String} {s U : State} (hW : s.WarmedH U.vm) (hZ : va_Nw (.castable C D) s) : va_Nw (.castable C D) U := va_tabs rfl (rfl : (s.setVm U.vm).vm = U.vm) (by rw [Cond.castable_setVm hW.alike]; exact hZ)
def DX (U : State) : Prop := ∀ w ∈ dW, va_Nw w U
theorem DX.warm {s U : State} (hW : s.WarmedH U.vm) (h : DX s) : DX U := by
  intro w hw
  have h1 := h w hw
  simp only [dW, List.mem_cons, List.not_mem_nil, or_false] at hw
  rcases hw with rfl | rfl | rfl | rfl | rfl | rfl | rfl
  · exact va_Nw.warmD hW h1
  · exact va_Nw.warmD hW h1
  · exact va_Nw.warmD hW h1
  · exact nw_cast hW h1
  · exact nw_cast hW h1
  · exact nw_cast hW h1
  · exact nw_cast hW h1
def befX (G : GG) (w : va_W) (sz : Nat) (U : State) : Prop := bef G w sz U ∧ DX U
/-- where it ends that throws E -/
abbrev XT {S : Type} (G : GG) (E : String) (px : S → Prop) (w1 : S → va_W) (A : Nat → Prop) : String → State → State → Prop := vx_X px (fun E' u t => E' = E ∧ aft G A (w1 u) t) A
theorem k_thr {S : Type} {G : GG} {E : String} {px : S → Prop} {w1 : S → va_W} {A0 : Nat → Prop} {s : State} {H : Heap} {locs : List Loc} (u : S) (hpx : px u) (hP : va_P (gD G) vC (w1 u) H) (hD : va_D A0 (w1 u)) (hK : va_K (gD G) vC (tyG G) s) (hS : va_S A0 s.heap H locs) :
    ∀ t : State, s.vm.Alike t.vm → H.size ≤ t.heap.size → (∀ q : Nat, q < H.size → t.heap[q]? = H[q]?) → XT G E px w1 A0 E s t := fun t ha hz hq =>
  ⟨u, hpx, ⟨rfl, hP.kept (fun k x hx => hq x.1 ((hP k x hx).lt)), va_K.moved ha hK, hD⟩, ⟨Nat.le_trans hS.1 hz, fun q h1 h2 => (hq q (Nat.lt_of_lt_of_le h1 hS.1)).trans (hS.2.1 q h1 h2)⟩⟩
