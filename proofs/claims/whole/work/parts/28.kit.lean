/-! the words that hold of the tables but are not among those that keep by themselves -/
def nW : List Cond := [.fieldLinkNest "CircuitProver$Netlist" 88 "CircuitProver$Text" "numbers" "[I" "CircuitProver", .fieldLinkNest "CircuitProver" 55 "CircuitProver$Text" "used" "I" "CircuitProver", .fieldLinkNest "CircuitProver$Machine" 25 "CircuitProver$Netlist" "header" "[I" "CircuitProver", .fieldLinkNest "CircuitProver$Machine" 60 "CircuitProver$Netlist" "latchNext" "[I" "CircuitProver", .fieldLinkNest "CircuitProver$Machine" 48 "CircuitProver$Netlist" "start" "I" "CircuitProver", .fieldLinkNest "CircuitProver$Machine" 67 "CircuitProver$Netlist" "outputLiteral" "I" "CircuitProver", .fieldLinkNest "CircuitProver" 93 "CircuitProver$Machine" "header" "[I" "CircuitProver", .fieldLinkNest "CircuitProver" 87 "CircuitProver$Machine" "latches" "I" "CircuitProver", .fieldLinkNest "CircuitProver$Answer" 107 "CircuitProver$Machine" "latches" "I" "CircuitProver", .fieldLinkNest "CircuitProver$Answer" 91 "CircuitProver$Machine" "inputs" "I" "CircuitProver", .fieldLinkNest "CircuitProver$Answer" 35 "CircuitProver$Machine" "start" "I" "CircuitProver", .fieldLinkNest "CircuitProver" 97 "CircuitProver$Machine" "start" "I" "CircuitProver", .fieldLinkNest "CircuitProver$Answer" 62 "CircuitProver$Machine" "bad" "J" "CircuitProver", .fieldLinkNest "CircuitProver" 172 "CircuitProver$Machine" "bad" "J" "CircuitProver", .fieldLinkNest "CircuitProver" 169 "CircuitProver$Answer" "reached" "J" "CircuitProver", .fieldLinkNest "CircuitProver" 115 "CircuitProver$Answer" "steps" "I" "CircuitProver", .fieldLinkNest "CircuitProver" 118 "CircuitProver$Answer" "way" "[I" "CircuitProver", .fieldLinkNest "CircuitProver" 121 "CircuitProver$Answer" "lastNear" "I" "CircuitProver", .fieldLinkNest "CircuitProver" 124 "CircuitProver$Answer" "roundsTaken" "I" "CircuitProver", .fieldLinkNest "CircuitProver" 131 "CircuitProver$Answer" "invariant" "J" "CircuitProver", .castable "java/lang/IllegalArgumentException" "java/lang/IllegalArgumentException", .declares ⟨"java/lang/RuntimeException", "<init>", "()V"⟩, .declares ⟨"java/lang/RuntimeException", "<init>", "(Ljava/lang/String;)V"⟩, .declares ⟨"java/lang/Exception", "<init>", "()V"⟩, .declares ⟨"java/lang/Exception", "<init>", "(Ljava/lang/String;)V"⟩, .declares ⟨"java/lang/Throwable", "<init>", "()V"⟩, .declares ⟨"java/lang/Throwable", "<init>", "(Ljava/lang/String;)V"⟩, .castable "java/lang/UnsupportedOperationException" "java/lang/UnsupportedOperationException", .methodLinkNest "CircuitProver$Machine" 82 yC_contains "CircuitProver", .methodLinkNest "CircuitProver$Answer" 76 yC_contains "CircuitProver", .fieldLinkNest "CircuitProver$Answer" 119 "CircuitProver$Netlist" "LATCH_IS_ONE" "[J" "CircuitProver", .castable "java/lang/IllegalStateException" "java/lang/IllegalStateException", .castable "java/lang/IndexOutOfBoundsException" "java/lang/IndexOutOfBoundsException", .fieldLinkNest "CircuitProver$Diagram" 21 "CircuitProver$Netlist" "LATCH_IS_ONE" "[J" "CircuitProver"]
theorem nW_tbl : ∀ w ∈ nW, w ∈ lw_tbl := by
  intro w hw
  simp only [nW, List.mem_cons, List.not_mem_nil, or_false] at hw
  rcases hw with rfl | rfl | rfl | rfl | rfl | rfl | rfl | rfl | rfl | rfl | rfl | rfl | rfl | rfl | rfl | rfl | rfl | rfl | rfl | rfl | rfl | rfl | rfl | rfl | rfl | rfl | rfl | rfl | rfl | rfl | rfl | rfl | rfl | rfl
  · exact List.mem_of_getElem? (i := 86) (by decide +kernel)
  · exact List.mem_of_getElem? (i := 88) (by decide +kernel)
  · exact List.mem_of_getElem? (i := 108) (by decide +kernel)
  · exact List.mem_of_getElem? (i := 117) (by decide +kernel)
  · exact List.mem_of_getElem? (i := 118) (by decide +kernel)
  · exact List.mem_of_getElem? (i := 120) (by decide +kernel)
  · exact List.mem_of_getElem? (i := 157) (by decide +kernel)
  · exact List.mem_of_getElem? (i := 159) (by decide +kernel)
  · exact List.mem_of_getElem? (i := 160) (by decide +kernel)
  · exact List.mem_of_getElem? (i := 163) (by decide +kernel)
  · exact List.mem_of_getElem? (i := 164) (by decide +kernel)
  · exact List.mem_of_getElem? (i := 166) (by decide +kernel)
  · exact List.mem_of_getElem? (i := 171) (by decide +kernel)
  · exact List.mem_of_getElem? (i := 172) (by decide +kernel)
  · exact List.mem_of_getElem? (i := 201) (by decide +kernel)
  · exact List.mem_of_getElem? (i := 203) (by decide +kernel)
  · exact List.mem_of_getElem? (i := 205) (by decide +kernel)
  · exact List.mem_of_getElem? (i := 207) (by decide +kernel)
  · exact List.mem_of_getElem? (i := 209) (by decide +kernel)
  · exact List.mem_of_getElem? (i := 211) (by decide +kernel)
  · exact List.mem_of_getElem? (i := 368) (by decide +kernel)
  · exact List.mem_of_getElem? (i := 369) (by decide +kernel)
  · exact List.mem_of_getElem? (i := 370) (by decide +kernel)
  · exact List.mem_of_getElem? (i := 371) (by decide +kernel)
  · exact List.mem_of_getElem? (i := 372) (by decide +kernel)
  · exact List.mem_of_getElem? (i := 373) (by decide +kernel)
  · exact List.mem_of_getElem? (i := 374) (by decide +kernel)
  · exact List.mem_of_getElem? (i := 440) (by decide +kernel)
  · exact List.mem_of_getElem? (i := 486) (by decide +kernel)
  · exact List.mem_of_getElem? (i := 513) (by decide +kernel)
  · exact List.mem_of_getElem? (i := 534) (by decide +kernel)
  · exact List.mem_of_getElem? (i := 565) (by decide +kernel)
  · exact List.mem_of_getElem? (i := 601) (by decide +kernel)
  · exact List.mem_of_getElem? (i := 712) (by decide +kernel)
theorem nW_warm {s U : State} (hW : s.WarmedH U.vm) : ∀ w ∈ nW, va_Nw w s → va_Nw w U := by
  intro w hw
  simp only [nW, List.mem_cons, List.not_mem_nil, or_false] at hw
  rcases hw with rfl | rfl | rfl | rfl | rfl | rfl | rfl | rfl | rfl | rfl | rfl | rfl | rfl | rfl | rfl | rfl | rfl | rfl | rfl | rfl | rfl | rfl | rfl | rfl | rfl | rfl | rfl | rfl | rfl | rfl | rfl | rfl | rfl | rfl
  · exact va_Nw.warmF hW
  · exact va_Nw.warmF hW
  · exact va_Nw.warmF hW
  · exact va_Nw.warmF hW
  · exact va_Nw.warmF hW
  · exact va_Nw.warmF hW
  · exact va_Nw.warmF hW
  · exact va_Nw.warmF hW
  · exact va_Nw.warmF hW
  · exact va_Nw.warmF hW
  · exact va_Nw.warmF hW
  · exact va_Nw.warmF hW
  · exact va_Nw.warmF hW
  · exact va_Nw.warmF hW
  · exact va_Nw.warmF hW
  · exact va_Nw.warmF hW
  · exact va_Nw.warmF hW
  · exact va_Nw.warmF hW
  · exact va_Nw.warmF hW
  · exact va_Nw.warmF hW
  · exact va_Nw.warmC hW
  · exact va_Nw.warmD hW
  · exact va_Nw.warmD hW
  · exact va_Nw.warmD hW
  · exact va_Nw.warmD hW
  · exact va_Nw.warmD hW
  · exact va_Nw.warmD hW
  · exact va_Nw.warmC hW
  · exact va_Nw.warmM hW
  · exact va_Nw.warmM hW
  · exact va_Nw.warmF hW
  · exact va_Nw.warmC hW
  · exact va_Nw.warmC hW
  · exact va_Nw.warmF hW
theorem nW_same {u U : State} (h : u.vm = U.vm) : ∀ w ∈ nW, va_Nw w u → va_Nw w U := by
  intro w hw
  simp only [nW, List.mem_cons, List.not_mem_nil, or_false] at hw
  rcases hw with rfl | rfl | rfl | rfl | rfl | rfl | rfl | rfl | rfl | rfl | rfl | rfl | rfl | rfl | rfl | rfl | rfl | rfl | rfl | rfl | rfl | rfl | rfl | rfl | rfl | rfl | rfl | rfl | rfl | rfl | rfl | rfl | rfl | rfl
  · exact va_Nw.same rfl h
  · exact va_Nw.same rfl h
  · exact va_Nw.same rfl h
  · exact va_Nw.same rfl h
  · exact va_Nw.same rfl h
  · exact va_Nw.same rfl h
  · exact va_Nw.same rfl h
  · exact va_Nw.same rfl h
  · exact va_Nw.same rfl h
  · exact va_Nw.same rfl h
  · exact va_Nw.same rfl h
  · exact va_Nw.same rfl h
  · exact va_Nw.same rfl h
  · exact va_Nw.same rfl h
  · exact va_Nw.same rfl h
  · exact va_Nw.same rfl h
  · exact va_Nw.same rfl h
  · exact va_Nw.same rfl h
  · exact va_Nw.same rfl h
  · exact va_Nw.same rfl h
  · exact va_Nw.same rfl h
  · exact va_Nw.same rfl h
  · exact va_Nw.same rfl h
  · exact va_Nw.same rfl h
  · exact va_Nw.same rfl h
  · exact va_Nw.same rfl h
  · exact va_Nw.same rfl h
  · exact va_Nw.same rfl h
  · exact va_Nw.same rfl h
  · exact va_Nw.same rfl h
  · exact va_Nw.same rfl h
  · exact va_Nw.same rfl h
  · exact va_Nw.same rfl h
  · exact va_Nw.same rfl h
theorem n34 : .fieldLinkNest "CircuitProver$Netlist" 88 "CircuitProver$Text" "numbers" "[I" "CircuitProver" ∈ nW := List.mem_of_getElem? (i := 0) rfl
theorem n36 : .fieldLinkNest "CircuitProver" 55 "CircuitProver$Text" "used" "I" "CircuitProver" ∈ nW := List.mem_of_getElem? (i := 1) rfl
theorem n56 : .fieldLinkNest "CircuitProver$Machine" 25 "CircuitProver$Netlist" "header" "[I" "CircuitProver" ∈ nW := List.mem_of_getElem? (i := 2) rfl
theorem n65 : .fieldLinkNest "CircuitProver$Machine" 60 "CircuitProver$Netlist" "latchNext" "[I" "CircuitProver" ∈ nW := List.mem_of_getElem? (i := 3) rfl
theorem n66 : .fieldLinkNest "CircuitProver$Machine" 48 "CircuitProver$Netlist" "start" "I" "CircuitProver" ∈ nW := List.mem_of_getElem? (i := 4) rfl
theorem n68 : .fieldLinkNest "CircuitProver$Machine" 67 "CircuitProver$Netlist" "outputLiteral" "I" "CircuitProver" ∈ nW := List.mem_of_getElem? (i := 5) rfl
theorem n105 : .fieldLinkNest "CircuitProver" 93 "CircuitProver$Machine" "header" "[I" "CircuitProver" ∈ nW := List.mem_of_getElem? (i := 6) rfl
theorem n107 : .fieldLinkNest "CircuitProver" 87 "CircuitProver$Machine" "latches" "I" "CircuitProver" ∈ nW := List.mem_of_getElem? (i := 7) rfl
theorem n108 : .fieldLinkNest "CircuitProver$Answer" 107 "CircuitProver$Machine" "latches" "I" "CircuitProver" ∈ nW := List.mem_of_getElem? (i := 8) rfl
theorem n111 : .fieldLinkNest "CircuitProver$Answer" 91 "CircuitProver$Machine" "inputs" "I" "CircuitProver" ∈ nW := List.mem_of_getElem? (i := 9) rfl
theorem n112 : .fieldLinkNest "CircuitProver$Answer" 35 "CircuitProver$Machine" "start" "I" "CircuitProver" ∈ nW := List.mem_of_getElem? (i := 10) rfl
theorem n114 : .fieldLinkNest "CircuitProver" 97 "CircuitProver$Machine" "start" "I" "CircuitProver" ∈ nW := List.mem_of_getElem? (i := 11) rfl
theorem n119 : .fieldLinkNest "CircuitProver$Answer" 62 "CircuitProver$Machine" "bad" "J" "CircuitProver" ∈ nW := List.mem_of_getElem? (i := 12) rfl
theorem n120 : .fieldLinkNest "CircuitProver" 172 "CircuitProver$Machine" "bad" "J" "CircuitProver" ∈ nW := List.mem_of_getElem? (i := 13) rfl
theorem n149 : .fieldLinkNest "CircuitProver" 169 "CircuitProver$Answer" "reached" "J" "CircuitProver" ∈ nW := List.mem_of_getElem? (i := 14) rfl
theorem n151 : .fieldLinkNest "CircuitProver" 115 "CircuitProver$Answer" "steps" "I" "CircuitProver" ∈ nW := List.mem_of_getElem? (i := 15) rfl
theorem n153 : .fieldLinkNest "CircuitProver" 118 "CircuitProver$Answer" "way" "[I" "CircuitProver" ∈ nW := List.mem_of_getElem? (i := 16) rfl
theorem n155 : .fieldLinkNest "CircuitProver" 121 "CircuitProver$Answer" "lastNear" "I" "CircuitProver" ∈ nW := List.mem_of_getElem? (i := 17) rfl
theorem n157 : .fieldLinkNest "CircuitProver" 124 "CircuitProver$Answer" "roundsTaken" "I" "CircuitProver" ∈ nW := List.mem_of_getElem? (i := 18) rfl
theorem n159 : .fieldLinkNest "CircuitProver" 131 "CircuitProver$Answer" "invariant" "J" "CircuitProver" ∈ nW := List.mem_of_getElem? (i := 19) rfl
theorem n316 : .castable "java/lang/IllegalArgumentException" "java/lang/IllegalArgumentException" ∈ nW := List.mem_of_getElem? (i := 20) rfl
theorem n317 : .declares ⟨"java/lang/RuntimeException", "<init>", "()V"⟩ ∈ nW := List.mem_of_getElem? (i := 21) rfl
theorem n318 : .declares ⟨"java/lang/RuntimeException", "<init>", "(Ljava/lang/String;)V"⟩ ∈ nW := List.mem_of_getElem? (i := 22) rfl
theorem n319 : .declares ⟨"java/lang/Exception", "<init>", "()V"⟩ ∈ nW := List.mem_of_getElem? (i := 23) rfl
theorem n320 : .declares ⟨"java/lang/Exception", "<init>", "(Ljava/lang/String;)V"⟩ ∈ nW := List.mem_of_getElem? (i := 24) rfl
theorem n321 : .declares ⟨"java/lang/Throwable", "<init>", "()V"⟩ ∈ nW := List.mem_of_getElem? (i := 25) rfl
theorem n322 : .declares ⟨"java/lang/Throwable", "<init>", "(Ljava/lang/String;)V"⟩ ∈ nW := List.mem_of_getElem? (i := 26) rfl
theorem n388 : .castable "java/lang/UnsupportedOperationException" "java/lang/UnsupportedOperationException" ∈ nW := List.mem_of_getElem? (i := 27) rfl
theorem n434 : .methodLinkNest "CircuitProver$Machine" 82 yC_contains "CircuitProver" ∈ nW := List.mem_of_getElem? (i := 28) rfl
theorem n461 : .methodLinkNest "CircuitProver$Answer" 76 yC_contains "CircuitProver" ∈ nW := List.mem_of_getElem? (i := 29) rfl
theorem n482 : .fieldLinkNest "CircuitProver$Answer" 119 "CircuitProver$Netlist" "LATCH_IS_ONE" "[J" "CircuitProver" ∈ nW := List.mem_of_getElem? (i := 30) rfl
theorem n513 : .castable "java/lang/IllegalStateException" "java/lang/IllegalStateException" ∈ nW := List.mem_of_getElem? (i := 31) rfl
theorem n549 : .castable "java/lang/IndexOutOfBoundsException" "java/lang/IndexOutOfBoundsException" ∈ nW := List.mem_of_getElem? (i := 32) rfl
theorem n660 : .fieldLinkNest "CircuitProver$Diagram" 21 "CircuitProver$Netlist" "LATCH_IS_ONE" "[J" "CircuitProver" ∈ nW := List.mem_of_getElem? (i := 33) rfl
/-! what every contract carries: nest words, the table of latch sets, the statics and texts of exceptions -/
def EV (A : Nat → Prop) (U : State) (H : Heap) : Prop :=
  (∀ w ∈ nW, va_Nw w U) ∧ (∃ tq : Nat, va_Z "CircuitProver$Netlist" "LATCH_IS_ONE" "[J" (.ref tq) A U H ∧ va_T .long tq 6 (fun i => .long (L1 i)) A U H)
  ∧ vx_Zq Bundle.tN "UNASSIGNED_STACK" Bundle.steD A U H ∧ vx_Zq Bundle.tN "SUPPRESSED_SENTINEL" Bundle.listD A U H
  ∧ (∃ a : Nat, vk_R "CircuitProver" 65 "the text is no circuit" a U) ∧ (∃ a : Nat, vk_R "CircuitProver" 76 "the circuit is not small" a U)
  ∧ (∃ a : Nat, vk_R "CircuitProver" 158 "there is no circuit" a U) ∧ ∃ a : Nat, vk_R "CircuitProver" 166 "there is no such state or input" a U
theorem EV.call {A0 A1 : Nat → Prop} {s U : State} {H : Heap} {locs : List Loc} (h : EV A0 s s.heap) (hS : va_S A0 s.heap H locs) (hA : ∀ q, A1 q → A0 q) (hW : s.WarmedH U.vm) (hU : U.heap = H) : EV A1 U U.heap := by
  obtain ⟨h1, ⟨tq, h2, h3⟩, h4, h5, ⟨a1, h6⟩, ⟨a2, h7⟩, ⟨a3, h8⟩, ⟨a4, h9⟩⟩ := h
  rw [hU]
  have hm := hW.alike
  exact ⟨fun w hw => nW_warm hW w hw (h1 w hw), ⟨tq, ((va_Z.moved hm h2).kept hS.2.1).narrow hA, ((va_T.moved hm h3).kept hS.2.1).narrow hA⟩,
    ((vx_Zq.moved hm h4).kept hS.2.1).narrow hA, ((vx_Zq.moved hm h5).kept hS.2.1).narrow hA, ⟨a1, vk_R.warm hW h6⟩, ⟨a2, vk_R.warm hW h7⟩, ⟨a3, vk_R.warm hW h8⟩, ⟨a4, vk_R.warm hW h9⟩⟩
theorem EV.blind {A : Nat → Prop} {U V : State} (hv : U.vm = V.vm) (hh : V.heap = U.heap) (h : EV A U U.heap) : EV A V V.heap := by
  obtain ⟨h1, ⟨tq, h2, h3⟩, h4, h5, ⟨a1, h6⟩, ⟨a2, h7⟩, ⟨a3, h8⟩, ⟨a4, h9⟩⟩ := h
  rw [hh]
  have hm : U.vm.Alike V.vm := by rw [hv]; exact Vm.Alike.refl V.vm
  exact ⟨fun w hw => nW_same hv w hw (h1 w hw), ⟨tq, va_Z.moved hm h2, va_T.moved hm h3⟩, vx_Zq.moved hm h4, vx_Zq.moved hm h5, ⟨a1, vk_R.same hv.symm h6⟩, ⟨a2, vk_R.same hv.symm h7⟩, ⟨a3, vk_R.same hv.symm h8⟩, ⟨a4, vk_R.same hv.symm h9⟩⟩
theorem EV.nw {A : Nat → Prop} {s : State} {H : Heap} (h : EV A s H) {w : Cond} (hw : w ∈ nW) : va_Nw w s := h.1 w hw
/-! the addresses of classes, array classes -/
abbrev GG : Type := (Nat → ClassId) × (Nat → Nat → Nat) × ClassId × ClassId × ClassId × ClassId
abbrev gD (G : GG) : va_G := (G.1, G.2.1)
abbrev gI (G : GG) : ClassId := G.2.2.1
abbrev gZ (G : GG) : ClassId := G.2.2.2.1
abbrev gB (G : GG) : ClassId := G.2.2.2.2.1
abbrev gJ (G : GG) : ClassId := G.2.2.2.2.2
abbrev tyG (G : GG) : List (ClassId × FieldType) := [(gI G, .int), (gZ G, .boolean), (gB G, .byte), (gJ G, .long)]
def zB (b : Bool) : Int32 := if b = true then 1 else 0
abbrev aI (G : GG) (n : Nat) (g : Nat → Nat) : va_E := .inl (gI G, n, .inl (fun j => nI (g j)))
abbrev aB (G : GG) (n : Nat) (g : Nat → Nat) : va_E := .inl (gB G, n, .inl (fun j => nI (g j)))
abbrev aZ (G : GG) (n : Nat) (g : Nat → Bool) : va_E := .inl (gZ G, n, .inl (fun j => zB (g j)))
abbrev aJ (G : GG) (n : Nat) (g : Nat → Int64) : va_E := .inl (gJ G, n, .inr (.inl g))
def bef (G : GG) (w : va_W) (sz : Nat) (U : State) : Prop := U.heap.size = sz ∧ va_P (gD G) vC w U.heap ∧ va_K (gD G) vC (tyG G) U ∧ va_D (fun _ => True) w ∧ EV (va_A w sz) U U.heap
def aft (G : GG) (A : Nat → Prop) (w : va_W) (t : State) : Prop := va_P (gD G) vC w t.heap ∧ va_K (gD G) vC (tyG G) t ∧ va_D A w
theorem bef_blind (G : GG) (av : List Value) (w : va_W) (sz : Nat) : FrameBlind (va_Pc av (bef G w sz)) := by
  intro a U g mk q
  obtain ⟨q0, q1, qP, qK, qD, qE⟩ := q
  exact ⟨q0, q1, qP, va_K.moved (u := U) (U := U.calling g mk a) (Vm.Alike.refl U.vm) qK, qD, EV.blind (U := U) (V := U.calling g mk a) rfl rfl qE⟩
/-- contracts, by what they answer -/
abbrev Ki (l : Launch) (y : MethodName) (cc : ByteArray) (mL : Nat) (rt : FieldType) (fr lo : Nat) (G : GG) (av : List Value) (w : va_W) (sz : Nat) {S : Type} (post : Int32 → S → Prop) (w1 : S → va_W) : Prop :=
  Met l y (Cond.code y cc mL (some rt) :: TB) { frames := fr, cells := 0, slots := 0, locals := lo } (va_Pc av (bef G w sz)) (va_Qi post (fun u => aft G (va_A w sz) (w1 u)) (va_A w sz)) 0 0 (va_A w sz)
abbrev Kl (l : Launch) (y : MethodName) (cc : ByteArray) (mL : Nat) (fr lo : Nat) (G : GG) (av : List Value) (w : va_W) (sz : Nat) {S : Type} (post : Int64 → S → Prop) (w1 : S → va_W) : Prop :=
  Met l y (Cond.code y cc mL (some .long) :: TB) { frames := fr, cells := 0, slots := 0, locals := lo } (va_Pc av (bef G w sz)) (va_Ql post (fun u => aft G (va_A w sz) (w1 u)) (va_A w sz)) 0 0 (va_A w sz)
abbrev Kv (l : Launch) (y : MethodName) (cc : ByteArray) (mL : Nat) (fr lo mc ms : Nat) (G : GG) (av : List Value) (w : va_W) (sz : Nat) {S : Type} (post : S → Prop) (w1 : S → va_W) : Prop :=
  Met l y (Cond.code y cc mL none :: TB) { frames := fr, cells := mc, slots := ms, locals := lo } (va_Pc av (bef G w sz)) (va_Qv post (fun u => aft G (va_A w sz) (w1 u)) (va_A w sz)) mc ms (va_A w sz)
theorem va_sub_f {α : Type} {ws : List α} : ∀ {is : List Nat} {w2 : List α}, is.map (fun i => ws[i]?) = w2.map some → is.filterMap (fun i => ws[i]?) = w2 := by
  intro is
  induction is with
  | nil => intro w2 h; cases w2 with
    | nil => rfl
    | cons a b => cases h
  | cons i is ih =>
    intro w2 h
    cases w2 with
    | nil => cases h
    | cons a b =>
      simp only [List.map_cons, List.cons.injEq] at h
      rw [List.filterMap_cons, h.1, ih h.2]
section KIT
variable {p : Program} {l : Launch} {e : Env} {R : Room} {s : State} {m : MethodId} {args : Array Value} {below : List Frame} {meth : Method} {c : Code} {H : Heap} {locs : List Loc} {cells slots : Nat} {Q : State → Prop}
variable {cc bytes : ByteArray} {pc nL maxL mc ms n index : Nat} {ls : Array Slot} {rest st0 As : List Value} {A0 : Nat → Prop} {G : GG} {ws wc wr : va_W} {own C : String} {y : MethodName} {ret : Option FieldType} {rm : Room} {Qc : Array Value → State → Outcome → State → Prop} {free : Addr → Prop} {a b : Nat} {av : Array Value}
/-- what a callee asks, out of the caller's world -/
theorem k_pre (hP : va_P (gD G) vC ws H) (hD : va_D A0 ws) (hK : va_K (gD G) vC (tyG G) s) (hS : va_S A0 s.heap H locs) (hA : ∀ q, s.heap.size ≤ q → A0 q) (hE : EV A0 s s.heap) (isC : List Nat) (hC : isC.map (fun i => ws[i]?) = wc.map some) (hn : va_nd isC = true) (av : List Value) : PreS s H (va_Pc av (bef G wc H.size)) av := by
  refine ⟨bef_blind G av wc H.size, fun U hU hW => ⟨rfl, by rw [hU], by rw [hU]; exact hP.sub isC (va_sub_f hC), va_K.moved hW.alike hK, (hD.sub isC hn hC).weaken (fun _ _ _ _ => trivial), ?_⟩⟩
  have hF := va_free hD hS hA isC hC
  exact hE.call hS hF hW hU
theorem k_ws {w : List Cond} (h : ∀ c ∈ w, c ∈ TB) (hc : Cond.code y bytes maxL ret ∈ TB) : GoodIn TB (w ++ (Cond.code y bytes maxL ret :: TB)) := tb_good (fun c hcm => by
  rcases List.mem_append.mp hcm with h1 | h1
  · exact h c h1
  · rcases List.mem_cons.mp h1 with rfl | h2
    · exact hc
    · exact h2)
theorem k_ws0 (hc : Cond.code y bytes maxL ret ∈ TB) : GoodIn TB (Cond.code y bytes maxL ret :: TB) := k_ws (w := []) (fun c h => nomatch h) hc
/-- calls: virtual, static, constructor, static of a nest mate -/
theorem k_runV (hx : p.tables.exec = Jvm.exec) (hb : c.code = cc) (hml : c.maxLocals = nL) (hown : s.vm.findClass own = some m.cls) (htb : ∀ w ∈ TB, w.before args s = true)
    (hP : va_P (gD G) vC ws H) (hD : va_D A0 ws) (hK : va_K (gD G) vC (tyG G) s) (hS : va_S A0 s.heap H locs) (hA : ∀ q, s.heap.size ≤ q → A0 q) (hE : EV A0 s s.heap)
    (hM : Met l y (Cond.code y bytes maxL ret :: TB) rm (va_Pc (.ref b :: As) (bef G wc H.size)) Qc mc ms free)
    (w1 : Cond.methodLink own index y ∈ TB) (w2 : Cond.instanceMethod y ∈ TB) (w3 : Cond.selects C y y ∈ TB) (w4 : Cond.initialized C ∈ TB) (w5 : Cond.code y bytes maxL ret ∈ TB)
    (hd : y.cls = C ∧ y.cls ≠ "java/lang/invoke/MethodHandle" ∧ y.cls ≠ "java/lang/invoke/VarHandle" ∧ (parseMethodDescriptor y.desc).map (fun d => d.parameters.length) = some n) (hrc : rm.cells = mc) (hrs : rm.slots = ms) (hR : rm.frames + 1 ≤ R.frames ∧ 8 + (maxL + 11) + rm.locals ≤ R.locals)
    (isC : List Nat) (hC : isC.map (fun i => ws[i]?) = wc.map some) (hnd : va_nd isC = true) (q0 : Nat) {ci : Nat} {fs : List Value} {vq : vw_C} (he : ws[q0]? = some (b, .inr (ci, fs))) (hc : vC[ci]? = some vq) (hCq : vq.1 = C)
    (hn : As.length = n) (hsize : ls.size = nL) (hst : st0 = As.reverse ++ .ref b :: rest) (hW : (rest.map fun v => v.category).sum ≤ 8) (hdg : decode cc pc = .ok (.invokevirtual index, 3)) (hf : cells + mc ≤ R.cells ∧ slots + ms ≤ R.slots) :
    va_Run p l e R s m args below meth c H locs cells slots mc ms (F0 m pc ls st0) rest (Qc (Value.ref b :: As).toArray) free := by
  have hpre := k_pre hP hD hK hS hA hE isC hC hnd (.ref b :: As)
  refine va_runV (C := C) ⟨hx, hb, hml, hown, htb⟩ hM (cwV n htb (k_ws (w := [.methodLink own index y, .instanceMethod y, .selects C y y, .initialized C]) (fun z hz => ?_) w5) rfl hrc hrs hd hR) ⟨hpre.1, ?_, hpre.2⟩ rfl hn hsize hst (lv_room hW) hdg hf
  · simp only [List.mem_cons, List.not_mem_nil, or_false] at hz
    rcases hz with rfl | rfl | rfl | rfl
    · exact w1
    · exact w2
    · exact w3
    · exact w4
  · have := va_recv hK hP hc he
    rw [hCq] at this
    exact this
theorem k_runS (hx : p.tables.exec = Jvm.exec) (hb : c.code = cc) (hml : c.maxLocals = nL) (hown : s.vm.findClass own = some m.cls) (htb : ∀ w ∈ TB, w.before args s = true)
    (hP : va_P (gD G) vC ws H) (hD : va_D A0 ws) (hK : va_K (gD G) vC (tyG G) s) (hS : va_S A0 s.heap H locs) (hA : ∀ q, s.heap.size ≤ q → A0 q) (hE : EV A0 s s.heap)
    (hM : Met l y (Cond.code y bytes maxL ret :: TB) rm (va_Pc As (bef G wc H.size)) Qc mc ms free)
    (w1 : Cond.methodLink own index y ∈ TB) (w2 : Cond.static y ∈ TB) (w4 : Cond.initialized y.cls ∈ TB) (w5 : Cond.code y bytes maxL ret ∈ TB)
    (hd : y.cls ≠ "java/lang/invoke/MethodHandle" ∧ y.cls ≠ "java/lang/invoke/VarHandle" ∧ (parseMethodDescriptor y.desc).map (fun d => d.parameters.length) = some n) (hrc : rm.cells = mc) (hrs : rm.slots = ms) (hR : rm.frames + 1 ≤ R.frames ∧ 8 + (maxL + 11) + rm.locals ≤ R.locals)
    (isC : List Nat) (hC : isC.map (fun i => ws[i]?) = wc.map some) (hnd : va_nd isC = true)
    (hn : As.length = n) (hsize : ls.size = nL) (hst : st0 = As.reverse ++ rest) (hW : (rest.map fun v => v.category).sum ≤ 8) (hdg : decode cc pc = .ok (.invokestatic index, 3)) (hf : cells + mc ≤ R.cells ∧ slots + ms ≤ R.slots) :
    va_Run p l e R s m args below meth c H locs cells slots mc ms (F0 m pc ls st0) rest (Qc As.toArray) free := by
  have hpre := k_pre hP hD hK hS hA hE isC hC hnd As
  refine va_runS ⟨hx, hb, hml, hown, htb⟩ hM (va_cwS n htb (k_ws (w := [.methodLink own index y, .static y, .initialized y.cls]) (fun z hz => ?_) w5) rfl hrc hrs hd hR) hpre rfl hn hsize hst (lv_room hW) hdg hf
  simp only [List.mem_cons, List.not_mem_nil, or_false] at hz
  rcases hz with rfl | rfl | rfl
  · exact w1
  · exact w2
  · exact w4
theorem k_runSN {host : String} (hx : p.tables.exec = Jvm.exec) (hb : c.code = cc) (hml : c.maxLocals = nL) (hown : s.vm.findClass own = some m.cls) (htb : ∀ w ∈ TB, w.before args s = true)
    (hP : va_P (gD G) vC ws H) (hD : va_D A0 ws) (hK : va_K (gD G) vC (tyG G) s) (hS : va_S A0 s.heap H locs) (hA : ∀ q, s.heap.size ≤ q → A0 q) (hE : EV A0 s s.heap)
    (hM : Met l y (Cond.code y bytes maxL ret :: TB) rm (va_Pc As (bef G wc H.size)) Qc mc ms free)
    (w1 : Cond.methodLinkNest own index y host ∈ nW) (w2 : Cond.static y ∈ TB) (w4 : Cond.initialized y.cls ∈ TB) (w5 : Cond.code y bytes maxL ret ∈ TB)
    (hd : y.cls ≠ "java/lang/invoke/MethodHandle" ∧ y.cls ≠ "java/lang/invoke/VarHandle" ∧ (parseMethodDescriptor y.desc).map (fun d => d.parameters.length) = some n) (hrc : rm.cells = mc) (hrs : rm.slots = ms) (hR : rm.frames + 1 ≤ R.frames ∧ 8 + (maxL + 11) + rm.locals ≤ R.locals)
    (isC : List Nat) (hC : isC.map (fun i => ws[i]?) = wc.map some) (hnd : va_nd isC = true)
    (hn : As.length = n) (hsize : ls.size = nL) (hst : st0 = As.reverse ++ rest) (hW : (rest.map fun v => v.category).sum ≤ 8) (hdg : decode cc pc = .ok (.invokestatic index, 3)) (hf : cells + mc ≤ R.cells ∧ slots + ms ≤ R.slots) :
    va_Run p l e R s m args below meth c H locs cells slots mc ms (F0 m pc ls st0) rest (Qc As.toArray) free := by
  have hpre := k_pre hP hD hK hS hA hE isC hC hnd As
  exact va_runSN ⟨hx, hb, hml, hown, htb⟩ hM ⟨va_cnB n htb (k_ws0 w5) rfl hrc hrs (hE.nw w1) (htb _ w4) hd hR, htb _ w2, trivial⟩ hpre rfl hn hsize hst (lv_room hW) hdg hf
theorem k_runI (hx : p.tables.exec = Jvm.exec) (hb : c.code = cc) (hml : c.maxLocals = nL) (hown : s.vm.findClass own = some m.cls) (htb : ∀ w ∈ TB, w.before args s = true)
    (hP : va_P (gD G) vC ws H) (hD : va_D A0 ws) (hK : va_K (gD G) vC (tyG G) s) (hS : va_S A0 s.heap H locs) (hA : ∀ q, s.heap.size ≤ q → A0 q) (hE : EV A0 s s.heap)
    (hM : Met l y (Cond.code y bytes maxL none :: TB) rm (va_Pc (.ref b :: As) (bef G wc H.size)) Qc mc ms free)
    (w1 : Cond.methodLink own index y ∈ TB) (w2 : Cond.instanceMethod y ∈ TB) (w4 : Cond.initialized y.cls ∈ TB) (w5 : Cond.code y bytes maxL none ∈ TB) (hy : y.name = "<init>")
    (hd : y.cls ≠ "java/lang/invoke/MethodHandle" ∧ y.cls ≠ "java/lang/invoke/VarHandle" ∧ (parseMethodDescriptor y.desc).map (fun d => d.parameters.length) = some n) (hrc : rm.cells = mc) (hrs : rm.slots = ms) (hR : rm.frames + 1 ≤ R.frames ∧ 8 + (maxL + 11) + rm.locals ≤ R.locals)
    (isC : List Nat) (hC : isC.map (fun i => ws[i]?) = wc.map some) (hnd : va_nd isC = true)
    (hn : As.length = n) (hsize : ls.size = nL) (hst : st0 = As.reverse ++ .ref b :: rest) (hW : (rest.map fun v => v.category).sum ≤ 8) (hdg : decode cc pc = .ok (.invokespecial index, 3)) (hf : cells + mc ≤ R.cells ∧ slots + ms ≤ R.slots) :
    va_Run p l e R s m args below meth c H locs cells slots mc ms (F0 m pc ls st0) rest (Qc (Value.ref b :: As).toArray) free := by
  have hpre := k_pre hP hD hK hS hA hE isC hC hnd (.ref b :: As)
  exact va_runI ⟨hx, hb, hml, hown, htb⟩ hM ⟨callB_of n htb (k_ws0 w5) rfl hrc hrs (htb _ w4) (htb _ w1) hd hR, hy, htb _ w2⟩ hpre rfl hn hsize hst (lv_room hW) hdg hf
/-- behind a call: the callee's cells as it leaves them, the others as they were, in the old order -/
theorem k_i {T : Type} {post : Int32 → T → Prop} {w1 ws2 : T → va_W} (hr : va_Run p l e R s m args below meth c H locs cells slots mc ms (F0 m pc ls st0) rest (va_Qi post (fun u => aft G (va_A wc H.size) (w1 u)) (va_A wc H.size) av) (va_A wc H.size))
    (hP : va_P (gD G) vC ws H) (hD : va_D A0 ws) (hS : va_S A0 s.heap H locs) (hA : ∀ q, s.heap.size ≤ q → A0 q) (isC isR pm : List Nat) (hC : isC.map (fun i => ws[i]?) = wc.map some) (hR : isR.map (fun i => ws[i]?) = wr.map some) (hn : va_nd isR = true) (hdis : ∀ i ∈ isR, i ∉ isC)
    (hpm : ∀ u, pm.map (fun i => (wr ++ w1 u)[i]?) = (ws2 u).map some) (hpn : va_nd pm = true)
    (kk : ∀ (r : Int32) (u : T) (H1 : Heap) (locs1 : List Loc), post r u → va_P (gD G) vC (ws2 u) H1 → va_D A0 (ws2 u) → va_S A0 s.heap H1 locs1 → W p l e R s m args below meth c H1 locs1 (cells + mc) (slots + ms) Q (F0 m (pc + 3) ls (.int r :: rest))) : W p l e R s m args below meth c H locs cells slots Q (F0 m pc ls st0) := by
  have hF := va_free hD hS hA isC hC
  refine va_calli hr hS (fun q _ h => hF q h) hF (fun r u t H1 locs1 ht hvm hp hB hz hk hS1 => ?_)
  obtain ⟨hP1, -, hD1⟩ := hB
  rw [ht] at hP1
  obtain ⟨hP2, hD2⟩ := va_join hP hD isC isR hC hR hn hdis hk hF hP1 hD1
  exact kk r u H1 locs1 hp (hP2.sub pm (va_sub_f (hpm u))) (hD2.sub pm hpn (hpm u)) hS1
theorem k_l {T : Type} {post : Int64 → T → Prop} {w1 ws2 : T → va_W} (hr : va_Run p l e R s m args below meth c H locs cells slots mc ms (F0 m pc ls st0) rest (va_Ql post (fun u => aft G (va_A wc H.size) (w1 u)) (va_A wc H.size) av) (va_A wc H.size))
    (hP : va_P (gD G) vC ws H) (hD : va_D A0 ws) (hS : va_S A0 s.heap H locs) (hA : ∀ q, s.heap.size ≤ q → A0 q) (isC isR pm : List Nat) (hC : isC.map (fun i => ws[i]?) = wc.map some) (hR : isR.map (fun i => ws[i]?) = wr.map some) (hn : va_nd isR = true) (hdis : ∀ i ∈ isR, i ∉ isC)
    (hpm : ∀ u, pm.map (fun i => (wr ++ w1 u)[i]?) = (ws2 u).map some) (hpn : va_nd pm = true)
    (kk : ∀ (r : Int64) (u : T) (H1 : Heap) (locs1 : List Loc), post r u → va_P (gD G) vC (ws2 u) H1 → va_D A0 (ws2 u) → va_S A0 s.heap H1 locs1 → W p l e R s m args below meth c H1 locs1 (cells + mc) (slots + ms) Q (F0 m (pc + 3) ls (.long r :: rest))) : W p l e R s m args below meth c H locs cells slots Q (F0 m pc ls st0) := by
  have hF := va_free hD hS hA isC hC
  refine va_calll hr hS (fun q _ h => hF q h) hF (fun r u t H1 locs1 ht hvm hp hB hz hk hS1 => ?_)
  obtain ⟨hP1, -, hD1⟩ := hB
  rw [ht] at hP1
  obtain ⟨hP2, hD2⟩ := va_join hP hD isC isR hC hR hn hdis hk hF hP1 hD1
  exact kk r u H1 locs1 hp (hP2.sub pm (va_sub_f (hpm u))) (hD2.sub pm hpn (hpm u)) hS1
theorem k_v {T : Type} {post : T → Prop} {w1 ws2 : T → va_W} (hr : va_Run p l e R s m args below meth c H locs cells slots mc ms (F0 m pc ls st0) rest (va_Qv post (fun u => aft G (va_A wc H.size) (w1 u)) (va_A wc H.size) av) (va_A wc H.size))
    (hP : va_P (gD G) vC ws H) (hD : va_D A0 ws) (hS : va_S A0 s.heap H locs) (hA : ∀ q, s.heap.size ≤ q → A0 q) (isC isR pm : List Nat) (hC : isC.map (fun i => ws[i]?) = wc.map some) (hR : isR.map (fun i => ws[i]?) = wr.map some) (hn : va_nd isR = true) (hdis : ∀ i ∈ isR, i ∉ isC)
    (hpm : ∀ u, pm.map (fun i => (wr ++ w1 u)[i]?) = (ws2 u).map some) (hpn : va_nd pm = true)
    (kk : ∀ (u : T) (H1 : Heap) (locs1 : List Loc), post u → va_P (gD G) vC (ws2 u) H1 → va_D A0 (ws2 u) → va_S A0 s.heap H1 locs1 → W p l e R s m args below meth c H1 locs1 (cells + mc) (slots + ms) Q (F0 m (pc + 3) ls rest)) : W p l e R s m args below meth c H locs cells slots Q (F0 m pc ls st0) := by
  have hF := va_free hD hS hA isC hC
  refine va_callv hr hS (fun q _ h => hF q h) hF (fun u t H1 locs1 ht hvm hp hB hz hk hS1 => ?_)
  obtain ⟨hP1, -, hD1⟩ := hB
  rw [ht] at hP1
  obtain ⟨hP2, hD2⟩ := va_join hP hD isC isR hC hR hn hdis hk hF hP1 hD1
  exact kk u H1 locs1 hp (hP2.sub pm (va_sub_f (hpm u))) (hD2.sub pm hpn (hpm u)) hS1
/-- ends -/
theorem k_iret {T : Type} {post : Int32 → T → Prop} {w1 : T → va_W} {v : Int32} {ty : FieldType} (hx : p.tables.exec = Jvm.exec) (hb : c.code = cc) (hr : meth.sig.returnType = some ty) (hlocks : meth.locks = false) (hnr : narrow ty (.int v) = .int v) (u : T) (hpost : post v u) (hP : va_P (gD G) vC (w1 u) H) (hD : va_D A0 (w1 u)) (hK : va_K (gD G) vC (tyG G) s) (hS : va_S A0 s.heap H locs) (hdg : decode cc pc = .ok (.ireturn, 1)) :
    W p l e R s m args below meth c H locs cells slots (MQ below (va_Qi post (fun u => aft G A0 (w1 u)) A0) args s cells slots A0) (F0 m pc ls [.int v]) :=
  W.zret hx hb hr hnr (fun t ht hW => ⟨⟨v, u, rfl, hpost, by rw [ht]; exact hP, va_K.moved hW.alike hK, hD⟩, hS.F ht⟩) hS.2.2 hdg
theorem k_lret {T : Type} {post : Int64 → T → Prop} {w1 : T → va_W} {v : Int64} (hx : p.tables.exec = Jvm.exec) (hb : c.code = cc) (hr : meth.sig.returnType = some .long) (hlocks : meth.locks = false) (u : T) (hpost : post v u) (hP : va_P (gD G) vC (w1 u) H) (hD : va_D A0 (w1 u)) (hK : va_K (gD G) vC (tyG G) s) (hS : va_S A0 s.heap H locs) (hdg : decode cc pc = .ok (.lreturn, 1)) :
    W p l e R s m args below meth c H locs cells slots (MQ below (va_Ql post (fun u => aft G A0 (w1 u)) A0) args s cells slots A0) (F0 m pc ls [.long v]) :=
  W.lret hx hb hr (fun t ht hW => ⟨⟨v, u, rfl, hpost, by rw [ht]; exact hP, va_K.moved hW.alike hK, hD⟩, hS.F ht⟩) hS.2.2 hdg
theorem k_vret {T : Type} {post : T → Prop} {w1 : T → va_W} (hx : p.tables.exec = Jvm.exec) (hb : c.code = cc) (hr : meth.sig.returnType = none) (hlocks : meth.locks = false) (u : T) (hpost : post u) (hP : va_P (gD G) vC (w1 u) H) (hD : va_D A0 (w1 u)) (hK : va_K (gD G) vC (tyG G) s) (hS : va_S A0 s.heap H locs) (hdg : decode cc pc = .ok (.return_, 1)) :
    W p l e R s m args below meth c H locs cells slots (MQ below (va_Qv post (fun u => aft G A0 (w1 u)) A0) args s cells slots A0) (F0 m pc ls []) :=
  W.vret hx hb hr (fun t ht hW => ⟨⟨u, rfl, hpost, by rw [ht]; exact hP, va_K.moved hW.alike hK, hD⟩, hS.F ht⟩) hS.2.2 hdg
/-- a number that stands on the stack, in another form -/
theorem k_toi {x y : Int32} (h : x = y) (k : W p l e R s m args below meth c H locs cells slots Q (F0 m pc ls (.int y :: rest))) : W p l e R s m args below meth c H locs cells slots Q (F0 m pc ls (.int x :: rest)) := h ▸ k
theorem k_tol {x y : Int64} (h : x = y) (k : W p l e R s m args below meth c H locs cells slots Q (F0 m pc ls (.long y :: rest))) : W p l e R s m args below meth c H locs cells slots Q (F0 m pc ls (.long x :: rest)) := h ▸ k
/-- arrays of numbers -/
theorem upd_nI (g : Nat → Nat) (k v : Nat) : upd (fun j => nI (g j)) k (nI v) = fun j => nI (va_up g k v j) := by
  funext j
  unfold upd va_up
  split <;> rfl
theorem k_iald (hx : p.tables.exec = Jvm.exec) (hb : c.code = cc) (hK : va_K (gD G) vC (tyG G) s) (hP : va_P (gD G) vC ws H) (q0 : Nat) {n : Nat} {g : Nat → Nat} (ha : ws[q0]? = some (a, aI G n g)) {k : Nat} (hk : k < n) (hn : n < 2 ^ 31) (hdg : decode cc pc = .ok (.iaload, 1))
    (kk : W p l e R s m args below meth c H locs cells slots Q (F0 m (pc + 1) ls (.int (nI (g k)) :: rest))) : W p l e R s m args below meth c H locs cells slots Q (F0 m pc ls (.int (nI k) :: .ref a :: rest)) :=
  va_iald hx hb hK hP q0 0 ha rfl (vp_in_nI hk hn) hdg (by rw [nI_clamp (by omega)]; exact kk)
theorem k_bald (hx : p.tables.exec = Jvm.exec) (hb : c.code = cc) (hK : va_K (gD G) vC (tyG G) s) (hP : va_P (gD G) vC ws H) (q0 : Nat) {n : Nat} {g : Nat → Nat} (ha : ws[q0]? = some (a, aB G n g)) {k : Nat} (hk : k < n) (hn : n < 2 ^ 31) (hdg : decode cc pc = .ok (.baload, 1))
    (kk : W p l e R s m args below meth c H locs cells slots Q (F0 m (pc + 1) ls (.int (nI (g k)) :: rest))) : W p l e R s m args below meth c H locs cells slots Q (F0 m pc ls (.int (nI k) :: .ref a :: rest)) :=
  va_bald hx hb hK hP q0 2 ha rfl (vp_in_nI hk hn) hdg (by rw [nI_clamp (by omega)]; exact kk)
theorem k_zald (hx : p.tables.exec = Jvm.exec) (hb : c.code = cc) (hK : va_K (gD G) vC (tyG G) s) (hP : va_P (gD G) vC ws H) (q0 : Nat) {n : Nat} {g : Nat → Bool} (ha : ws[q0]? = some (a, aZ G n g)) {k : Nat} (hk : k < n) (hn : n < 2 ^ 31) (hdg : decode cc pc = .ok (.baload, 1))
    (kk : W p l e R s m args below meth c H locs cells slots Q (F0 m (pc + 1) ls (.int (zB (g k)) :: rest))) : W p l e R s m args below meth c H locs cells slots Q (F0 m pc ls (.int (nI k) :: .ref a :: rest)) :=
  va_zald hx hb hK hP q0 1 ha rfl (vp_in_nI hk hn) hdg (by rw [nI_clamp (by omega)]; exact kk)
theorem k_lald (hx : p.tables.exec = Jvm.exec) (hb : c.code = cc) (hK : va_K (gD G) vC (tyG G) s) (hP : va_P (gD G) vC ws H) (q0 : Nat) {n : Nat} {g : Nat → Int64} (ha : ws[q0]? = some (a, aJ G n g)) {k : Nat} (hk : k < n) (hn : n < 2 ^ 31) (hdg : decode cc pc = .ok (.laload, 1))
    (kk : W p l e R s m args below meth c H locs cells slots Q (F0 m (pc + 1) ls (.long (g k) :: rest))) : W p l e R s m args below meth c H locs cells slots Q (F0 m pc ls (.int (nI k) :: .ref a :: rest)) :=
  va_lald hx hb hK hP q0 3 ha rfl (vp_in_nI hk hn) hdg (by rw [nI_clamp (by omega)]; exact kk)
theorem k_iast (hx : p.tables.exec = Jvm.exec) (hb : c.code = cc) (hK : va_K (gD G) vC (tyG G) s) (hP : va_P (gD G) vC ws H) (hD : va_D A0 ws) (hS : va_S A0 s.heap H locs) (q0 : Nat) {n : Nat} {g : Nat → Nat} (ha : ws[q0]? = some (a, aI G n g)) {k v : Nat} (hk : k < n) (hn : n < 2 ^ 31) (hdg : decode cc pc = .ok (.iastore, 1))
    (kk : ∀ (H1 : Heap) (locs1 : List Loc), va_P (gD G) vC (ws.set q0 (a, aI G n (va_up g k v))) H1 → va_D A0 (ws.set q0 (a, aI G n (va_up g k v))) → va_S A0 s.heap H1 locs1 → W p l e R s m args below meth c H1 locs1 cells slots Q (F0 m (pc + 1) ls rest)) : W p l e R s m args below meth c H locs cells slots Q (F0 m pc ls (.int (nI v) :: .int (nI k) :: .ref a :: rest)) :=
  va_iast hx hb hK hP hD hS q0 0 ha rfl (vp_in_nI hk hn) hdg (fun H1 locs1 h1 h2 h3 => by
    rw [nI_clamp (by omega), upd_nI] at h1 h2
    exact kk H1 locs1 h1 h2 h3)
theorem nar_b : ∀ v, v < 128 → vp_nar .byte (nI v) = nI v := by decide +kernel
theorem i2b_n : ∀ v, v < 128 → (nI v).toInt8.toInt32 = nI v := by decide +kernel
theorem k_bast (hx : p.tables.exec = Jvm.exec) (hb : c.code = cc) (hK : va_K (gD G) vC (tyG G) s) (hP : va_P (gD G) vC ws H) (hD : va_D A0 ws) (hS : va_S A0 s.heap H locs) (q0 : Nat) {n : Nat} {g : Nat → Nat} (ha : ws[q0]? = some (a, aB G n g)) {k v : Nat} (hk : k < n) (hn : n < 2 ^ 31) (hv : v < 128) (hdg : decode cc pc = .ok (.bastore, 1))
    (kk : ∀ (H1 : Heap) (locs1 : List Loc), va_P (gD G) vC (ws.set q0 (a, aB G n (va_up g k v))) H1 → va_D A0 (ws.set q0 (a, aB G n (va_up g k v))) → va_S A0 s.heap H1 locs1 → W p l e R s m args below meth c H1 locs1 cells slots Q (F0 m (pc + 1) ls rest)) : W p l e R s m args below meth c H locs cells slots Q (F0 m pc ls (.int (nI v) :: .int (nI k) :: .ref a :: rest)) :=
  va_bast hx hb hK hP hD hS q0 2 ha rfl (vp_in_nI hk hn) hdg (fun H1 locs1 h1 h2 h3 => by
    rw [nI_clamp (by omega), nar_b v hv, upd_nI] at h1 h2
    exact kk H1 locs1 h1 h2 h3)
theorem nar_z (b : Bool) : vp_nar .boolean (zB b) = zB b := by cases b <;> decide
theorem upd_zB (g : Nat → Bool) (k : Nat) (v : Bool) : upd (fun j => zB (g j)) k (zB v) = fun j => zB (va_up g k v j) := by
  funext j
  unfold upd va_up
  split <;> rfl
theorem k_zast (hx : p.tables.exec = Jvm.exec) (hb : c.code = cc) (hK : va_K (gD G) vC (tyG G) s) (hP : va_P (gD G) vC ws H) (hD : va_D A0 ws) (hS : va_S A0 s.heap H locs) (q0 : Nat) {n : Nat} {g : Nat → Bool} (ha : ws[q0]? = some (a, aZ G n g)) {k : Nat} {v : Bool} (hk : k < n) (hn : n < 2 ^ 31) (hdg : decode cc pc = .ok (.bastore, 1))
    (kk : ∀ (H1 : Heap) (locs1 : List Loc), va_P (gD G) vC (ws.set q0 (a, aZ G n (va_up g k v))) H1 → va_D A0 (ws.set q0 (a, aZ G n (va_up g k v))) → va_S A0 s.heap H1 locs1 → W p l e R s m args below meth c H1 locs1 cells slots Q (F0 m (pc + 1) ls rest)) : W p l e R s m args below meth c H locs cells slots Q (F0 m pc ls (.int (zB v) :: .int (nI k) :: .ref a :: rest)) :=
  va_zast hx hb hK hP hD hS q0 1 ha rfl (vp_in_nI hk hn) hdg (fun H1 locs1 h1 h2 h3 => by
    rw [nI_clamp (by omega), nar_z v, upd_zB] at h1 h2
    exact kk H1 locs1 h1 h2 h3)
theorem k_last (hx : p.tables.exec = Jvm.exec) (hb : c.code = cc) (hK : va_K (gD G) vC (tyG G) s) (hP : va_P (gD G) vC ws H) (hD : va_D A0 ws) (hS : va_S A0 s.heap H locs) (q0 : Nat) {n : Nat} {g : Nat → Int64} (ha : ws[q0]? = some (a, aJ G n g)) {k : Nat} {v : Int64} (hk : k < n) (hn : n < 2 ^ 31) (hdg : decode cc pc = .ok (.lastore, 1))
    (kk : ∀ (H1 : Heap) (locs1 : List Loc), va_P (gD G) vC (ws.set q0 (a, aJ G n (va_up g k v))) H1 → va_D A0 (ws.set q0 (a, aJ G n (va_up g k v))) → va_S A0 s.heap H1 locs1 → W p l e R s m args below meth c H1 locs1 cells slots Q (F0 m (pc + 1) ls rest)) : W p l e R s m args below meth c H locs cells slots Q (F0 m pc ls (.long v :: .int (nI k) :: .ref a :: rest)) :=
  va_last hx hb hK hP hD hS q0 3 ha rfl (vp_in_nI hk hn) hdg (fun H1 locs1 h1 h2 h3 => by
    rw [nI_clamp (by omega)] at h1 h2
    exact kk H1 locs1 h1 h2 h3)
end KIT
theorem zB_f {b : Bool} (h : zB b = 0) : b = false := by
  cases b
  · rfl
  · exact absurd h (by decide)
theorem zB_t {b : Bool} (h : ¬ zB b = 0) : b = true := by
  cases b
  · exact absurd rfl h
  · rfl
theorem nar_zV (b : Bool) : narrow .boolean (.int (zB b)) = .int (zB b) := by cases b <;> rfl
theorem fit_zV (b : Bool) : fits .boolean (.int (zB b)) = true := by cases b <;> rfl
theorem nI_dec {a b : Nat} {n : Int32} (h : b ≤ a) (hn : n = - nI b := by decide) : nI a + n = nI (a - b) := by
  rw [hn, ← Int32.sub_eq_add_neg, pk_sub h]
theorem nI_m1 {a : Nat} (h : a < 2 ^ 31) : ¬ nI a = -1 := fun e => by
  have h1 := congrArg Int32.toInt e
  rw [nI_toInt h] at h1
  have h2 : (-1 : Int32).toInt = -1 := by decide
  omega
theorem s_l : ∀ n, n < 32 → ((nI n &&& 31).toBitVec.smod 32).toNat = n := by decide +kernel
theorem sh1 {k : Nat} (h : k < 31) : nI 1 <<< (nI k &&& 31) = nI (2 ^ k) := by
  rw [pk_shlN _ k (s_l k (by omega)) (by have : 2 ^ k < 2 ^ 32 := Nat.pow_lt_pow_right (by decide) (by omega); omega), Nat.one_mul]
theorem shn {a k : Nat} (h : k < 32) (h2 : a * 2 ^ k < 2 ^ 32) : nI a <<< (nI k &&& 31) = nI (a * 2 ^ k) := pk_shlN _ k (s_l k h) h2
theorem shrn {a k : Nat} (ha : a < 2 ^ 31) (h : k < 32) : nI a >>> (nI k &&& 31) = nI (a / 2 ^ k) := pk_shrN ha _ k (s_l k h)
theorem nx_and (a b : Nat) : nI a &&& nI b = nI (a &&& b) := by
  apply Int32.toBitVec_inj.1
  show BitVec.ofNat 32 a &&& BitVec.ofNat 32 b = BitVec.ofNat 32 (a &&& b)
  apply BitVec.eq_of_getLsbD_eq
  intro i hi
  simp [hi]
theorem nx_or (a b : Nat) : nI a ||| nI b = nI (a ||| b) := by
  apply Int32.toBitVec_inj.1
  show BitVec.ofNat 32 a ||| BitVec.ofNat 32 b = BitVec.ofNat 32 (a ||| b)
  apply BitVec.eq_of_getLsbD_eq
  intro i hi
  simp [hi]
theorem nx_xor (a b : Nat) : nI a ^^^ nI b = nI (a ^^^ b) := by
  apply Int32.toBitVec_inj.1
  show BitVec.ofNat 32 a ^^^ BitVec.ofNat 32 b = BitVec.ofNat 32 (a ^^^ b)
  apply BitVec.eq_of_getLsbD_eq
  intro i hi
  simp [hi]
theorem cpy_nI (f g : Nat → Nat) (a b n : Nat) : va_cpy (fun j => nI (f j)) (fun j => nI (g j)) a b n = fun j => nI (va_cpy f g a b n j) := by
  funext j
  unfold va_cpy
  split <;> rfl
theorem mmin_n {a b : Nat} (ha : a < 2 ^ 31) (hb : b < 2 ^ 31) : (if nI b < nI a then nI b else nI a) = nI (if b < a then b else a) := by
  by_cases h : b < a
  · rw [if_pos h, if_pos ((nI_ltI hb ha).mpr h)]
  · rw [if_neg h, if_neg (fun z => h ((nI_ltI hb ha).mp z))]
section KIT2
variable {p : Program} {l : Launch} {e : Env} {R : Room} {s : State} {m : MethodId} {args : Array Value} {below : List Frame} {meth : Method} {c : Code} {H : Heap} {locs : List Loc} {cells slots : Nat} {Q : State → Prop}
variable {cc : ByteArray} {pc nL index : Nat} {ls : Array Slot} {rest : List Value} {A0 : Nat → Prop} {G : GG} {ws : va_W} {own : String} {a a0 : Nat}
theorem k_copy (hx : p.tables.exec = Jvm.exec) (hb : c.code = cc) (hml : c.maxLocals = nL) (hsz : ls.size = nL) (hown : s.vm.findClass own = some m.cls) (htb : ∀ w ∈ TB, w.before args s = true)
    (w1 : Cond.methodLink own index arraycopyName ∈ TB) (w2 : Cond.native arraycopyName ∈ TB) (w3 : Cond.static arraycopyName ∈ TB) (w4 : Cond.initialized "java/lang/System" ∈ TB)
    (hK : va_K (gD G) vC (tyG G) s) (hP : va_P (gD G) vC ws H) (hD : va_D A0 ws) (hS : va_S A0 s.heap H locs) (q0 q1 : Nat) {n0 n1 k : Nat} {f g : Nat → Nat} (ha0 : ws[q0]? = some (a0, aI G n0 f)) (ha1 : ws[q1]? = some (a, aI G n1 g)) (h0 : k ≤ n0) (h1 : k ≤ n1) (hk : k < 2 ^ 31)
    (hframes : 1 ≤ R.frames) (hlocals : (rest.map fun v => v.category).sum + (nativeFrameWords "java/lang/System" "arraycopy" 5 + 11) ≤ R.locals) (hdg : decode cc pc = .ok (.invokestatic index, 3))
    (kk : ∀ (H1 : Heap) (locs1 : List Loc), va_P (gD G) vC (ws.set q1 (a, aI G n1 (va_cpy f g 0 0 k))) H1 → va_D A0 (ws.set q1 (a, aI G n1 (va_cpy f g 0 0 k))) → va_S A0 s.heap H1 locs1 → W p l e R s m args below meth c H1 locs1 cells slots Q (F0 m (pc + 3) ls rest)) : W p l e R s m args below meth c H locs cells slots Q (F0 m pc ls (.int (nI k) :: .int (nI 0) :: .ref a :: .int (nI 0) :: .ref a0 :: rest)) := by
  have hc0 : (nI 0).toNatClampNeg = 0 := nI_clamp (by decide)
  have hck : (nI k).toNatClampNeg = k := nI_clamp hk
  refine va_copyi hx hb (hml.trans hsz.symm) hown (htb _ w1) (htb _ w2) (htb _ w3) (htb _ w4) hK hP hD hS q0 q1 0 0 ha0 ha1 rfl rfl rfl (nI_pos (by decide)) (nI_pos (by decide)) (nI_pos hk) (by rw [hc0, hck]; omega) (by rw [hc0, hck]; omega) (fun _ _ => rfl) hframes hlocals hdg (fun H1 locs1 g1 g2 g3 => ?_)
  rw [hc0, hck, cpy_nI] at g1 g2
  exact kk H1 locs1 g1 g2 g3
end KIT2

