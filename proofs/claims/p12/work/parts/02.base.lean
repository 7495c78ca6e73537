section BT0
variable {p : Program} {l : Launch} {e : Env} {R : Room} {s : State} {m : MethodId} {args : Array Value} {below : List Frame} {meth : Method} {c : Code} {H : Heap} {locs : List Loc} {cells slots : Nat} {Q : State → Prop} {pc : Nat} {ls : Array Slot} {rest : List Value}
theorem bt_topi {x y : Int32} (h : x = y) (k : W p l e R s m args below meth c H locs cells slots Q (F0 m pc ls (.int y :: rest))) : W p l e R s m args below meth c H locs cells slots Q (F0 m pc ls (.int x :: rest)) := by rw [h]; exact k
theorem bt_topl {x y : Int64} (h : x = y) (k : W p l e R s m args below meth c H locs cells slots Q (F0 m pc ls (.long y :: rest))) : W p l e R s m args below meth c H locs cells slots Q (F0 m pc ls (.long x :: rest)) := by rw [h]; exact k
theorem bt_genQ {g : JFrame} (k : ∀ Q2 : State → Prop, Q2 = Q → W p l e R s m args below meth c H locs cells slots Q2 g) : W p l e R s m args below meth c H locs cells slots Q g := k Q rfl
end BT0
theorem bt_dec {n : Nat} (h : 1 ≤ n) : nI n + (-1) = nI (n - 1) := sb_m1 (by omega)
/-- a truth as an answer -/
noncomputable def Bt (P : Prop) : Int32 := @ite _ P (Classical.propDecidable P) 1 0
theorem Bt_t {P : Prop} (h : P) : Bt P = 1 := by unfold Bt; exact if_pos h
theorem Bt_f {P : Prop} (h : ¬ P) : Bt P = 0 := by unfold Bt; exact if_neg h
theorem Bt_01 (P : Prop) : Bt P = 0 ∨ Bt P = 1 := by
  by_cases h : P
  · exact Or.inr (Bt_t h)
  · exact Or.inl (Bt_f h)
theorem Bt_eq0 {P : Prop} : Bt P = 0 ↔ ¬ P := ⟨fun h q => by rw [Bt_t q] at h; exact absurd h (by decide), Bt_f⟩
theorem Bt_eq1 {P : Prop} : Bt P = 1 ↔ P := ⟨fun h => Classical.byContradiction fun q => by rw [Bt_f q] at h; exact absurd h (by decide), Bt_t⟩
theorem Bt_ne0 {P : Prop} : ¬ Bt P = 0 ↔ P := ⟨fun h => Classical.byContradiction fun q => h (Bt_f q), fun h q => by rw [Bt_t h] at q; exact absurd q (by decide)⟩
theorem Bt_iff {P Q : Prop} (h : P ↔ Q) : Bt P = Bt Q := by rw [propext h]
theorem bt_nz (P : Prop) : narrow .boolean (.int (Bt P)) = .int (Bt P) := by
  rcases Bt_01 P with h | h <;> rw [h] <;> rfl
def bt_nests : List Cond := [.fieldLinkNest "BodyText$Text" 30 "BodyText$Row" "items" "[I" "BodyText", .fieldLinkNest "BodyText$Tokens" 35 "BodyText$Row" "count" "I" "BodyText", .fieldLinkNest "BodyText" 78 "BodyText$Row" "count" "I" "BodyText", .fieldLinkNest "BodyText" 44 "BodyText$Text" "length" "I" "BodyText", .fieldLinkNest "BodyText$Tokens" 41 "BodyText$Text" "length" "I" "BodyText", .fieldLinkNest "BodyText" 95 "BodyText$Tokens" "starts" "LBodyText$Row;" "BodyText", .fieldLinkNest "BodyText" 88 "BodyText$Tokens" "ends" "LBodyText$Row;" "BodyText", .fieldLinkNest "BodyText$Program" 70 "BodyText$Tokens" "kinds" "LBodyText$Row;" "BodyText", .fieldLinkNest "BodyText$Program" 94 "BodyText$Tokens" "instructions" "LBodyText$Row;" "BodyText", .fieldLinkNest "BodyText" 74 "BodyText$Program" "classNames" "LBodyText$Row;" "BodyText", .fieldLinkNest "BodyText" 98 "BodyText$Program" "memberKinds" "LBodyText$Row;" "BodyText", .fieldLinkNest "BodyText" 82 "BodyText$Program" "memberNames" "LBodyText$Row;" "BodyText", .fieldLinkNest "BodyText" 101 "BodyText$Program" "lineKinds" "LBodyText$Row;" "BodyText", .fieldLinkNest "BodyText" 85 "BodyText$Program" "lineStarts" "LBodyText$Row;" "BodyText", .fieldLinkNest "BodyText" 104 "BodyText$Program" "lineInstructions" "LBodyText$Row;" "BodyText", .fieldLinkNest "BodyText" 70 "BodyText$Program" "at" "I" "BodyText", .methodLinkNest "BodyText" 11 ⟨"BodyText$Text", "<init>", "()V"⟩ "BodyText", .methodLinkNest "BodyText$Text" 11 ⟨"BodyText$Row", "<init>", "()V"⟩ "BodyText", .methodLinkNest "BodyText$Tokens" 11 ⟨"BodyText$Row", "<init>", "()V"⟩ "BodyText", .methodLinkNest "BodyText$Program" 11 ⟨"BodyText$Row", "<init>", "()V"⟩ "BodyText"]
def bt_N (U : State) : Prop := ∀ w ∈ bt_nests, va_Nw w U
theorem bt_nests_on : ∀ w ∈ bt_nests, w.onTables = true := by decide +kernel
theorem bt_nf {U : State} {A : Array Value} (h : bt_N U) (w : Cond) (hw : w ∈ bt_nests) : w.before A U = true := va_Nw.use (bt_nests_on w hw) (h w hw)
theorem bt_nw {U : State} (h : bt_N U) (w : Cond) (hw : w ∈ bt_nests) : va_Nw w U := h w hw
theorem bt_N.same {u U : State} (hv : u.vm = U.vm) (h : bt_N u) : bt_N U := fun w hw => va_Nw.same (bt_nests_on w hw) hv (h w hw)
theorem bt_N.warm {s U : State} (hW : s.WarmedH U.vm) (h : bt_N s) : bt_N U := by
  intro w hw
  have h1 := h w hw
  simp only [bt_nests, List.mem_cons, List.not_mem_nil, or_false] at hw
  rcases hw with rfl | rfl | rfl | rfl | rfl | rfl | rfl | rfl | rfl | rfl | rfl | rfl | rfl | rfl | rfl | rfl | rfl | rfl | rfl | rfl <;> first | exact va_Nw.warmF hW h1 | exact va_Nw.warmM hW h1
/-- what a reading method is given: its cells, the tables -/
def bt_R (D : va_G) (cB cI : ClassId) (ws : va_W) (U : State) : Prop := va_P D vwCl ws U.heap ∧ va_K D vwCl [(cB, .byte), (cI, .int)] U ∧ bt_N U
theorem bt_R.calling {D : va_G} {cB cI : ClassId} {ws : va_W} {U : State} {g : JFrame} {mk : MethodId} {a : Array Value} (h : bt_R D cB cI ws U) : bt_R D cB cI ws (U.calling g mk a) := ⟨h.1, va_K.moved (u := U) (U := U.calling g mk a) (Vm.Alike.refl U.vm) h.2.1, bt_N.same (u := U) rfl h.2.2⟩
theorem bt_R.of {D : va_G} {cB cI : ClassId} {ws : va_W} {s U : State} {H : Heap} (hU : U.heap = H) (hW : s.WarmedH U.vm) (hP : va_P D vwCl ws H) (hK : va_K D vwCl [(cB, .byte), (cI, .int)] s) (hN : bt_N s) : bt_R D cB cI ws U := ⟨by rw [hU]; exact hP, va_K.moved hW.alike hK, hN.warm hW⟩
/-- what a writing method is given -/
def bt_M (D : va_G) (cB cI : ClassId) (sz : Nat) (ws : va_W) (U : State) : Prop := U.heap.size = sz ∧ va_P D vwCl ws U.heap ∧ va_K D vwCl [(cB, .byte), (cI, .int)] U ∧ bt_N U ∧ va_D (fun _ => True) ws
theorem bt_M.calling {D : va_G} {cB cI : ClassId} {sz : Nat} {ws : va_W} {U : State} {g : JFrame} {mk : MethodId} {a : Array Value} (h : bt_M D cB cI sz ws U) : bt_M D cB cI sz ws (U.calling g mk a) := ⟨h.1, h.2.1, va_K.moved (u := U) (U := U.calling g mk a) (Vm.Alike.refl U.vm) h.2.2.1, bt_N.same (u := U) rfl h.2.2.2.1, h.2.2.2.2⟩
theorem bt_M.of {D : va_G} {cB cI : ClassId} {A : Nat → Prop} {ws : va_W} {s U : State} {H : Heap} (hU : U.heap = H) (hW : s.WarmedH U.vm) (hP : va_P D vwCl ws H) (hK : va_K D vwCl [(cB, .byte), (cI, .int)] s) (hN : bt_N s) (hD : va_D A ws) : bt_M D cB cI H.size ws U := ⟨by rw [hU], by rw [hU]; exact hP, va_K.moved hW.alike hK, hN.warm hW, hD.weaken (fun _ _ _ _ => trivial)⟩
/-- what it leaves -/
def bt_L (D : va_G) (A : Nat → Prop) (ws : va_W) (t : State) : Prop := va_P D vwCl ws t.heap ∧ va_D A ws
