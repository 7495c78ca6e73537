/-- the token fits one of the kinds b -/
def XP (kd : Nat → Int32) (T : Nat) (b : Int32) (t : Nat) : Prop := t < T ∧ ¬ kd t &&& b = 0
noncomputable def seqT (X : Int32 → Nat → Prop) : List Int32 → Nat → Bool × Nat
  | [], a => (true, a)
  | b :: r, a => @ite _ (X b a) (Classical.propDecidable _) (seqT X r (a + 1)) (false, a)
theorem seqT_t {X : Int32 → Nat → Prop} {b : Int32} {r : List Int32} {a : Nat} (h : X b a) : seqT X (b :: r) a = seqT X r (a + 1) := by rw [seqT]; exact if_pos h
theorem seqT_f {X : Int32 → Nat → Prop} {b : Int32} {r : List Int32} {a : Nat} (h : ¬ X b a) : seqT X (b :: r) a = (false, a) := by rw [seqT]; exact if_neg h
abbrev PSt : Type := Nat × Nat × List Nat × List (Nat × Nat) × List (Nat × Int32)
noncomputable def clsF (X : Int32 → Nat → Prop) (a : Nat) (C : List Nat) (M : List (Nat × Nat)) (L : List (Nat × Int32)) : Bool × PSt :=
  if (seqT X [1024, 64] a).1 = false then (false, (seqT X [1024, 64] a).2, 0, C, M, L)
  else ((seqT X [2048, 64, 4] (a + 2)).1, (seqT X [2048, 64, 4] (a + 2)).2, (if (seqT X [2048, 64, 4] (a + 2)).1 then 1 else 0), C ++ [a + 1], M, L)
noncomputable def tyN (X : Int32 → Nat → Prop) : Nat → Nat → Nat
  | 0, a => a
  | n + 1, a => @ite _ (X 65856 a) (Classical.propDecidable _) (tyN X n (a + 1)) a
noncomputable def mkF (X : Int32 → Nat → Prop) (a : Nat) : Nat := @ite _ (X 4096 a) (Classical.propDecidable _) 0 (@ite _ (X 8192 a) (Classical.propDecidable _) 1 2)
noncomputable def rouF (X : Int32 → Nat → Prop) (T a : Nat) : Bool × Nat := @ite _ (X 1 a) (Classical.propDecidable _) (seqT X [2, 196928, 128, 4] (tyN X (T - (a + 1)) (a + 1))) (false, a)
noncomputable def memF (X : Int32 → Nat → Prop) (T a : Nat) (C : List Nat) (M : List (Nat × Nat)) (L : List (Nat × Int32)) : Bool × PSt :=
  if (seqT X [28672, 32] a).1 = false then (false, (seqT X [28672, 32] a).2, 1, C, M, L)
  else if mkF X a = 0 then ((seqT X [65856] (a + 2)).1, (seqT X [65856] (a + 2)).2, 1, C, M ++ [(mkF X a, a + 1)], L)
  else ((rouF X T (a + 2)).1, (rouF X T (a + 2)).2, (if (rouF X T (a + 2)).1 then 2 else 1), C, M ++ [(mkF X a, a + 1)], L)
def opsI : List Nat := [128, 0, 128, 128, 128, 0, 0, 0, 0, 0, 0, 0, 0, 0, 0, 0, 0, 0, 0, 32, 32, 32, 32, 32, 32, 32, 32, 32, 32, 32, 64, 65600, 0, 0, 0, 512, 512, 320, 320, 512, 512, 0, 0, 0, 0, 0]
/-- what the operands of instruction j must be -/
def opsL (j : Nat) : List Int32 := (if opsI.getD j 0 = 0 then [] else [nI (opsI.getD j 0)]) ++ (if j = 4 then [128] else [])
noncomputable def oprF (X : Int32 → Nat → Prop) (k : Int32) (a : Nat) : Bool × Nat := if k = -1 then (false, a) else seqT X (opsL k.toNatClampNeg) a
def lcF (k : Int32) : Int32 := if k = -1 then -1 else k + 2
noncomputable def linF (X : Int32 → Nat → Prop) (id : Nat → Int32) (a : Nat) (C : List Nat) (M : List (Nat × Nat)) (L : List (Nat × Int32)) : Bool × PSt :=
  @ite _ (X 32 a) (Classical.propDecidable _)
    (@ite _ (X 16 (a + 1)) (Classical.propDecidable _) (true, a + 2, 2, C, M, L ++ [(a, 0)])
      (@ite _ (X 32768 a) (Classical.propDecidable _) ((seqT X [32, 32, 32, 64] (a + 1)).1, (seqT X [32, 32, 32, 64] (a + 1)).2, 2, C, M, L ++ [(a, 1)])
        ((oprF X (id a) (a + 1)).1, (oprF X (id a) (a + 1)).2, 2, C, M, L ++ [(a, lcF (id a))])))
    (false, a, 2, C, M, L)
noncomputable def stepF (X : Int32 → Nat → Prop) (T : Nat) (id : Nat → Int32) (a lv : Nat) (C : List Nat) (M : List (Nat × Nat)) (L : List (Nat × Int32)) : Bool × PSt :=
  if lv = 0 then clsF X a C M L
  else @ite _ (X 8 a) (Classical.propDecidable _) (true, a + 1, lv - 1, C, M, L) (if lv = 1 then memF X T a C M L else linF X id a C M L)
noncomputable def runF (X : Int32 → Nat → Prop) (T : Nat) (id : Nat → Int32) : Nat → PSt → Bool × PSt
  | 0, x => (false, x)
  | n + 1, x => if x.2.1 = 0 ∧ T ≤ x.1 then (true, x) else if (stepF X T id x.1 x.2.1 x.2.2.1 x.2.2.2.1 x.2.2.2.2).1 = true then runF X T id n (stepF X T id x.1 x.2.1 x.2.2.1 x.2.2.2.1 x.2.2.2.2).2 else stepF X T id x.1 x.2.1 x.2.2.1 x.2.2.2.1 x.2.2.2.2
/-- a line as the class takes it: where the text ends behind the first word its kind stays open -/
noncomputable def linC (X : Int32 → Nat → Prop) (T : Nat) (id : Nat → Int32) (a : Nat) (C : List Nat) (M : List (Nat × Nat)) (L : List (Nat × Int32)) : Bool × PSt :=
  @ite _ (X 32 a) (Classical.propDecidable _)
    (@ite _ (X 16 (a + 1)) (Classical.propDecidable _) (true, a + 2, 2, C, M, L ++ [(a, 0)])
      (if T ≤ a + 1 then (false, a + 1, 2, C, M, L ++ [(a, -1)]) else
      (@ite _ (X 32768 a) (Classical.propDecidable _) ((seqT X [32, 32, 32, 64] (a + 1)).1, (seqT X [32, 32, 32, 64] (a + 1)).2, 2, C, M, L ++ [(a, 1)])
        ((oprF X (id a) (a + 1)).1, (oprF X (id a) (a + 1)).2, 2, C, M, L ++ [(a, lcF (id a))]))))
    (false, a, 2, C, M, L)
noncomputable def stepC (X : Int32 → Nat → Prop) (T : Nat) (id : Nat → Int32) (a lv : Nat) (C : List Nat) (M : List (Nat × Nat)) (L : List (Nat × Int32)) : Bool × PSt :=
  if lv = 0 then clsF X a C M L
  else @ite _ (X 8 a) (Classical.propDecidable _) (true, a + 1, lv - 1, C, M, L) (if lv = 1 then memF X T a C M L else linC X T id a C M L)
noncomputable def runC (X : Int32 → Nat → Prop) (T : Nat) (id : Nat → Int32) : Nat → PSt → Bool × PSt
  | 0, x => (false, x)
  | n + 1, x => if x.2.1 = 0 ∧ T ≤ x.1 then (true, x) else if (stepC X T id x.1 x.2.1 x.2.2.1 x.2.2.2.1 x.2.2.2.2).1 = true then runC X T id n (stepC X T id x.1 x.2.1 x.2.2.1 x.2.2.2.1 x.2.2.2.2).2 else stepC X T id x.1 x.2.1 x.2.2.1 x.2.2.2.1 x.2.2.2.2
def lkF (c : Int32) : Int32 := if c < 2 then c else 2
def liF (c : Int32) : Int32 := if c < 2 then -1 else c - 2
/-- what the program's rows hold -/
def rwP (C : List Nat) (M : List (Nat × Nat)) (L : List (Nat × Int32)) (F : Nat → Nat → Int32) : Prop := (∀ j x, C[j]? = some x → F 0 j = nI x) ∧ (∀ j x, M[j]? = some x → F 1 j = nI x.1 ∧ F 2 j = nI x.2) ∧ (∀ j x, L[j]? = some x → F 3 j = lkF x.2 ∧ F 4 j = nI x.1 ∧ F 5 j = liF x.2)
def potF (nC nM nL : Nat) (C : List Nat) (M : List (Nat × Nat)) (L : List (Nat × Int32)) : Nat := up nC C.length + 2 * up nM M.length + 3 * up nL L.length
set_option maxHeartbeats 4000000 in
set_option maxRecDepth 100000 in
/-- Program.take(b) -/
theorem kX0_take (l : Launch) (D : va_G) (cB cI : ClassId) (pg t R0 R1 R2 R3 R4 R5 : Nat) (tx r1 r2 r3 r4 : Nat) (wd : Int32) (q : Nat → Nat) (T nT : Nat) (kd : Nat → Int32) (a lv : Nat) (b : Int32) (hnT : nT ≤ 16000) (hT : T ≤ nT) (ha : a < 2 ^ 30) (sz : Nat) : Met l yX0_take wsX0_take ({ frames := 1, cells := 0, slots := 0, locals := 22 }) (va_Pc [.ref pg, .int b] (bt_M D cB cI sz [(pg, .inr (0, [.ref t, .ref R0, .ref R1, .ref R2, .ref R3, .ref R4, .ref R5, .int (nI a), .int (nI lv)])), (t, .inr (3, [.ref tx, .ref r1, .ref r2, .ref r3, .ref r4, .int wd])), (r3, .inr (1, [.ref (q 2), .int (nI T)])), ((q 2), .inl (cI, nT, .inl kd))])) (va_Qi (S := Nat) (fun r u => (XP kd T b a ∧ r = nI 1 ∧ u = a + 1) ∨ (¬ XP kd T b a ∧ r = nI 0 ∧ u = a)) (fun u t9 => bt_L D (va_A [(pg, .inr (0, [.ref t, .ref R0, .ref R1, .ref R2, .ref R3, .ref R4, .ref R5, .int (nI a), .int (nI lv)])), (t, .inr (3, [.ref tx, .ref r1, .ref r2, .ref r3, .ref r4, .int wd])), (r3, .inr (1, [.ref (q 2), .int (nI T)])), ((q 2), .inl (cI, nT, .inl kd))] sz) ((fun u => [(pg, .inr (0, [.ref t, .ref R0, .ref R1, .ref R2, .ref R3, .ref R4, .ref R5, .int (nI u), .int (nI lv)])), (t, .inr (3, [.ref tx, .ref r1, .ref r2, .ref r3, .ref r4, .int wd])), (r3, .inr (1, [.ref (q 2), .int (nI T)])), ((q 2), .inl (cI, nT, .inl kd))]) u) t9) (va_A [(pg, .inr (0, [.ref t, .ref R0, .ref R1, .ref R2, .ref R3, .ref R4, .ref R5, .int (nI a), .int (nI lv)])), (t, .inr (3, [.ref tx, .ref r1, .ref r2, .ref r3, .ref r4, .int wd])), (r3, .inr (1, [.ref (q 2), .int (nI T)])), ((q 2), .inl (cI, nT, .inl kd))] sz)) 0 0 (va_A [(pg, .inr (0, [.ref t, .ref R0, .ref R1, .ref R2, .ref R3, .ref R4, .ref R5, .int (nI a), .int (nI lv)])), (t, .inr (3, [.ref tx, .ref r1, .ref r2, .ref r3, .ref r4, .int wd])), (r3, .inr (1, [.ref (q 2), .int (nI T)])), ((q 2), .inl (cI, nT, .inl kd))] sz) := by
  refine Met.ofW (cc := cX0_take) (maxL := 2) (ret := (some .boolean)) (by decide) rfl ?_
  intro p e s m args below meth c s₁ B hml hv
  obtain ⟨rfl, hsz, hP, hK, hN, hD0⟩ := hv
  have hx := B.exec
  have hb := B.bytes
  have hr := B.returns
  have hts := atoms_spec (ws := wsX0_take) B.pre
  have hown : s.vm.findClass RX0 = some m.cls := findClass_of_methodNamed B.named
  have hlocks := B.notSynchronized
  subst hsz
  have hD := hD0.self (sz := s.heap.size)
  generalize hAe : va_A [(pg, .inr (0, [.ref t, .ref R0, .ref R1, .ref R2, .ref R3, .ref R4, .ref R5, .int (nI a), .int (nI lv)])), (t, .inr (3, [.ref tx, .ref r1, .ref r2, .ref r3, .ref r4, .int wd])), (r3, .inr (1, [.ref (q 2), .int (nI T)])), ((q 2), .inl (cI, nT, .inl kd))] s.heap.size = A at hD ⊢
  have hA : ∀ q : Nat, s.heap.size ≤ q → A q := fun q h => by rw [← hAe]; exact Or.inr h
  have hS : va_S A s.heap s.heap [] := va_S.rf
  have hl := lv_entry ([.ref pg, .int b]) (n := 2) (Nat.le_of_ble_eq_true rfl)
  rw [lg_entry_eq]
  generalize (lg_sl ([.ref pg, .int b]) ++ List.replicate (2 - (lg_sl ([.ref pg, .int b])).length) Slot.unset).toArray = ls at hl ⊢
  have hl : lv_has ls 2 [(0, .ref pg), (1, .int b)] := hl
  refine lv_aload_n hx hb dX0_take_0 rfl (lv_at hl 0 rfl) ?_
  refine va_get (D := D) (ci := 0) (v := .ref t) (C := RX0) (T := TX0) (N := 9) hx hb hts (by decide +kernel) hown hK hP 0 rfl rfl 0 (by decide) (hts (.fieldLink RX0 40 "BodyText$Program" "tokens" "LBodyText$Tokens;") (by decide +kernel)) (fun _ h9 => h9) rfl dX0_take_1 ?_
  refine va_getN (D := D) (ci := 3) (v := .ref r3) (C := RX3) (T := TX3) (N := 6) hx hb hts (by decide +kernel) hown hK hP 1 rfl rfl 3 (by decide) (bt_nf hN (.fieldLinkNest "BodyText$Program" 70 "BodyText$Tokens" "kinds" "LBodyText$Row;" "BodyText") (by decide +kernel)) (fun _ h9 => h9) rfl dX0_take_4 ?_
  refine lv_aload_n hx hb dX0_take_7 rfl (lv_at hl 0 rfl) ?_
  refine va_get (D := D) (ci := 0) (v := .int (nI a)) (C := RX0) (T := TX0) (N := 9) hx hb hts (by decide +kernel) hown hK hP 0 rfl rfl 7 (by decide) (hts (.fieldLink RX0 33 "BodyText$Program" "at" "I") (by decide +kernel)) (fun _ h9 => h9) rfl dX0_take_8 ?_
  refine lv_iload_n hx hb dX0_take_11 rfl (lv_at hl 1 rfl) ?_
  have hPc := hP.sub (ws' := [(r3, .inr (1, [.ref (q 2), .int (nI T)])), ((q 2), .inl (cI, nT, .inl kd))]) [2, 3] rfl
  refine vp_callSi (va_runV (As := [.int (nI a), .int b]) (rest := []) ⟨hx, hb, hml, hown, hts⟩ (kX1_hasAny l D cB cI r3 (q 2) nT kd T a b hnT hT (by omega)) (cwV 2 hts gX0_take_X1_hasAny rfl rfl rfl (by decide +kernel) ⟨Nat.le_of_ble_eq_true rfl, Nat.le_of_ble_eq_true rfl⟩) ⟨fun a U g mk q => ⟨q.1, q.2.calling⟩, va_recv hK hPc (ci := 1) (q0 := 0) rfl rfl, fun U hU hW => ⟨rfl, bt_R.of hU hW hPc hK hN⟩⟩ rfl rfl hl.1 rfl (lv_room (Nat.le_of_ble_eq_true rfl)) dX0_take_12 ⟨(show 0 + 0 ≤ 0 by omega), (show 0 + 0 ≤ 0 by omega)⟩).run (fun r_12 hr_12 => ?_)
  subst hr_12
  refine lv_if_ne (tgt := 20) hx hb dX0_take_15 (by decide) (fun c_15 => ?_) (fun c_15 => ?_)
  · have h_15 : XP kd T b a := Bt_ne0.mp c_15
    refine lv_aload_n hx hb dX0_take_20 rfl (lv_at hl 0 rfl) ?_
    refine lv_dup hx hb dX0_take_21 rfl ?_
    refine va_get (D := D) (ci := 0) (v := .int (nI a)) (C := RX0) (T := TX0) (N := 9) hx hb hts (by decide +kernel) hown hK hP 0 rfl rfl 7 (by decide) (hts (.fieldLink RX0 33 "BodyText$Program" "at" "I") (by decide +kernel)) (fun _ h9 => h9) rfl dX0_take_22 ?_
    refine lv_iconst (v := nI 1) hx hb dX0_take_25 (by decide) ?_
    refine lv_iadd hx hb dX0_take_26 ?_
    refine bt_topi (y := nI (a + 1)) (nI_add _ _) ?_
    refine va_put (D := D) (ci := 0) (v := .int (nI (a + 1))) (ty := .int) (C := RX0) (T := TX0) (N := 9) hx hb hts (by decide +kernel) tyX0 tyX0_ok nmX0 hown hK hP hD hS 0 rfl rfl 7 (by decide) (hts (.fieldLink RX0 33 "BodyText$Program" "at" "I") (by decide +kernel)) (fun _ h9 => h9) rfl (by decide +kernel) rfl rfl (Nat.le_of_ble_eq_true rfl) dX0_take_27 (fun H locs hP hD hS => ?_)
    have hP : va_P D vwCl [(pg, .inr (0, [.ref t, .ref R0, .ref R1, .ref R2, .ref R3, .ref R4, .ref R5, .int (nI (a + 1)), .int (nI lv)])), (t, .inr (3, [.ref tx, .ref r1, .ref r2, .ref r3, .ref r4, .int wd])), (r3, .inr (1, [.ref (q 2), .int (nI T)])), ((q 2), .inl (cI, nT, .inl kd))] H := hP
    have hD : va_D A [(pg, .inr (0, [.ref t, .ref R0, .ref R1, .ref R2, .ref R3, .ref R4, .ref R5, .int (nI (a + 1)), .int (nI lv)])), (t, .inr (3, [.ref tx, .ref r1, .ref r2, .ref r3, .ref r4, .int wd])), (r3, .inr (1, [.ref (q 2), .int (nI T)])), ((q 2), .inl (cI, nT, .inl kd))] := hD
    refine lv_iconst (v := nI 1) hx hb dX0_take_30 (by decide) ?_
    have hP9 := hP.sub (ws' := [(pg, .inr (0, [.ref t, .ref R0, .ref R1, .ref R2, .ref R3, .ref R4, .ref R5, .int (nI (a + 1)), .int (nI lv)])), (t, .inr (3, [.ref tx, .ref r1, .ref r2, .ref r3, .ref r4, .int wd])), (r3, .inr (1, [.ref (q 2), .int (nI T)])), ((q 2), .inl (cI, nT, .inl kd))]) [0, 1, 2, 3] rfl
    have hD9 := hD.sub (ws' := [(pg, .inr (0, [.ref t, .ref R0, .ref R1, .ref R2, .ref R3, .ref R4, .ref R5, .int (nI (a + 1)), .int (nI lv)])), (t, .inr (3, [.ref tx, .ref r1, .ref r2, .ref r3, .ref r4, .int wd])), (r3, .inr (1, [.ref (q 2), .int (nI T)])), ((q 2), .inl (cI, nT, .inl kd))]) [0, 1, 2, 3] (by decide) rfl
    refine W.widen (k := 0) (n := 0) (show 0 ≤ 0 by omega) (show 0 ≤ 0 by omega) ?_
    exact W.zret (v := nI 1) hx hb hr (by decide) (fun t9 ht hW => ⟨⟨nI 1, a + 1, rfl, Or.inl ⟨h_15, rfl, rfl⟩, by rw [ht]; exact hP9, hD9⟩, hS.F ht⟩) hS.2.2 dX0_take_31
  · have h_15 : ¬ (XP kd T b a) := Bt_eq0.mp c_15
    refine lv_iconst (v := nI 0) hx hb dX0_take_18 (by decide) ?_
    have hP9 := hP.sub (ws' := [(pg, .inr (0, [.ref t, .ref R0, .ref R1, .ref R2, .ref R3, .ref R4, .ref R5, .int (nI a), .int (nI lv)])), (t, .inr (3, [.ref tx, .ref r1, .ref r2, .ref r3, .ref r4, .int wd])), (r3, .inr (1, [.ref (q 2), .int (nI T)])), ((q 2), .inl (cI, nT, .inl kd))]) [0, 1, 2, 3] rfl
    have hD9 := hD.sub (ws' := [(pg, .inr (0, [.ref t, .ref R0, .ref R1, .ref R2, .ref R3, .ref R4, .ref R5, .int (nI a), .int (nI lv)])), (t, .inr (3, [.ref tx, .ref r1, .ref r2, .ref r3, .ref r4, .int wd])), (r3, .inr (1, [.ref (q 2), .int (nI T)])), ((q 2), .inl (cI, nT, .inl kd))]) [0, 1, 2, 3] (by decide) rfl
    refine W.widen (k := 0) (n := 0) (show 0 ≤ 0 by omega) (show 0 ≤ 0 by omega) ?_
    exact W.zret (v := nI 0) hx hb hr (by decide) (fun t9 ht hW => ⟨⟨nI 0, a, rfl, Or.inr ⟨h_15, rfl, rfl⟩, by rw [ht]; exact hP9, hD9⟩, hS.F ht⟩) hS.2.2 dX0_take_19
set_option maxHeartbeats 4000000 in
set_option maxRecDepth 100000 in
/-- Program.memberKind() -/
theorem kX0_memberKind (l : Launch) (D : va_G) (cB cI : ClassId) (pg t R0 R1 R2 R3 R4 R5 : Nat) (tx r1 r2 r3 r4 : Nat) (wd : Int32) (q : Nat → Nat) (T nT : Nat) (kd : Nat → Int32) (a lv : Nat) (hnT : nT ≤ 16000) (hT : T ≤ nT) (ha : a < 2 ^ 30) : Met l yX0_memberKind wsX0_memberKind ({ frames := 1, cells := 0, slots := 0, locals := 22 }) (va_Pc [.ref pg] (bt_R D cB cI [(pg, .inr (0, [.ref t, .ref R0, .ref R1, .ref R2, .ref R3, .ref R4, .ref R5, .int (nI a), .int (nI lv)])), (t, .inr (3, [.ref tx, .ref r1, .ref r2, .ref r3, .ref r4, .int wd])), (r3, .inr (1, [.ref (q 2), .int (nI T)])), ((q 2), .inl (cI, nT, .inl kd))])) (vp_Si (fun r => r = nI (mkF (XP kd T) a))) 0 0 (fun _ => False) := by
  refine Met.ofW (cc := cX0_memberKind) (maxL := 1) (ret := (some .int)) (by decide) rfl ?_
  intro p e s m args below meth c s₁ B hml hv
  obtain ⟨rfl, hP, hK, hN⟩ := hv
  have hx := B.exec
  have hb := B.bytes
  have hr := B.returns
  have hts := atoms_spec (ws := wsX0_memberKind) B.pre
  have hown : s.vm.findClass RX0 = some m.cls := findClass_of_methodNamed B.named
  have hlocks := B.notSynchronized
  have hl := lv_entry ([.ref pg]) (n := 1) (Nat.le_of_ble_eq_true rfl)
  rw [lg_entry_eq]
  generalize (lg_sl ([.ref pg]) ++ List.replicate (1 - (lg_sl ([.ref pg])).length) Slot.unset).toArray = ls at hl ⊢
  have hl : lv_has ls 1 [(0, .ref pg)] := hl
  refine lv_aload_n hx hb dX0_memberKind_0 rfl (lv_at hl 0 rfl) ?_
  refine va_get (D := D) (ci := 0) (v := .ref t) (C := RX0) (T := TX0) (N := 9) hx hb hts (by decide +kernel) hown hK hP 0 rfl rfl 0 (by decide) (hts (.fieldLink RX0 40 "BodyText$Program" "tokens" "LBodyText$Tokens;") (by decide +kernel)) (fun _ h9 => h9) rfl dX0_memberKind_1 ?_
  refine va_getN (D := D) (ci := 3) (v := .ref r3) (C := RX3) (T := TX3) (N := 6) hx hb hts (by decide +kernel) hown hK hP 1 rfl rfl 3 (by decide) (bt_nf hN (.fieldLinkNest "BodyText$Program" 70 "BodyText$Tokens" "kinds" "LBodyText$Row;" "BodyText") (by decide +kernel)) (fun _ h9 => h9) rfl dX0_memberKind_4 ?_
  refine lv_aload_n hx hb dX0_memberKind_7 rfl (lv_at hl 0 rfl) ?_
  refine va_get (D := D) (ci := 0) (v := .int (nI a)) (C := RX0) (T := TX0) (N := 9) hx hb hts (by decide +kernel) hown hK hP 0 rfl rfl 7 (by decide) (hts (.fieldLink RX0 33 "BodyText$Program" "at" "I") (by decide +kernel)) (fun _ h9 => h9) rfl dX0_memberKind_8 ?_
  refine lv_sipush (v := nI 4096) hx hb dX0_memberKind_11 (by decide) ?_
  have hPc := hP.sub (ws' := [(r3, .inr (1, [.ref (q 2), .int (nI T)])), ((q 2), .inl (cI, nT, .inl kd))]) [2, 3] rfl
  refine vp_callSi (va_runV (As := [.int (nI a), .int (nI 4096)]) (rest := []) ⟨hx, hb, hml, hown, hts⟩ (kX1_hasAny l D cB cI r3 (q 2) nT kd T a (nI 4096) hnT hT (by omega)) (cwV 2 hts gX0_memberKind_X1_hasAny rfl rfl rfl (by decide +kernel) ⟨Nat.le_of_ble_eq_true rfl, Nat.le_of_ble_eq_true rfl⟩) ⟨fun a U g mk q => ⟨q.1, q.2.calling⟩, va_recv hK hPc (ci := 1) (q0 := 0) rfl rfl, fun U hU hW => ⟨rfl, bt_R.of hU hW hPc hK hN⟩⟩ rfl rfl hl.1 rfl (lv_room (Nat.le_of_ble_eq_true rfl)) dX0_memberKind_14 ⟨Nat.zero_le _, Nat.zero_le _⟩).run (fun r_14 hr_14 => ?_)
  subst hr_14
  refine lv_if_eq (tgt := 22) hx hb dX0_memberKind_17 (by decide) (fun c_17 => ?_) (fun c_17 => ?_)
  · have h_17 : ¬ (XP kd T 4096 a) := Bt_eq0.mp c_17
    refine lv_aload_n hx hb dX0_memberKind_22 rfl (lv_at hl 0 rfl) ?_
    refine va_get (D := D) (ci := 0) (v := .ref t) (C := RX0) (T := TX0) (N := 9) hx hb hts (by decide +kernel) hown hK hP 0 rfl rfl 0 (by decide) (hts (.fieldLink RX0 40 "BodyText$Program" "tokens" "LBodyText$Tokens;") (by decide +kernel)) (fun _ h9 => h9) rfl dX0_memberKind_23 ?_
    refine va_getN (D := D) (ci := 3) (v := .ref r3) (C := RX3) (T := TX3) (N := 6) hx hb hts (by decide +kernel) hown hK hP 1 rfl rfl 3 (by decide) (bt_nf hN (.fieldLinkNest "BodyText$Program" 70 "BodyText$Tokens" "kinds" "LBodyText$Row;" "BodyText") (by decide +kernel)) (fun _ h9 => h9) rfl dX0_memberKind_26 ?_
    refine lv_aload_n hx hb dX0_memberKind_29 rfl (lv_at hl 0 rfl) ?_
    refine va_get (D := D) (ci := 0) (v := .int (nI a)) (C := RX0) (T := TX0) (N := 9) hx hb hts (by decide +kernel) hown hK hP 0 rfl rfl 7 (by decide) (hts (.fieldLink RX0 33 "BodyText$Program" "at" "I") (by decide +kernel)) (fun _ h9 => h9) rfl dX0_memberKind_30 ?_
    refine lv_sipush (v := nI 8192) hx hb dX0_memberKind_33 (by decide) ?_
    have hPc := hP.sub (ws' := [(r3, .inr (1, [.ref (q 2), .int (nI T)])), ((q 2), .inl (cI, nT, .inl kd))]) [2, 3] rfl
    refine vp_callSi (va_runV (As := [.int (nI a), .int (nI 8192)]) (rest := []) ⟨hx, hb, hml, hown, hts⟩ (kX1_hasAny l D cB cI r3 (q 2) nT kd T a (nI 8192) hnT hT (by omega)) (cwV 2 hts gX0_memberKind_X1_hasAny rfl rfl rfl (by decide +kernel) ⟨Nat.le_of_ble_eq_true rfl, Nat.le_of_ble_eq_true rfl⟩) ⟨fun a U g mk q => ⟨q.1, q.2.calling⟩, va_recv hK hPc (ci := 1) (q0 := 0) rfl rfl, fun U hU hW => ⟨rfl, bt_R.of hU hW hPc hK hN⟩⟩ rfl rfl hl.1 rfl (lv_room (Nat.le_of_ble_eq_true rfl)) dX0_memberKind_36 ⟨Nat.zero_le _, Nat.zero_le _⟩).run (fun r_36 hr_36 => ?_)
    subst hr_36
    refine lv_if_eq (tgt := 46) hx hb dX0_memberKind_39 (by decide) (fun c_39 => ?_) (fun c_39 => ?_)
    · have h_39 : ¬ (XP kd T 8192 a) := Bt_eq0.mp c_39
      refine lv_iconst (v := nI 2) hx hb dX0_memberKind_46 (by decide) ?_
      exact W.iret (v := nI 2) hx hb hr (fun t9 ht hW => ⟨nI 2, rfl, (by unfold mkF; rw [if_neg h_17, if_neg h_39]), ht⟩) (fun _ h => by cases h) dX0_memberKind_47
    · have h_39 : XP kd T 8192 a := Bt_ne0.mp c_39
      refine lv_iconst (v := nI 1) hx hb dX0_memberKind_42 (by decide) ?_
      refine lv_goto (tgt := 47) hx hb dX0_memberKind_43 (by decide) ?_
      exact W.iret (v := nI 1) hx hb hr (fun t9 ht hW => ⟨nI 1, rfl, (by unfold mkF; rw [if_neg h_17, if_pos h_39]), ht⟩) (fun _ h => by cases h) dX0_memberKind_47
  · have h_17 : XP kd T 4096 a := Bt_ne0.mp c_17
    refine lv_iconst (v := nI 0) hx hb dX0_memberKind_20 (by decide) ?_
    exact W.iret (v := nI 0) hx hb hr (fun t9 ht hW => ⟨nI 0, rfl, (by unfold mkF; rw [if_pos h_17]), ht⟩) (fun _ h => by cases h) dX0_memberKind_21
set_option maxHeartbeats 4000000 in
set_option maxRecDepth 100000 in
/-- Program.addLine -/
theorem kX0_addLine (l : Launch) (D : va_G) (cB cI : ClassId) (pg t R0 R1 R2 R3 R4 R5 a lv : Nat) (Q : Nat → Nat) (n k : Nat) (F : Nat → Nat → Int32) (x1 x2 x3 : Int32) (hc : cp n = n) (hk : k ≤ n) (hk2 : k < 16000) (sz : Nat) : Met l yX0_addLine wsX0_addLine ({ frames := 3, cells := (3 * (up n (k + 1) - n)), slots := (9 * (up n (k + 1) - n)), locals := 83 }) (va_Pc [.ref pg, .int x1, .int x2, .int x3] (bt_M D cB cI sz [(pg, .inr (0, [.ref t, .ref R0, .ref R1, .ref R2, .ref R3, .ref R4, .ref R5, .int (nI a), .int (nI lv)])), (R3, .inr (1, [.ref (Q 3), .int (nI k)])), ((Q 3), .inl (cI, n, .inl (F 3))), (R4, .inr (1, [.ref (Q 4), .int (nI k)])), ((Q 4), .inl (cI, n, .inl (F 4))), (R5, .inr (1, [.ref (Q 5), .int (nI k)])), ((Q 5), .inl (cI, n, .inl (F 5)))])) (va_Qv (S := (Nat → Nat) × (Nat → Nat → Int32)) (fun u => (∀ i j, 3 ≤ i → i < 6 → j < k → u.2 i j = F i j) ∧ u.2 4 k = x1 ∧ u.2 3 k = x2 ∧ u.2 5 k = x3) (fun u t9 => bt_L D (va_A [(pg, .inr (0, [.ref t, .ref R0, .ref R1, .ref R2, .ref R3, .ref R4, .ref R5, .int (nI a), .int (nI lv)])), (R3, .inr (1, [.ref (Q 3), .int (nI k)])), ((Q 3), .inl (cI, n, .inl (F 3))), (R4, .inr (1, [.ref (Q 4), .int (nI k)])), ((Q 4), .inl (cI, n, .inl (F 4))), (R5, .inr (1, [.ref (Q 5), .int (nI k)])), ((Q 5), .inl (cI, n, .inl (F 5)))] sz) ((fun u => [(pg, .inr (0, [.ref t, .ref R0, .ref R1, .ref R2, .ref R3, .ref R4, .ref R5, .int (nI a), .int (nI lv)])), (R3, .inr (1, [.ref (u.1 3), .int (nI (k + 1))])), (u.1 3, .inl (cI, up n (k + 1), .inl (u.2 3))), (R4, .inr (1, [.ref (u.1 4), .int (nI (k + 1))])), (u.1 4, .inl (cI, up n (k + 1), .inl (u.2 4))), (R5, .inr (1, [.ref (u.1 5), .int (nI (k + 1))])), (u.1 5, .inl (cI, up n (k + 1), .inl (u.2 5)))]) u) t9) (va_A [(pg, .inr (0, [.ref t, .ref R0, .ref R1, .ref R2, .ref R3, .ref R4, .ref R5, .int (nI a), .int (nI lv)])), (R3, .inr (1, [.ref (Q 3), .int (nI k)])), ((Q 3), .inl (cI, n, .inl (F 3))), (R4, .inr (1, [.ref (Q 4), .int (nI k)])), ((Q 4), .inl (cI, n, .inl (F 4))), (R5, .inr (1, [.ref (Q 5), .int (nI k)])), ((Q 5), .inl (cI, n, .inl (F 5)))] sz)) (3 * (up n (k + 1) - n)) (9 * (up n (k + 1) - n)) (va_A [(pg, .inr (0, [.ref t, .ref R0, .ref R1, .ref R2, .ref R3, .ref R4, .ref R5, .int (nI a), .int (nI lv)])), (R3, .inr (1, [.ref (Q 3), .int (nI k)])), ((Q 3), .inl (cI, n, .inl (F 3))), (R4, .inr (1, [.ref (Q 4), .int (nI k)])), ((Q 4), .inl (cI, n, .inl (F 4))), (R5, .inr (1, [.ref (Q 5), .int (nI k)])), ((Q 5), .inl (cI, n, .inl (F 5)))] sz) := by
  refine Met.ofW (cc := cX0_addLine) (maxL := 4) (ret := none) (by decide) rfl ?_
  intro p e s m args below meth c s₁ B hml hv
  obtain ⟨rfl, hsz, hP, hK, hN, hD0⟩ := hv
  have hx := B.exec
  have hb := B.bytes
  have hr := B.returns
  have hts := atoms_spec (ws := wsX0_addLine) B.pre
  have hown : s.vm.findClass RX0 = some m.cls := findClass_of_methodNamed B.named
  have hlocks := B.notSynchronized
  subst hsz
  have hD := hD0.self (sz := s.heap.size)
  generalize hAe : va_A [(pg, .inr (0, [.ref t, .ref R0, .ref R1, .ref R2, .ref R3, .ref R4, .ref R5, .int (nI a), .int (nI lv)])), (R3, .inr (1, [.ref (Q 3), .int (nI k)])), ((Q 3), .inl (cI, n, .inl (F 3))), (R4, .inr (1, [.ref (Q 4), .int (nI k)])), ((Q 4), .inl (cI, n, .inl (F 4))), (R5, .inr (1, [.ref (Q 5), .int (nI k)])), ((Q 5), .inl (cI, n, .inl (F 5)))] s.heap.size = A at hD ⊢
  have hA : ∀ q : Nat, s.heap.size ≤ q → A q := fun q h => by rw [← hAe]; exact Or.inr h
  have hS : va_S A s.heap s.heap [] := va_S.rf
  have hl := lv_entry ([.ref pg, .int x1, .int x2, .int x3]) (n := 4) (Nat.le_of_ble_eq_true rfl)
  rw [lg_entry_eq]
  generalize (lg_sl ([.ref pg, .int x1, .int x2, .int x3]) ++ List.replicate (4 - (lg_sl ([.ref pg, .int x1, .int x2, .int x3])).length) Slot.unset).toArray = ls at hl ⊢
  have hl : lv_has ls 4 [(0, .ref pg), (1, .int x1), (2, .int x2), (3, .int x3)] := hl
  refine lv_aload_n hx hb dX0_addLine_0 rfl (lv_at hl 0 rfl) ?_
  refine va_get (D := D) (ci := 0) (v := .ref R4) (C := RX0) (T := TX0) (N := 9) hx hb hts (by decide +kernel) hown hK hP 0 rfl rfl 5 (by decide) (hts (.fieldLink RX0 27 "BodyText$Program" "lineStarts" "LBodyText$Row;") (by decide +kernel)) (fun _ h9 => h9) rfl dX0_addLine_1 ?_
  refine lv_iload_n hx hb dX0_addLine_4 rfl (lv_at hl 1 rfl) ?_
  have hPc := hP.sub (ws' := [(R4, .inr (1, [.ref (Q 4), .int (nI k)])), ((Q 4), .inl (cI, n, .inl (F 4)))]) [3, 4] rfl
  have hDc := hD.sub (ws' := [(R4, .inr (1, [.ref (Q 4), .int (nI k)])), ((Q 4), .inl (cI, n, .inl (F 4)))]) [3, 4] (by decide) rfl
  have hFc := va_free (wc := [(R4, .inr (1, [.ref (Q 4), .int (nI k)])), ((Q 4), .inl (cI, n, .inl (F 4)))]) hD hS hA [3, 4] rfl
  refine va_callv (va_runV (As := [.int x1]) (rest := []) ⟨hx, hb, hml, hown, hts⟩ (kX1_add l D cB cI R4 (Q 4) n (F 4) k x1 hc (by omega) (by omega) s.heap.size) (cwV 1 hts gX0_addLine_X1_add rfl rfl rfl (by decide +kernel) ⟨Nat.le_of_ble_eq_true rfl, Nat.le_of_ble_eq_true rfl⟩) ⟨fun a U g mk q => ⟨q.1, q.2.calling⟩, va_recv hK hPc (ci := 1) (q0 := 0) rfl rfl, fun U hU hW => ⟨rfl, bt_M.of hU hW hPc hK hN hDc⟩⟩ rfl rfl hl.1 rfl (lv_room (Nat.le_of_ble_eq_true rfl)) dX0_addLine_5 ⟨(show 0 + (up n (k + 1) - n) ≤ (3 * (up n (k + 1) - n)) by omega), (show 0 + (3 * (up n (k + 1) - n)) ≤ (9 * (up n (k + 1) - n)) by omega)⟩) hS (fun q _ h => hFc q h) hFc (fun u t9 H1 locs ht hvm hw hB hz1 hk1 hS => ?_)
  obtain ⟨q_5, f_5⟩ := u
  obtain ⟨hP1, hD1⟩ := hB
  rw [ht] at hP1
  try dsimp only at hw hP1 hD1
  obtain ⟨hP, hD⟩ := va_join (wr := [(pg, .inr (0, [.ref t, .ref R0, .ref R1, .ref R2, .ref R3, .ref R4, .ref R5, .int (nI a), .int (nI lv)])), (R3, .inr (1, [.ref (Q 3), .int (nI k)])), ((Q 3), .inl (cI, n, .inl (F 3))), (R5, .inr (1, [.ref (Q 5), .int (nI k)])), ((Q 5), .inl (cI, n, .inl (F 5)))]) (w1 := [(R4, .inr (1, [.ref q_5, .int (nI (k + 1))])), (q_5, .inl (cI, (up n (k + 1)), .inl f_5))]) hP hD [3, 4] [0, 1, 2, 5, 6] rfl rfl (by decide) (by decide) hk1 hFc hP1 hD1
  clear hP1 hD1 hPc hDc hFc hk1 hz1 hvm
  generalize H1 = H at hP hS ht ⊢
  have hP : va_P D vwCl [(pg, .inr (0, [.ref t, .ref R0, .ref R1, .ref R2, .ref R3, .ref R4, .ref R5, .int (nI a), .int (nI lv)])), (R3, .inr (1, [.ref (Q 3), .int (nI k)])), ((Q 3), .inl (cI, n, .inl (F 3))), (R5, .inr (1, [.ref (Q 5), .int (nI k)])), ((Q 5), .inl (cI, n, .inl (F 5))), (R4, .inr (1, [.ref q_5, .int (nI (k + 1))])), (q_5, .inl (cI, (up n (k + 1)), .inl f_5))] H := hP
  have hD : va_D A [(pg, .inr (0, [.ref t, .ref R0, .ref R1, .ref R2, .ref R3, .ref R4, .ref R5, .int (nI a), .int (nI lv)])), (R3, .inr (1, [.ref (Q 3), .int (nI k)])), ((Q 3), .inl (cI, n, .inl (F 3))), (R5, .inr (1, [.ref (Q 5), .int (nI k)])), ((Q 5), .inl (cI, n, .inl (F 5))), (R4, .inr (1, [.ref q_5, .int (nI (k + 1))])), (q_5, .inl (cI, (up n (k + 1)), .inl f_5))] := hD
  have hw_5 := hw
  refine lv_aload_n hx hb dX0_addLine_8 rfl (lv_at hl 0 rfl) ?_
  refine va_get (D := D) (ci := 0) (v := .ref R3) (C := RX0) (T := TX0) (N := 9) hx hb hts (by decide +kernel) hown hK hP 0 rfl rfl 4 (by decide) (hts (.fieldLink RX0 24 "BodyText$Program" "lineKinds" "LBodyText$Row;") (by decide +kernel)) (fun _ h9 => h9) rfl dX0_addLine_9 ?_
  refine lv_iload_n hx hb dX0_addLine_12 rfl (lv_at hl 2 rfl) ?_
  have hPc := hP.sub (ws' := [(R3, .inr (1, [.ref (Q 3), .int (nI k)])), ((Q 3), .inl (cI, n, .inl (F 3)))]) [1, 2] rfl
  have hDc := hD.sub (ws' := [(R3, .inr (1, [.ref (Q 3), .int (nI k)])), ((Q 3), .inl (cI, n, .inl (F 3)))]) [1, 2] (by decide) rfl
  have hFc := va_free (wc := [(R3, .inr (1, [.ref (Q 3), .int (nI k)])), ((Q 3), .inl (cI, n, .inl (F 3)))]) hD hS hA [1, 2] rfl
  refine va_callv (va_runV (As := [.int x2]) (rest := []) ⟨hx, hb, hml, hown, hts⟩ (kX1_add l D cB cI R3 (Q 3) n (F 3) k x2 hc (by omega) (by omega) H.size) (cwV 1 hts gX0_addLine_X1_add rfl rfl rfl (by decide +kernel) ⟨Nat.le_of_ble_eq_true rfl, Nat.le_of_ble_eq_true rfl⟩) ⟨fun a U g mk q => ⟨q.1, q.2.calling⟩, va_recv hK hPc (ci := 1) (q0 := 0) rfl rfl, fun U hU hW => ⟨rfl, bt_M.of hU hW hPc hK hN hDc⟩⟩ rfl rfl hl.1 rfl (lv_room (Nat.le_of_ble_eq_true rfl)) dX0_addLine_13 ⟨(show (0 + (up n (k + 1) - n)) + (up n (k + 1) - n) ≤ (3 * (up n (k + 1) - n)) by omega), (show (0 + (3 * (up n (k + 1) - n))) + (3 * (up n (k + 1) - n)) ≤ (9 * (up n (k + 1) - n)) by omega)⟩) hS (fun q _ h => hFc q h) hFc (fun u t9 H1 locs ht hvm hw hB hz1 hk1 hS => ?_)
  obtain ⟨q_13, f_13⟩ := u
  obtain ⟨hP1, hD1⟩ := hB
  rw [ht] at hP1
  try dsimp only at hw hP1 hD1
  obtain ⟨hP, hD⟩ := va_join (wr := [(pg, .inr (0, [.ref t, .ref R0, .ref R1, .ref R2, .ref R3, .ref R4, .ref R5, .int (nI a), .int (nI lv)])), (R5, .inr (1, [.ref (Q 5), .int (nI k)])), ((Q 5), .inl (cI, n, .inl (F 5))), (R4, .inr (1, [.ref q_5, .int (nI (k + 1))])), (q_5, .inl (cI, (up n (k + 1)), .inl f_5))]) (w1 := [(R3, .inr (1, [.ref q_13, .int (nI (k + 1))])), (q_13, .inl (cI, (up n (k + 1)), .inl f_13))]) hP hD [1, 2] [0, 3, 4, 5, 6] rfl rfl (by decide) (by decide) hk1 hFc hP1 hD1
  clear hP1 hD1 hPc hDc hFc hk1 hz1 hvm
  generalize H1 = H at hP hS ht ⊢
  have hP : va_P D vwCl [(pg, .inr (0, [.ref t, .ref R0, .ref R1, .ref R2, .ref R3, .ref R4, .ref R5, .int (nI a), .int (nI lv)])), (R5, .inr (1, [.ref (Q 5), .int (nI k)])), ((Q 5), .inl (cI, n, .inl (F 5))), (R4, .inr (1, [.ref q_5, .int (nI (k + 1))])), (q_5, .inl (cI, (up n (k + 1)), .inl f_5)), (R3, .inr (1, [.ref q_13, .int (nI (k + 1))])), (q_13, .inl (cI, (up n (k + 1)), .inl f_13))] H := hP
  have hD : va_D A [(pg, .inr (0, [.ref t, .ref R0, .ref R1, .ref R2, .ref R3, .ref R4, .ref R5, .int (nI a), .int (nI lv)])), (R5, .inr (1, [.ref (Q 5), .int (nI k)])), ((Q 5), .inl (cI, n, .inl (F 5))), (R4, .inr (1, [.ref q_5, .int (nI (k + 1))])), (q_5, .inl (cI, (up n (k + 1)), .inl f_5)), (R3, .inr (1, [.ref q_13, .int (nI (k + 1))])), (q_13, .inl (cI, (up n (k + 1)), .inl f_13))] := hD
  have hw_13 := hw
  refine lv_aload_n hx hb dX0_addLine_16 rfl (lv_at hl 0 rfl) ?_
  refine va_get (D := D) (ci := 0) (v := .ref R5) (C := RX0) (T := TX0) (N := 9) hx hb hts (by decide +kernel) hown hK hP 0 rfl rfl 6 (by decide) (hts (.fieldLink RX0 30 "BodyText$Program" "lineInstructions" "LBodyText$Row;") (by decide +kernel)) (fun _ h9 => h9) rfl dX0_addLine_17 ?_
  refine lv_iload_n hx hb dX0_addLine_20 rfl (lv_at hl 3 rfl) ?_
  have hPc := hP.sub (ws' := [(R5, .inr (1, [.ref (Q 5), .int (nI k)])), ((Q 5), .inl (cI, n, .inl (F 5)))]) [1, 2] rfl
  have hDc := hD.sub (ws' := [(R5, .inr (1, [.ref (Q 5), .int (nI k)])), ((Q 5), .inl (cI, n, .inl (F 5)))]) [1, 2] (by decide) rfl
  have hFc := va_free (wc := [(R5, .inr (1, [.ref (Q 5), .int (nI k)])), ((Q 5), .inl (cI, n, .inl (F 5)))]) hD hS hA [1, 2] rfl
  refine va_callv (va_runV (As := [.int x3]) (rest := []) ⟨hx, hb, hml, hown, hts⟩ (kX1_add l D cB cI R5 (Q 5) n (F 5) k x3 hc (by omega) (by omega) H.size) (cwV 1 hts gX0_addLine_X1_add rfl rfl rfl (by decide +kernel) ⟨Nat.le_of_ble_eq_true rfl, Nat.le_of_ble_eq_true rfl⟩) ⟨fun a U g mk q => ⟨q.1, q.2.calling⟩, va_recv hK hPc (ci := 1) (q0 := 0) rfl rfl, fun U hU hW => ⟨rfl, bt_M.of hU hW hPc hK hN hDc⟩⟩ rfl rfl hl.1 rfl (lv_room (Nat.le_of_ble_eq_true rfl)) dX0_addLine_21 ⟨(show ((0 + (up n (k + 1) - n)) + (up n (k + 1) - n)) + (up n (k + 1) - n) ≤ (3 * (up n (k + 1) - n)) by omega), (show ((0 + (3 * (up n (k + 1) - n))) + (3 * (up n (k + 1) - n))) + (3 * (up n (k + 1) - n)) ≤ (9 * (up n (k + 1) - n)) by omega)⟩) hS (fun q _ h => hFc q h) hFc (fun u t9 H1 locs ht hvm hw hB hz1 hk1 hS => ?_)
  obtain ⟨q_21, f_21⟩ := u
  obtain ⟨hP1, hD1⟩ := hB
  rw [ht] at hP1
  try dsimp only at hw hP1 hD1
  obtain ⟨hP, hD⟩ := va_join (wr := [(pg, .inr (0, [.ref t, .ref R0, .ref R1, .ref R2, .ref R3, .ref R4, .ref R5, .int (nI a), .int (nI lv)])), (R4, .inr (1, [.ref q_5, .int (nI (k + 1))])), (q_5, .inl (cI, (up n (k + 1)), .inl f_5)), (R3, .inr (1, [.ref q_13, .int (nI (k + 1))])), (q_13, .inl (cI, (up n (k + 1)), .inl f_13))]) (w1 := [(R5, .inr (1, [.ref q_21, .int (nI (k + 1))])), (q_21, .inl (cI, (up n (k + 1)), .inl f_21))]) hP hD [1, 2] [0, 3, 4, 5, 6] rfl rfl (by decide) (by decide) hk1 hFc hP1 hD1
  clear hP1 hD1 hPc hDc hFc hk1 hz1 hvm
  generalize H1 = H at hP hS ht ⊢
  have hP : va_P D vwCl [(pg, .inr (0, [.ref t, .ref R0, .ref R1, .ref R2, .ref R3, .ref R4, .ref R5, .int (nI a), .int (nI lv)])), (R4, .inr (1, [.ref q_5, .int (nI (k + 1))])), (q_5, .inl (cI, (up n (k + 1)), .inl f_5)), (R3, .inr (1, [.ref q_13, .int (nI (k + 1))])), (q_13, .inl (cI, (up n (k + 1)), .inl f_13)), (R5, .inr (1, [.ref q_21, .int (nI (k + 1))])), (q_21, .inl (cI, (up n (k + 1)), .inl f_21))] H := hP
  have hD : va_D A [(pg, .inr (0, [.ref t, .ref R0, .ref R1, .ref R2, .ref R3, .ref R4, .ref R5, .int (nI a), .int (nI lv)])), (R4, .inr (1, [.ref q_5, .int (nI (k + 1))])), (q_5, .inl (cI, (up n (k + 1)), .inl f_5)), (R3, .inr (1, [.ref q_13, .int (nI (k + 1))])), (q_13, .inl (cI, (up n (k + 1)), .inl f_13)), (R5, .inr (1, [.ref q_21, .int (nI (k + 1))])), (q_21, .inl (cI, (up n (k + 1)), .inl f_21))] := hD
  have hw_21 := hw
  have hP9 := hP.sub (ws' := [(pg, .inr (0, [.ref t, .ref R0, .ref R1, .ref R2, .ref R3, .ref R4, .ref R5, .int (nI a), .int (nI lv)])), (R3, .inr (1, [.ref q_13, .int (nI (k + 1))])), (q_13, .inl (cI, (up n (k + 1)), .inl f_13)), (R4, .inr (1, [.ref q_5, .int (nI (k + 1))])), (q_5, .inl (cI, (up n (k + 1)), .inl f_5)), (R5, .inr (1, [.ref q_21, .int (nI (k + 1))])), (q_21, .inl (cI, (up n (k + 1)), .inl f_21))]) [0, 3, 4, 1, 2, 5, 6] rfl
  have hD9 := hD.sub (ws' := [(pg, .inr (0, [.ref t, .ref R0, .ref R1, .ref R2, .ref R3, .ref R4, .ref R5, .int (nI a), .int (nI lv)])), (R3, .inr (1, [.ref q_13, .int (nI (k + 1))])), (q_13, .inl (cI, (up n (k + 1)), .inl f_13)), (R4, .inr (1, [.ref q_5, .int (nI (k + 1))])), (q_5, .inl (cI, (up n (k + 1)), .inl f_5)), (R5, .inr (1, [.ref q_21, .int (nI (k + 1))])), (q_21, .inl (cI, (up n (k + 1)), .inl f_21))]) [0, 3, 4, 1, 2, 5, 6] (by decide) rfl
  refine W.widen (k := (3 * (up n (k + 1) - n))) (n := (9 * (up n (k + 1) - n))) (show (((0 + (up n (k + 1) - n)) + (up n (k + 1) - n)) + (up n (k + 1) - n)) ≤ (3 * (up n (k + 1) - n)) by omega) (show (((0 + (3 * (up n (k + 1) - n))) + (3 * (up n (k + 1) - n))) + (3 * (up n (k + 1) - n))) ≤ (9 * (up n (k + 1) - n)) by omega) ?_
  exact W.vret hx hb hr (fun t9 ht hW => ⟨⟨(mk6 0 0 0 q_13 q_5 q_21, mk6 (F 0) (F 1) (F 2) f_13 f_5 f_21), rfl, ⟨fun i j h3 hi hj => by rcases (show i = 3 ∨ i = 4 ∨ i = 5 by omega) with rfl | rfl | rfl; exact hw_13.1 j hj; exact hw_5.1 j hj; exact hw_21.1 j hj, hw_5.2, hw_13.2, hw_21.2⟩, by rw [ht]; exact hP9, hD9⟩, hS.F ht⟩) hS.2.2 dX0_addLine_24
set_option maxHeartbeats 4000000 in
set_option maxRecDepth 100000 in
/-- Program(t) -/
theorem kX0_init (l : Launch) (D : va_G) (cB cI : ClassId) (pg t : Nat) (sz : Nat) : Met l yX0_init wsX0_init ({ frames := 2, cells := 12, slots := 108, locals := 32 }) (va_Pc [.ref pg, .ref t] (bt_M D cB cI sz [(pg, .inr (0, [.null, .null, .null, .null, .null, .null, .null, .int (nI 0), .int (nI 0)]))])) (va_Qv (S := (Nat → Nat) × (Nat → Nat)) (fun _ => True) (fun u t9 => bt_L D (va_A [(pg, .inr (0, [.null, .null, .null, .null, .null, .null, .null, .int (nI 0), .int (nI 0)]))] sz) ((fun u => [(pg, .inr (0, [.ref t, .ref (u.1 0), .ref (u.1 1), .ref (u.1 2), .ref (u.1 3), .ref (u.1 4), .ref (u.1 5), .int (nI 0), .int (nI 0)])), (u.1 0, .inr (1, [.ref (u.2 0), .int (nI 0)])), (u.2 0, .inl (cI, 16, .inl (fun _ => 0))), (u.1 1, .inr (1, [.ref (u.2 1), .int (nI 0)])), (u.2 1, .inl (cI, 16, .inl (fun _ => 0))), (u.1 2, .inr (1, [.ref (u.2 2), .int (nI 0)])), (u.2 2, .inl (cI, 16, .inl (fun _ => 0))), (u.1 3, .inr (1, [.ref (u.2 3), .int (nI 0)])), (u.2 3, .inl (cI, 16, .inl (fun _ => 0))), (u.1 4, .inr (1, [.ref (u.2 4), .int (nI 0)])), (u.2 4, .inl (cI, 16, .inl (fun _ => 0))), (u.1 5, .inr (1, [.ref (u.2 5), .int (nI 0)])), (u.2 5, .inl (cI, 16, .inl (fun _ => 0)))]) u) t9) (va_A [(pg, .inr (0, [.null, .null, .null, .null, .null, .null, .null, .int (nI 0), .int (nI 0)]))] sz)) 12 108 (va_A [(pg, .inr (0, [.null, .null, .null, .null, .null, .null, .null, .int (nI 0), .int (nI 0)]))] sz) := by
  refine Met.ofW (cc := cX0_init) (maxL := 2) (ret := none) (by decide) rfl ?_
  intro p e s m args below meth c s₁ B hml hv
  obtain ⟨rfl, hsz, hP, hK, hN, hD0⟩ := hv
  have hx := B.exec
  have hb := B.bytes
  have hr := B.returns
  have hts := atoms_spec (ws := wsX0_init) B.pre
  have hown : s.vm.findClass RX0 = some m.cls := findClass_of_methodNamed B.named
  have hlocks := B.notSynchronized
  have hin : meth.name = "<init>" := (name_of_methodNamed B.named B.method).1
  subst hsz
  have hD := hD0.self (sz := s.heap.size)
  generalize hAe : va_A [(pg, .inr (0, [.null, .null, .null, .null, .null, .null, .null, .int (nI 0), .int (nI 0)]))] s.heap.size = A at hD ⊢
  have hA : ∀ q : Nat, s.heap.size ≤ q → A q := fun q h => by rw [← hAe]; exact Or.inr h
  have hS : va_S A s.heap s.heap [] := va_S.rf
  have hl := lv_entry ([.ref pg, .ref t]) (n := 2) (Nat.le_of_ble_eq_true rfl)
  rw [lg_entry_eq]
  generalize (lg_sl ([.ref pg, .ref t]) ++ List.replicate (2 - (lg_sl ([.ref pg, .ref t])).length) Slot.unset).toArray = ls at hl ⊢
  have hl : lv_has ls 2 [(0, .ref pg), (1, .ref t)] := hl
  refine lv_aload_n hx hb dX0_init_0 rfl (lv_at hl 0 rfl) ?_
  refine W.objInit hx hb hown (hts (.methodLink RX0 3 objectInit) (by decide +kernel)) (hts (.instanceMethod objectInit) (by decide +kernel)) (hts (.code objectInit ⟨#[0xb1]⟩ 1 none) (by decide +kernel)) rfl (by rw [hml]; exact hl.1) rfl dX0_init_1 (Nat.le_of_ble_eq_true rfl) (Nat.le_of_ble_eq_true rfl) ?_
  refine W.eq (g2 := F0 m 4 ls []) rfl ?_
  refine lv_aload_n hx hb dX0_init_4 rfl (lv_at hl 0 rfl) ?_
  refine va_new (ci := 1) (fs := [.null, .int (nI 0)]) (C := RX1) (T := TX1) (N := 2) hx hb hts (by decide +kernel) tyX1 tyX1_ok hown (hts (.classLink RX0 9 RX1) (by decide +kernel)) (hts (.instantiable RX1 2) (by decide +kernel)) (hts (.initialized RX1) (by decide +kernel)) hK hP hD hS hA rfl (fun j hj => by rcases (show j = 0 ∨ j = 1 by omega) with rfl | rfl <;> rfl) (show 0 + 1 ≤ 12 by omega) (show 0 + 2 ≤ 108 by omega) dX0_init_5 (fun q_5 H hP hD hS => ?_)
  have hP : va_P D vwCl [(pg, .inr (0, [.null, .null, .null, .null, .null, .null, .null, .int (nI 0), .int (nI 0)])), (q_5, .inr (1, [.null, .int (nI 0)]))] H := hP
  have hD : va_D A [(pg, .inr (0, [.null, .null, .null, .null, .null, .null, .null, .int (nI 0), .int (nI 0)])), (q_5, .inr (1, [.null, .int (nI 0)]))] := hD
  refine lv_dup hx hb dX0_init_8 rfl ?_
  have hPc := hP.sub (ws' := [(q_5, .inr (1, [.null, .int (nI 0)]))]) [1] rfl
  have hDc := hD.sub (ws' := [(q_5, .inr (1, [.null, .int (nI 0)]))]) [1] (by decide) rfl
  have hFc := va_free (wc := [(q_5, .inr (1, [.null, .int (nI 0)]))]) hD hS hA [1] rfl
  refine va_callv (va_runIN (As := []) (rest := [.ref q_5, .ref pg]) ⟨hx, hb, hml, hown, hts⟩ (kX1_init l D cB cI q_5 H.size) ⟨va_cnB (host := "BodyText") 0 hts gX0_init_X1_init_n11 rfl rfl rfl (bt_nw hN (.methodLinkNest "BodyText$Program" 11 ⟨"BodyText$Row", "<init>", "()V"⟩ "BodyText") (by decide +kernel)) (hts (.initialized RX1) (by decide +kernel)) (by decide +kernel) ⟨Nat.le_of_ble_eq_true rfl, Nat.le_of_ble_eq_true rfl⟩, rfl, hts (.instanceMethod yX1_init) (by decide +kernel)⟩ ⟨fun a U g mk q => ⟨q.1, q.2.calling⟩, fun U hU hW => ⟨rfl, bt_M.of hU hW hPc hK hN hDc⟩⟩ rfl rfl hl.1 rfl (lv_room (Nat.le_of_ble_eq_true rfl)) dX0_init_9 ⟨(show (0 + 1) + 1 ≤ 12 by omega), (show (0 + 2) + 16 ≤ 108 by omega)⟩) hS (fun q _ h => hFc q h) hFc (fun qa_9 t9 H1 locs ht hvm hw hB hz1 hk1 hS => ?_)
  obtain ⟨hP1, hD1⟩ := hB
  rw [ht] at hP1
  try dsimp only at hw hP1 hD1
  obtain ⟨hP, hD⟩ := va_join (wr := [(pg, .inr (0, [.null, .null, .null, .null, .null, .null, .null, .int (nI 0), .int (nI 0)]))]) (w1 := [(q_5, .inr (1, [.ref qa_9, .int (nI 0)])), (qa_9, .inl (cI, 16, .inl (fun _ => 0)))]) hP hD [1] [0] rfl rfl (by decide) (by decide) hk1 hFc hP1 hD1
  clear hP1 hD1 hPc hDc hFc hk1 hz1 hvm
  generalize H1 = H at hP hS ht ⊢
  have hP : va_P D vwCl [(pg, .inr (0, [.null, .null, .null, .null, .null, .null, .null, .int (nI 0), .int (nI 0)])), (q_5, .inr (1, [.ref qa_9, .int (nI 0)])), (qa_9, .inl (cI, 16, .inl (fun _ => 0)))] H := hP
  have hD : va_D A [(pg, .inr (0, [.null, .null, .null, .null, .null, .null, .null, .int (nI 0), .int (nI 0)])), (q_5, .inr (1, [.ref qa_9, .int (nI 0)])), (qa_9, .inl (cI, 16, .inl (fun _ => 0)))] := hD
  refine va_putF (D := D) (ci := 0) (v := .ref q_5) (ty := .object "BodyText$Row") (C := RX0) (T := TX0) (N := 9) hx hb hts (by decide +kernel) tyX0 tyX0_ok nmX0 hown hK hP hD hS 0 rfl rfl 1 (by decide) (hts (.fieldLink RX0 12 "BodyText$Program" "classNames" "LBodyText$Row;") (by decide +kernel)) (fun _ h9 => h9) rfl hin rfl (by decide +kernel) rfl rfl (Nat.le_of_ble_eq_true rfl) dX0_init_12 (fun H locs hP hD hS => ?_)
  have hP : va_P D vwCl [(pg, .inr (0, [.null, .ref q_5, .null, .null, .null, .null, .null, .int (nI 0), .int (nI 0)])), (q_5, .inr (1, [.ref qa_9, .int (nI 0)])), (qa_9, .inl (cI, 16, .inl (fun _ => 0)))] H := hP
  have hD : va_D A [(pg, .inr (0, [.null, .ref q_5, .null, .null, .null, .null, .null, .int (nI 0), .int (nI 0)])), (q_5, .inr (1, [.ref qa_9, .int (nI 0)])), (qa_9, .inl (cI, 16, .inl (fun _ => 0)))] := hD
  refine lv_aload_n hx hb dX0_init_15 rfl (lv_at hl 0 rfl) ?_
  refine va_new (ci := 1) (fs := [.null, .int (nI 0)]) (C := RX1) (T := TX1) (N := 2) hx hb hts (by decide +kernel) tyX1 tyX1_ok hown (hts (.classLink RX0 9 RX1) (by decide +kernel)) (hts (.instantiable RX1 2) (by decide +kernel)) (hts (.initialized RX1) (by decide +kernel)) hK hP hD hS hA rfl (fun j hj => by rcases (show j = 0 ∨ j = 1 by omega) with rfl | rfl <;> rfl) (show ((0 + 1) + 1) + 1 ≤ 12 by omega) (show ((0 + 2) + 16) + 2 ≤ 108 by omega) dX0_init_16 (fun q_16 H hP hD hS => ?_)
  have hP : va_P D vwCl [(pg, .inr (0, [.null, .ref q_5, .null, .null, .null, .null, .null, .int (nI 0), .int (nI 0)])), (q_5, .inr (1, [.ref qa_9, .int (nI 0)])), (qa_9, .inl (cI, 16, .inl (fun _ => 0))), (q_16, .inr (1, [.null, .int (nI 0)]))] H := hP
  have hD : va_D A [(pg, .inr (0, [.null, .ref q_5, .null, .null, .null, .null, .null, .int (nI 0), .int (nI 0)])), (q_5, .inr (1, [.ref qa_9, .int (nI 0)])), (qa_9, .inl (cI, 16, .inl (fun _ => 0))), (q_16, .inr (1, [.null, .int (nI 0)]))] := hD
  refine lv_dup hx hb dX0_init_19 rfl ?_
  have hPc := hP.sub (ws' := [(q_16, .inr (1, [.null, .int (nI 0)]))]) [3] rfl
  have hDc := hD.sub (ws' := [(q_16, .inr (1, [.null, .int (nI 0)]))]) [3] (by decide) rfl
  have hFc := va_free (wc := [(q_16, .inr (1, [.null, .int (nI 0)]))]) hD hS hA [3] rfl
  refine va_callv (va_runIN (As := []) (rest := [.ref q_16, .ref pg]) ⟨hx, hb, hml, hown, hts⟩ (kX1_init l D cB cI q_16 H.size) ⟨va_cnB (host := "BodyText") 0 hts gX0_init_X1_init_n11 rfl rfl rfl (bt_nw hN (.methodLinkNest "BodyText$Program" 11 ⟨"BodyText$Row", "<init>", "()V"⟩ "BodyText") (by decide +kernel)) (hts (.initialized RX1) (by decide +kernel)) (by decide +kernel) ⟨Nat.le_of_ble_eq_true rfl, Nat.le_of_ble_eq_true rfl⟩, rfl, hts (.instanceMethod yX1_init) (by decide +kernel)⟩ ⟨fun a U g mk q => ⟨q.1, q.2.calling⟩, fun U hU hW => ⟨rfl, bt_M.of hU hW hPc hK hN hDc⟩⟩ rfl rfl hl.1 rfl (lv_room (Nat.le_of_ble_eq_true rfl)) dX0_init_20 ⟨(show (((0 + 1) + 1) + 1) + 1 ≤ 12 by omega), (show (((0 + 2) + 16) + 2) + 16 ≤ 108 by omega)⟩) hS (fun q _ h => hFc q h) hFc (fun qa_20 t9 H1 locs ht hvm hw hB hz1 hk1 hS => ?_)
  obtain ⟨hP1, hD1⟩ := hB
  rw [ht] at hP1
  try dsimp only at hw hP1 hD1
  obtain ⟨hP, hD⟩ := va_join (wr := [(pg, .inr (0, [.null, .ref q_5, .null, .null, .null, .null, .null, .int (nI 0), .int (nI 0)])), (q_5, .inr (1, [.ref qa_9, .int (nI 0)])), (qa_9, .inl (cI, 16, .inl (fun _ => 0)))]) (w1 := [(q_16, .inr (1, [.ref qa_20, .int (nI 0)])), (qa_20, .inl (cI, 16, .inl (fun _ => 0)))]) hP hD [3] [0, 1, 2] rfl rfl (by decide) (by decide) hk1 hFc hP1 hD1
  clear hP1 hD1 hPc hDc hFc hk1 hz1 hvm
  generalize H1 = H at hP hS ht ⊢
  have hP : va_P D vwCl [(pg, .inr (0, [.null, .ref q_5, .null, .null, .null, .null, .null, .int (nI 0), .int (nI 0)])), (q_5, .inr (1, [.ref qa_9, .int (nI 0)])), (qa_9, .inl (cI, 16, .inl (fun _ => 0))), (q_16, .inr (1, [.ref qa_20, .int (nI 0)])), (qa_20, .inl (cI, 16, .inl (fun _ => 0)))] H := hP
  have hD : va_D A [(pg, .inr (0, [.null, .ref q_5, .null, .null, .null, .null, .null, .int (nI 0), .int (nI 0)])), (q_5, .inr (1, [.ref qa_9, .int (nI 0)])), (qa_9, .inl (cI, 16, .inl (fun _ => 0))), (q_16, .inr (1, [.ref qa_20, .int (nI 0)])), (qa_20, .inl (cI, 16, .inl (fun _ => 0)))] := hD
  refine va_putF (D := D) (ci := 0) (v := .ref q_16) (ty := .object "BodyText$Row") (C := RX0) (T := TX0) (N := 9) hx hb hts (by decide +kernel) tyX0 tyX0_ok nmX0 hown hK hP hD hS 0 rfl rfl 2 (by decide) (hts (.fieldLink RX0 18 "BodyText$Program" "memberKinds" "LBodyText$Row;") (by decide +kernel)) (fun _ h9 => h9) rfl hin rfl (by decide +kernel) rfl rfl (Nat.le_of_ble_eq_true rfl) dX0_init_23 (fun H locs hP hD hS => ?_)
  have hP : va_P D vwCl [(pg, .inr (0, [.null, .ref q_5, .ref q_16, .null, .null, .null, .null, .int (nI 0), .int (nI 0)])), (q_5, .inr (1, [.ref qa_9, .int (nI 0)])), (qa_9, .inl (cI, 16, .inl (fun _ => 0))), (q_16, .inr (1, [.ref qa_20, .int (nI 0)])), (qa_20, .inl (cI, 16, .inl (fun _ => 0)))] H := hP
  have hD : va_D A [(pg, .inr (0, [.null, .ref q_5, .ref q_16, .null, .null, .null, .null, .int (nI 0), .int (nI 0)])), (q_5, .inr (1, [.ref qa_9, .int (nI 0)])), (qa_9, .inl (cI, 16, .inl (fun _ => 0))), (q_16, .inr (1, [.ref qa_20, .int (nI 0)])), (qa_20, .inl (cI, 16, .inl (fun _ => 0)))] := hD
  refine lv_aload_n hx hb dX0_init_26 rfl (lv_at hl 0 rfl) ?_
  refine va_new (ci := 1) (fs := [.null, .int (nI 0)]) (C := RX1) (T := TX1) (N := 2) hx hb hts (by decide +kernel) tyX1 tyX1_ok hown (hts (.classLink RX0 9 RX1) (by decide +kernel)) (hts (.instantiable RX1 2) (by decide +kernel)) (hts (.initialized RX1) (by decide +kernel)) hK hP hD hS hA rfl (fun j hj => by rcases (show j = 0 ∨ j = 1 by omega) with rfl | rfl <;> rfl) (show ((((0 + 1) + 1) + 1) + 1) + 1 ≤ 12 by omega) (show ((((0 + 2) + 16) + 2) + 16) + 2 ≤ 108 by omega) dX0_init_27 (fun q_27 H hP hD hS => ?_)
  have hP : va_P D vwCl [(pg, .inr (0, [.null, .ref q_5, .ref q_16, .null, .null, .null, .null, .int (nI 0), .int (nI 0)])), (q_5, .inr (1, [.ref qa_9, .int (nI 0)])), (qa_9, .inl (cI, 16, .inl (fun _ => 0))), (q_16, .inr (1, [.ref qa_20, .int (nI 0)])), (qa_20, .inl (cI, 16, .inl (fun _ => 0))), (q_27, .inr (1, [.null, .int (nI 0)]))] H := hP
  have hD : va_D A [(pg, .inr (0, [.null, .ref q_5, .ref q_16, .null, .null, .null, .null, .int (nI 0), .int (nI 0)])), (q_5, .inr (1, [.ref qa_9, .int (nI 0)])), (qa_9, .inl (cI, 16, .inl (fun _ => 0))), (q_16, .inr (1, [.ref qa_20, .int (nI 0)])), (qa_20, .inl (cI, 16, .inl (fun _ => 0))), (q_27, .inr (1, [.null, .int (nI 0)]))] := hD
  refine lv_dup hx hb dX0_init_30 rfl ?_
  have hPc := hP.sub (ws' := [(q_27, .inr (1, [.null, .int (nI 0)]))]) [5] rfl
  have hDc := hD.sub (ws' := [(q_27, .inr (1, [.null, .int (nI 0)]))]) [5] (by decide) rfl
  have hFc := va_free (wc := [(q_27, .inr (1, [.null, .int (nI 0)]))]) hD hS hA [5] rfl
  refine va_callv (va_runIN (As := []) (rest := [.ref q_27, .ref pg]) ⟨hx, hb, hml, hown, hts⟩ (kX1_init l D cB cI q_27 H.size) ⟨va_cnB (host := "BodyText") 0 hts gX0_init_X1_init_n11 rfl rfl rfl (bt_nw hN (.methodLinkNest "BodyText$Program" 11 ⟨"BodyText$Row", "<init>", "()V"⟩ "BodyText") (by decide +kernel)) (hts (.initialized RX1) (by decide +kernel)) (by decide +kernel) ⟨Nat.le_of_ble_eq_true rfl, Nat.le_of_ble_eq_true rfl⟩, rfl, hts (.instanceMethod yX1_init) (by decide +kernel)⟩ ⟨fun a U g mk q => ⟨q.1, q.2.calling⟩, fun U hU hW => ⟨rfl, bt_M.of hU hW hPc hK hN hDc⟩⟩ rfl rfl hl.1 rfl (lv_room (Nat.le_of_ble_eq_true rfl)) dX0_init_31 ⟨(show (((((0 + 1) + 1) + 1) + 1) + 1) + 1 ≤ 12 by omega), (show (((((0 + 2) + 16) + 2) + 16) + 2) + 16 ≤ 108 by omega)⟩) hS (fun q _ h => hFc q h) hFc (fun qa_31 t9 H1 locs ht hvm hw hB hz1 hk1 hS => ?_)
  obtain ⟨hP1, hD1⟩ := hB
  rw [ht] at hP1
  try dsimp only at hw hP1 hD1
  obtain ⟨hP, hD⟩ := va_join (wr := [(pg, .inr (0, [.null, .ref q_5, .ref q_16, .null, .null, .null, .null, .int (nI 0), .int (nI 0)])), (q_5, .inr (1, [.ref qa_9, .int (nI 0)])), (qa_9, .inl (cI, 16, .inl (fun _ => 0))), (q_16, .inr (1, [.ref qa_20, .int (nI 0)])), (qa_20, .inl (cI, 16, .inl (fun _ => 0)))]) (w1 := [(q_27, .inr (1, [.ref qa_31, .int (nI 0)])), (qa_31, .inl (cI, 16, .inl (fun _ => 0)))]) hP hD [5] [0, 1, 2, 3, 4] rfl rfl (by decide) (by decide) hk1 hFc hP1 hD1
  clear hP1 hD1 hPc hDc hFc hk1 hz1 hvm
  generalize H1 = H at hP hS ht ⊢
  have hP : va_P D vwCl [(pg, .inr (0, [.null, .ref q_5, .ref q_16, .null, .null, .null, .null, .int (nI 0), .int (nI 0)])), (q_5, .inr (1, [.ref qa_9, .int (nI 0)])), (qa_9, .inl (cI, 16, .inl (fun _ => 0))), (q_16, .inr (1, [.ref qa_20, .int (nI 0)])), (qa_20, .inl (cI, 16, .inl (fun _ => 0))), (q_27, .inr (1, [.ref qa_31, .int (nI 0)])), (qa_31, .inl (cI, 16, .inl (fun _ => 0)))] H := hP
  have hD : va_D A [(pg, .inr (0, [.null, .ref q_5, .ref q_16, .null, .null, .null, .null, .int (nI 0), .int (nI 0)])), (q_5, .inr (1, [.ref qa_9, .int (nI 0)])), (qa_9, .inl (cI, 16, .inl (fun _ => 0))), (q_16, .inr (1, [.ref qa_20, .int (nI 0)])), (qa_20, .inl (cI, 16, .inl (fun _ => 0))), (q_27, .inr (1, [.ref qa_31, .int (nI 0)])), (qa_31, .inl (cI, 16, .inl (fun _ => 0)))] := hD
  refine va_putF (D := D) (ci := 0) (v := .ref q_27) (ty := .object "BodyText$Row") (C := RX0) (T := TX0) (N := 9) hx hb hts (by decide +kernel) tyX0 tyX0_ok nmX0 hown hK hP hD hS 0 rfl rfl 3 (by decide) (hts (.fieldLink RX0 21 "BodyText$Program" "memberNames" "LBodyText$Row;") (by decide +kernel)) (fun _ h9 => h9) rfl hin rfl (by decide +kernel) rfl rfl (Nat.le_of_ble_eq_true rfl) dX0_init_34 (fun H locs hP hD hS => ?_)
  have hP : va_P D vwCl [(pg, .inr (0, [.null, .ref q_5, .ref q_16, .ref q_27, .null, .null, .null, .int (nI 0), .int (nI 0)])), (q_5, .inr (1, [.ref qa_9, .int (nI 0)])), (qa_9, .inl (cI, 16, .inl (fun _ => 0))), (q_16, .inr (1, [.ref qa_20, .int (nI 0)])), (qa_20, .inl (cI, 16, .inl (fun _ => 0))), (q_27, .inr (1, [.ref qa_31, .int (nI 0)])), (qa_31, .inl (cI, 16, .inl (fun _ => 0)))] H := hP
  have hD : va_D A [(pg, .inr (0, [.null, .ref q_5, .ref q_16, .ref q_27, .null, .null, .null, .int (nI 0), .int (nI 0)])), (q_5, .inr (1, [.ref qa_9, .int (nI 0)])), (qa_9, .inl (cI, 16, .inl (fun _ => 0))), (q_16, .inr (1, [.ref qa_20, .int (nI 0)])), (qa_20, .inl (cI, 16, .inl (fun _ => 0))), (q_27, .inr (1, [.ref qa_31, .int (nI 0)])), (qa_31, .inl (cI, 16, .inl (fun _ => 0)))] := hD
  refine lv_aload_n hx hb dX0_init_37 rfl (lv_at hl 0 rfl) ?_
  refine va_new (ci := 1) (fs := [.null, .int (nI 0)]) (C := RX1) (T := TX1) (N := 2) hx hb hts (by decide +kernel) tyX1 tyX1_ok hown (hts (.classLink RX0 9 RX1) (by decide +kernel)) (hts (.instantiable RX1 2) (by decide +kernel)) (hts (.initialized RX1) (by decide +kernel)) hK hP hD hS hA rfl (fun j hj => by rcases (show j = 0 ∨ j = 1 by omega) with rfl | rfl <;> rfl) (show ((((((0 + 1) + 1) + 1) + 1) + 1) + 1) + 1 ≤ 12 by omega) (show ((((((0 + 2) + 16) + 2) + 16) + 2) + 16) + 2 ≤ 108 by omega) dX0_init_38 (fun q_38 H hP hD hS => ?_)
  have hP : va_P D vwCl [(pg, .inr (0, [.null, .ref q_5, .ref q_16, .ref q_27, .null, .null, .null, .int (nI 0), .int (nI 0)])), (q_5, .inr (1, [.ref qa_9, .int (nI 0)])), (qa_9, .inl (cI, 16, .inl (fun _ => 0))), (q_16, .inr (1, [.ref qa_20, .int (nI 0)])), (qa_20, .inl (cI, 16, .inl (fun _ => 0))), (q_27, .inr (1, [.ref qa_31, .int (nI 0)])), (qa_31, .inl (cI, 16, .inl (fun _ => 0))), (q_38, .inr (1, [.null, .int (nI 0)]))] H := hP
  have hD : va_D A [(pg, .inr (0, [.null, .ref q_5, .ref q_16, .ref q_27, .null, .null, .null, .int (nI 0), .int (nI 0)])), (q_5, .inr (1, [.ref qa_9, .int (nI 0)])), (qa_9, .inl (cI, 16, .inl (fun _ => 0))), (q_16, .inr (1, [.ref qa_20, .int (nI 0)])), (qa_20, .inl (cI, 16, .inl (fun _ => 0))), (q_27, .inr (1, [.ref qa_31, .int (nI 0)])), (qa_31, .inl (cI, 16, .inl (fun _ => 0))), (q_38, .inr (1, [.null, .int (nI 0)]))] := hD
  refine lv_dup hx hb dX0_init_41 rfl ?_
  have hPc := hP.sub (ws' := [(q_38, .inr (1, [.null, .int (nI 0)]))]) [7] rfl
  have hDc := hD.sub (ws' := [(q_38, .inr (1, [.null, .int (nI 0)]))]) [7] (by decide) rfl
  have hFc := va_free (wc := [(q_38, .inr (1, [.null, .int (nI 0)]))]) hD hS hA [7] rfl
  refine va_callv (va_runIN (As := []) (rest := [.ref q_38, .ref pg]) ⟨hx, hb, hml, hown, hts⟩ (kX1_init l D cB cI q_38 H.size) ⟨va_cnB (host := "BodyText") 0 hts gX0_init_X1_init_n11 rfl rfl rfl (bt_nw hN (.methodLinkNest "BodyText$Program" 11 ⟨"BodyText$Row", "<init>", "()V"⟩ "BodyText") (by decide +kernel)) (hts (.initialized RX1) (by decide +kernel)) (by decide +kernel) ⟨Nat.le_of_ble_eq_true rfl, Nat.le_of_ble_eq_true rfl⟩, rfl, hts (.instanceMethod yX1_init) (by decide +kernel)⟩ ⟨fun a U g mk q => ⟨q.1, q.2.calling⟩, fun U hU hW => ⟨rfl, bt_M.of hU hW hPc hK hN hDc⟩⟩ rfl rfl hl.1 rfl (lv_room (Nat.le_of_ble_eq_true rfl)) dX0_init_42 ⟨(show (((((((0 + 1) + 1) + 1) + 1) + 1) + 1) + 1) + 1 ≤ 12 by omega), (show (((((((0 + 2) + 16) + 2) + 16) + 2) + 16) + 2) + 16 ≤ 108 by omega)⟩) hS (fun q _ h => hFc q h) hFc (fun qa_42 t9 H1 locs ht hvm hw hB hz1 hk1 hS => ?_)
  obtain ⟨hP1, hD1⟩ := hB
  rw [ht] at hP1
  try dsimp only at hw hP1 hD1
  obtain ⟨hP, hD⟩ := va_join (wr := [(pg, .inr (0, [.null, .ref q_5, .ref q_16, .ref q_27, .null, .null, .null, .int (nI 0), .int (nI 0)])), (q_5, .inr (1, [.ref qa_9, .int (nI 0)])), (qa_9, .inl (cI, 16, .inl (fun _ => 0))), (q_16, .inr (1, [.ref qa_20, .int (nI 0)])), (qa_20, .inl (cI, 16, .inl (fun _ => 0))), (q_27, .inr (1, [.ref qa_31, .int (nI 0)])), (qa_31, .inl (cI, 16, .inl (fun _ => 0)))]) (w1 := [(q_38, .inr (1, [.ref qa_42, .int (nI 0)])), (qa_42, .inl (cI, 16, .inl (fun _ => 0)))]) hP hD [7] [0, 1, 2, 3, 4, 5, 6] rfl rfl (by decide) (by decide) hk1 hFc hP1 hD1
  clear hP1 hD1 hPc hDc hFc hk1 hz1 hvm
  generalize H1 = H at hP hS ht ⊢
  have hP : va_P D vwCl [(pg, .inr (0, [.null, .ref q_5, .ref q_16, .ref q_27, .null, .null, .null, .int (nI 0), .int (nI 0)])), (q_5, .inr (1, [.ref qa_9, .int (nI 0)])), (qa_9, .inl (cI, 16, .inl (fun _ => 0))), (q_16, .inr (1, [.ref qa_20, .int (nI 0)])), (qa_20, .inl (cI, 16, .inl (fun _ => 0))), (q_27, .inr (1, [.ref qa_31, .int (nI 0)])), (qa_31, .inl (cI, 16, .inl (fun _ => 0))), (q_38, .inr (1, [.ref qa_42, .int (nI 0)])), (qa_42, .inl (cI, 16, .inl (fun _ => 0)))] H := hP
  have hD : va_D A [(pg, .inr (0, [.null, .ref q_5, .ref q_16, .ref q_27, .null, .null, .null, .int (nI 0), .int (nI 0)])), (q_5, .inr (1, [.ref qa_9, .int (nI 0)])), (qa_9, .inl (cI, 16, .inl (fun _ => 0))), (q_16, .inr (1, [.ref qa_20, .int (nI 0)])), (qa_20, .inl (cI, 16, .inl (fun _ => 0))), (q_27, .inr (1, [.ref qa_31, .int (nI 0)])), (qa_31, .inl (cI, 16, .inl (fun _ => 0))), (q_38, .inr (1, [.ref qa_42, .int (nI 0)])), (qa_42, .inl (cI, 16, .inl (fun _ => 0)))] := hD
  refine va_putF (D := D) (ci := 0) (v := .ref q_38) (ty := .object "BodyText$Row") (C := RX0) (T := TX0) (N := 9) hx hb hts (by decide +kernel) tyX0 tyX0_ok nmX0 hown hK hP hD hS 0 rfl rfl 4 (by decide) (hts (.fieldLink RX0 24 "BodyText$Program" "lineKinds" "LBodyText$Row;") (by decide +kernel)) (fun _ h9 => h9) rfl hin rfl (by decide +kernel) rfl rfl (Nat.le_of_ble_eq_true rfl) dX0_init_45 (fun H locs hP hD hS => ?_)
  have hP : va_P D vwCl [(pg, .inr (0, [.null, .ref q_5, .ref q_16, .ref q_27, .ref q_38, .null, .null, .int (nI 0), .int (nI 0)])), (q_5, .inr (1, [.ref qa_9, .int (nI 0)])), (qa_9, .inl (cI, 16, .inl (fun _ => 0))), (q_16, .inr (1, [.ref qa_20, .int (nI 0)])), (qa_20, .inl (cI, 16, .inl (fun _ => 0))), (q_27, .inr (1, [.ref qa_31, .int (nI 0)])), (qa_31, .inl (cI, 16, .inl (fun _ => 0))), (q_38, .inr (1, [.ref qa_42, .int (nI 0)])), (qa_42, .inl (cI, 16, .inl (fun _ => 0)))] H := hP
  have hD : va_D A [(pg, .inr (0, [.null, .ref q_5, .ref q_16, .ref q_27, .ref q_38, .null, .null, .int (nI 0), .int (nI 0)])), (q_5, .inr (1, [.ref qa_9, .int (nI 0)])), (qa_9, .inl (cI, 16, .inl (fun _ => 0))), (q_16, .inr (1, [.ref qa_20, .int (nI 0)])), (qa_20, .inl (cI, 16, .inl (fun _ => 0))), (q_27, .inr (1, [.ref qa_31, .int (nI 0)])), (qa_31, .inl (cI, 16, .inl (fun _ => 0))), (q_38, .inr (1, [.ref qa_42, .int (nI 0)])), (qa_42, .inl (cI, 16, .inl (fun _ => 0)))] := hD
  refine lv_aload_n hx hb dX0_init_48 rfl (lv_at hl 0 rfl) ?_
  refine va_new (ci := 1) (fs := [.null, .int (nI 0)]) (C := RX1) (T := TX1) (N := 2) hx hb hts (by decide +kernel) tyX1 tyX1_ok hown (hts (.classLink RX0 9 RX1) (by decide +kernel)) (hts (.instantiable RX1 2) (by decide +kernel)) (hts (.initialized RX1) (by decide +kernel)) hK hP hD hS hA rfl (fun j hj => by rcases (show j = 0 ∨ j = 1 by omega) with rfl | rfl <;> rfl) (show ((((((((0 + 1) + 1) + 1) + 1) + 1) + 1) + 1) + 1) + 1 ≤ 12 by omega) (show ((((((((0 + 2) + 16) + 2) + 16) + 2) + 16) + 2) + 16) + 2 ≤ 108 by omega) dX0_init_49 (fun q_49 H hP hD hS => ?_)
  have hP : va_P D vwCl [(pg, .inr (0, [.null, .ref q_5, .ref q_16, .ref q_27, .ref q_38, .null, .null, .int (nI 0), .int (nI 0)])), (q_5, .inr (1, [.ref qa_9, .int (nI 0)])), (qa_9, .inl (cI, 16, .inl (fun _ => 0))), (q_16, .inr (1, [.ref qa_20, .int (nI 0)])), (qa_20, .inl (cI, 16, .inl (fun _ => 0))), (q_27, .inr (1, [.ref qa_31, .int (nI 0)])), (qa_31, .inl (cI, 16, .inl (fun _ => 0))), (q_38, .inr (1, [.ref qa_42, .int (nI 0)])), (qa_42, .inl (cI, 16, .inl (fun _ => 0))), (q_49, .inr (1, [.null, .int (nI 0)]))] H := hP
  have hD : va_D A [(pg, .inr (0, [.null, .ref q_5, .ref q_16, .ref q_27, .ref q_38, .null, .null, .int (nI 0), .int (nI 0)])), (q_5, .inr (1, [.ref qa_9, .int (nI 0)])), (qa_9, .inl (cI, 16, .inl (fun _ => 0))), (q_16, .inr (1, [.ref qa_20, .int (nI 0)])), (qa_20, .inl (cI, 16, .inl (fun _ => 0))), (q_27, .inr (1, [.ref qa_31, .int (nI 0)])), (qa_31, .inl (cI, 16, .inl (fun _ => 0))), (q_38, .inr (1, [.ref qa_42, .int (nI 0)])), (qa_42, .inl (cI, 16, .inl (fun _ => 0))), (q_49, .inr (1, [.null, .int (nI 0)]))] := hD
  refine lv_dup hx hb dX0_init_52 rfl ?_
  have hPc := hP.sub (ws' := [(q_49, .inr (1, [.null, .int (nI 0)]))]) [9] rfl
  have hDc := hD.sub (ws' := [(q_49, .inr (1, [.null, .int (nI 0)]))]) [9] (by decide) rfl
  have hFc := va_free (wc := [(q_49, .inr (1, [.null, .int (nI 0)]))]) hD hS hA [9] rfl
  refine va_callv (va_runIN (As := []) (rest := [.ref q_49, .ref pg]) ⟨hx, hb, hml, hown, hts⟩ (kX1_init l D cB cI q_49 H.size) ⟨va_cnB (host := "BodyText") 0 hts gX0_init_X1_init_n11 rfl rfl rfl (bt_nw hN (.methodLinkNest "BodyText$Program" 11 ⟨"BodyText$Row", "<init>", "()V"⟩ "BodyText") (by decide +kernel)) (hts (.initialized RX1) (by decide +kernel)) (by decide +kernel) ⟨Nat.le_of_ble_eq_true rfl, Nat.le_of_ble_eq_true rfl⟩, rfl, hts (.instanceMethod yX1_init) (by decide +kernel)⟩ ⟨fun a U g mk q => ⟨q.1, q.2.calling⟩, fun U hU hW => ⟨rfl, bt_M.of hU hW hPc hK hN hDc⟩⟩ rfl rfl hl.1 rfl (lv_room (Nat.le_of_ble_eq_true rfl)) dX0_init_53 ⟨(show (((((((((0 + 1) + 1) + 1) + 1) + 1) + 1) + 1) + 1) + 1) + 1 ≤ 12 by omega), (show (((((((((0 + 2) + 16) + 2) + 16) + 2) + 16) + 2) + 16) + 2) + 16 ≤ 108 by omega)⟩) hS (fun q _ h => hFc q h) hFc (fun qa_53 t9 H1 locs ht hvm hw hB hz1 hk1 hS => ?_)
  obtain ⟨hP1, hD1⟩ := hB
  rw [ht] at hP1
  try dsimp only at hw hP1 hD1
  obtain ⟨hP, hD⟩ := va_join (wr := [(pg, .inr (0, [.null, .ref q_5, .ref q_16, .ref q_27, .ref q_38, .null, .null, .int (nI 0), .int (nI 0)])), (q_5, .inr (1, [.ref qa_9, .int (nI 0)])), (qa_9, .inl (cI, 16, .inl (fun _ => 0))), (q_16, .inr (1, [.ref qa_20, .int (nI 0)])), (qa_20, .inl (cI, 16, .inl (fun _ => 0))), (q_27, .inr (1, [.ref qa_31, .int (nI 0)])), (qa_31, .inl (cI, 16, .inl (fun _ => 0))), (q_38, .inr (1, [.ref qa_42, .int (nI 0)])), (qa_42, .inl (cI, 16, .inl (fun _ => 0)))]) (w1 := [(q_49, .inr (1, [.ref qa_53, .int (nI 0)])), (qa_53, .inl (cI, 16, .inl (fun _ => 0)))]) hP hD [9] [0, 1, 2, 3, 4, 5, 6, 7, 8] rfl rfl (by decide) (by decide) hk1 hFc hP1 hD1
  clear hP1 hD1 hPc hDc hFc hk1 hz1 hvm
  generalize H1 = H at hP hS ht ⊢
  have hP : va_P D vwCl [(pg, .inr (0, [.null, .ref q_5, .ref q_16, .ref q_27, .ref q_38, .null, .null, .int (nI 0), .int (nI 0)])), (q_5, .inr (1, [.ref qa_9, .int (nI 0)])), (qa_9, .inl (cI, 16, .inl (fun _ => 0))), (q_16, .inr (1, [.ref qa_20, .int (nI 0)])), (qa_20, .inl (cI, 16, .inl (fun _ => 0))), (q_27, .inr (1, [.ref qa_31, .int (nI 0)])), (qa_31, .inl (cI, 16, .inl (fun _ => 0))), (q_38, .inr (1, [.ref qa_42, .int (nI 0)])), (qa_42, .inl (cI, 16, .inl (fun _ => 0))), (q_49, .inr (1, [.ref qa_53, .int (nI 0)])), (qa_53, .inl (cI, 16, .inl (fun _ => 0)))] H := hP
  have hD : va_D A [(pg, .inr (0, [.null, .ref q_5, .ref q_16, .ref q_27, .ref q_38, .null, .null, .int (nI 0), .int (nI 0)])), (q_5, .inr (1, [.ref qa_9, .int (nI 0)])), (qa_9, .inl (cI, 16, .inl (fun _ => 0))), (q_16, .inr (1, [.ref qa_20, .int (nI 0)])), (qa_20, .inl (cI, 16, .inl (fun _ => 0))), (q_27, .inr (1, [.ref qa_31, .int (nI 0)])), (qa_31, .inl (cI, 16, .inl (fun _ => 0))), (q_38, .inr (1, [.ref qa_42, .int (nI 0)])), (qa_42, .inl (cI, 16, .inl (fun _ => 0))), (q_49, .inr (1, [.ref qa_53, .int (nI 0)])), (qa_53, .inl (cI, 16, .inl (fun _ => 0)))] := hD
  refine va_putF (D := D) (ci := 0) (v := .ref q_49) (ty := .object "BodyText$Row") (C := RX0) (T := TX0) (N := 9) hx hb hts (by decide +kernel) tyX0 tyX0_ok nmX0 hown hK hP hD hS 0 rfl rfl 5 (by decide) (hts (.fieldLink RX0 27 "BodyText$Program" "lineStarts" "LBodyText$Row;") (by decide +kernel)) (fun _ h9 => h9) rfl hin rfl (by decide +kernel) rfl rfl (Nat.le_of_ble_eq_true rfl) dX0_init_56 (fun H locs hP hD hS => ?_)
  have hP : va_P D vwCl [(pg, .inr (0, [.null, .ref q_5, .ref q_16, .ref q_27, .ref q_38, .ref q_49, .null, .int (nI 0), .int (nI 0)])), (q_5, .inr (1, [.ref qa_9, .int (nI 0)])), (qa_9, .inl (cI, 16, .inl (fun _ => 0))), (q_16, .inr (1, [.ref qa_20, .int (nI 0)])), (qa_20, .inl (cI, 16, .inl (fun _ => 0))), (q_27, .inr (1, [.ref qa_31, .int (nI 0)])), (qa_31, .inl (cI, 16, .inl (fun _ => 0))), (q_38, .inr (1, [.ref qa_42, .int (nI 0)])), (qa_42, .inl (cI, 16, .inl (fun _ => 0))), (q_49, .inr (1, [.ref qa_53, .int (nI 0)])), (qa_53, .inl (cI, 16, .inl (fun _ => 0)))] H := hP
  have hD : va_D A [(pg, .inr (0, [.null, .ref q_5, .ref q_16, .ref q_27, .ref q_38, .ref q_49, .null, .int (nI 0), .int (nI 0)])), (q_5, .inr (1, [.ref qa_9, .int (nI 0)])), (qa_9, .inl (cI, 16, .inl (fun _ => 0))), (q_16, .inr (1, [.ref qa_20, .int (nI 0)])), (qa_20, .inl (cI, 16, .inl (fun _ => 0))), (q_27, .inr (1, [.ref qa_31, .int (nI 0)])), (qa_31, .inl (cI, 16, .inl (fun _ => 0))), (q_38, .inr (1, [.ref qa_42, .int (nI 0)])), (qa_42, .inl (cI, 16, .inl (fun _ => 0))), (q_49, .inr (1, [.ref qa_53, .int (nI 0)])), (qa_53, .inl (cI, 16, .inl (fun _ => 0)))] := hD
  refine lv_aload_n hx hb dX0_init_59 rfl (lv_at hl 0 rfl) ?_
  refine va_new (ci := 1) (fs := [.null, .int (nI 0)]) (C := RX1) (T := TX1) (N := 2) hx hb hts (by decide +kernel) tyX1 tyX1_ok hown (hts (.classLink RX0 9 RX1) (by decide +kernel)) (hts (.instantiable RX1 2) (by decide +kernel)) (hts (.initialized RX1) (by decide +kernel)) hK hP hD hS hA rfl (fun j hj => by rcases (show j = 0 ∨ j = 1 by omega) with rfl | rfl <;> rfl) (show ((((((((((0 + 1) + 1) + 1) + 1) + 1) + 1) + 1) + 1) + 1) + 1) + 1 ≤ 12 by omega) (show ((((((((((0 + 2) + 16) + 2) + 16) + 2) + 16) + 2) + 16) + 2) + 16) + 2 ≤ 108 by omega) dX0_init_60 (fun q_60 H hP hD hS => ?_)
  have hP : va_P D vwCl [(pg, .inr (0, [.null, .ref q_5, .ref q_16, .ref q_27, .ref q_38, .ref q_49, .null, .int (nI 0), .int (nI 0)])), (q_5, .inr (1, [.ref qa_9, .int (nI 0)])), (qa_9, .inl (cI, 16, .inl (fun _ => 0))), (q_16, .inr (1, [.ref qa_20, .int (nI 0)])), (qa_20, .inl (cI, 16, .inl (fun _ => 0))), (q_27, .inr (1, [.ref qa_31, .int (nI 0)])), (qa_31, .inl (cI, 16, .inl (fun _ => 0))), (q_38, .inr (1, [.ref qa_42, .int (nI 0)])), (qa_42, .inl (cI, 16, .inl (fun _ => 0))), (q_49, .inr (1, [.ref qa_53, .int (nI 0)])), (qa_53, .inl (cI, 16, .inl (fun _ => 0))), (q_60, .inr (1, [.null, .int (nI 0)]))] H := hP
  have hD : va_D A [(pg, .inr (0, [.null, .ref q_5, .ref q_16, .ref q_27, .ref q_38, .ref q_49, .null, .int (nI 0), .int (nI 0)])), (q_5, .inr (1, [.ref qa_9, .int (nI 0)])), (qa_9, .inl (cI, 16, .inl (fun _ => 0))), (q_16, .inr (1, [.ref qa_20, .int (nI 0)])), (qa_20, .inl (cI, 16, .inl (fun _ => 0))), (q_27, .inr (1, [.ref qa_31, .int (nI 0)])), (qa_31, .inl (cI, 16, .inl (fun _ => 0))), (q_38, .inr (1, [.ref qa_42, .int (nI 0)])), (qa_42, .inl (cI, 16, .inl (fun _ => 0))), (q_49, .inr (1, [.ref qa_53, .int (nI 0)])), (qa_53, .inl (cI, 16, .inl (fun _ => 0))), (q_60, .inr (1, [.null, .int (nI 0)]))] := hD
  refine lv_dup hx hb dX0_init_63 rfl ?_
  have hPc := hP.sub (ws' := [(q_60, .inr (1, [.null, .int (nI 0)]))]) [11] rfl
  have hDc := hD.sub (ws' := [(q_60, .inr (1, [.null, .int (nI 0)]))]) [11] (by decide) rfl
  have hFc := va_free (wc := [(q_60, .inr (1, [.null, .int (nI 0)]))]) hD hS hA [11] rfl
  refine va_callv (va_runIN (As := []) (rest := [.ref q_60, .ref pg]) ⟨hx, hb, hml, hown, hts⟩ (kX1_init l D cB cI q_60 H.size) ⟨va_cnB (host := "BodyText") 0 hts gX0_init_X1_init_n11 rfl rfl rfl (bt_nw hN (.methodLinkNest "BodyText$Program" 11 ⟨"BodyText$Row", "<init>", "()V"⟩ "BodyText") (by decide +kernel)) (hts (.initialized RX1) (by decide +kernel)) (by decide +kernel) ⟨Nat.le_of_ble_eq_true rfl, Nat.le_of_ble_eq_true rfl⟩, rfl, hts (.instanceMethod yX1_init) (by decide +kernel)⟩ ⟨fun a U g mk q => ⟨q.1, q.2.calling⟩, fun U hU hW => ⟨rfl, bt_M.of hU hW hPc hK hN hDc⟩⟩ rfl rfl hl.1 rfl (lv_room (Nat.le_of_ble_eq_true rfl)) dX0_init_64 ⟨(show (((((((((((0 + 1) + 1) + 1) + 1) + 1) + 1) + 1) + 1) + 1) + 1) + 1) + 1 ≤ 12 by omega), (show (((((((((((0 + 2) + 16) + 2) + 16) + 2) + 16) + 2) + 16) + 2) + 16) + 2) + 16 ≤ 108 by omega)⟩) hS (fun q _ h => hFc q h) hFc (fun qa_64 t9 H1 locs ht hvm hw hB hz1 hk1 hS => ?_)
  obtain ⟨hP1, hD1⟩ := hB
  rw [ht] at hP1
  try dsimp only at hw hP1 hD1
  obtain ⟨hP, hD⟩ := va_join (wr := [(pg, .inr (0, [.null, .ref q_5, .ref q_16, .ref q_27, .ref q_38, .ref q_49, .null, .int (nI 0), .int (nI 0)])), (q_5, .inr (1, [.ref qa_9, .int (nI 0)])), (qa_9, .inl (cI, 16, .inl (fun _ => 0))), (q_16, .inr (1, [.ref qa_20, .int (nI 0)])), (qa_20, .inl (cI, 16, .inl (fun _ => 0))), (q_27, .inr (1, [.ref qa_31, .int (nI 0)])), (qa_31, .inl (cI, 16, .inl (fun _ => 0))), (q_38, .inr (1, [.ref qa_42, .int (nI 0)])), (qa_42, .inl (cI, 16, .inl (fun _ => 0))), (q_49, .inr (1, [.ref qa_53, .int (nI 0)])), (qa_53, .inl (cI, 16, .inl (fun _ => 0)))]) (w1 := [(q_60, .inr (1, [.ref qa_64, .int (nI 0)])), (qa_64, .inl (cI, 16, .inl (fun _ => 0)))]) hP hD [11] [0, 1, 2, 3, 4, 5, 6, 7, 8, 9, 10] rfl rfl (by decide) (by decide) hk1 hFc hP1 hD1
  clear hP1 hD1 hPc hDc hFc hk1 hz1 hvm
  generalize H1 = H at hP hS ht ⊢
  have hP : va_P D vwCl [(pg, .inr (0, [.null, .ref q_5, .ref q_16, .ref q_27, .ref q_38, .ref q_49, .null, .int (nI 0), .int (nI 0)])), (q_5, .inr (1, [.ref qa_9, .int (nI 0)])), (qa_9, .inl (cI, 16, .inl (fun _ => 0))), (q_16, .inr (1, [.ref qa_20, .int (nI 0)])), (qa_20, .inl (cI, 16, .inl (fun _ => 0))), (q_27, .inr (1, [.ref qa_31, .int (nI 0)])), (qa_31, .inl (cI, 16, .inl (fun _ => 0))), (q_38, .inr (1, [.ref qa_42, .int (nI 0)])), (qa_42, .inl (cI, 16, .inl (fun _ => 0))), (q_49, .inr (1, [.ref qa_53, .int (nI 0)])), (qa_53, .inl (cI, 16, .inl (fun _ => 0))), (q_60, .inr (1, [.ref qa_64, .int (nI 0)])), (qa_64, .inl (cI, 16, .inl (fun _ => 0)))] H := hP
  have hD : va_D A [(pg, .inr (0, [.null, .ref q_5, .ref q_16, .ref q_27, .ref q_38, .ref q_49, .null, .int (nI 0), .int (nI 0)])), (q_5, .inr (1, [.ref qa_9, .int (nI 0)])), (qa_9, .inl (cI, 16, .inl (fun _ => 0))), (q_16, .inr (1, [.ref qa_20, .int (nI 0)])), (qa_20, .inl (cI, 16, .inl (fun _ => 0))), (q_27, .inr (1, [.ref qa_31, .int (nI 0)])), (qa_31, .inl (cI, 16, .inl (fun _ => 0))), (q_38, .inr (1, [.ref qa_42, .int (nI 0)])), (qa_42, .inl (cI, 16, .inl (fun _ => 0))), (q_49, .inr (1, [.ref qa_53, .int (nI 0)])), (qa_53, .inl (cI, 16, .inl (fun _ => 0))), (q_60, .inr (1, [.ref qa_64, .int (nI 0)])), (qa_64, .inl (cI, 16, .inl (fun _ => 0)))] := hD
  refine va_putF (D := D) (ci := 0) (v := .ref q_60) (ty := .object "BodyText$Row") (C := RX0) (T := TX0) (N := 9) hx hb hts (by decide +kernel) tyX0 tyX0_ok nmX0 hown hK hP hD hS 0 rfl rfl 6 (by decide) (hts (.fieldLink RX0 30 "BodyText$Program" "lineInstructions" "LBodyText$Row;") (by decide +kernel)) (fun _ h9 => h9) rfl hin rfl (by decide +kernel) rfl rfl (Nat.le_of_ble_eq_true rfl) dX0_init_67 (fun H locs hP hD hS => ?_)
  have hP : va_P D vwCl [(pg, .inr (0, [.null, .ref q_5, .ref q_16, .ref q_27, .ref q_38, .ref q_49, .ref q_60, .int (nI 0), .int (nI 0)])), (q_5, .inr (1, [.ref qa_9, .int (nI 0)])), (qa_9, .inl (cI, 16, .inl (fun _ => 0))), (q_16, .inr (1, [.ref qa_20, .int (nI 0)])), (qa_20, .inl (cI, 16, .inl (fun _ => 0))), (q_27, .inr (1, [.ref qa_31, .int (nI 0)])), (qa_31, .inl (cI, 16, .inl (fun _ => 0))), (q_38, .inr (1, [.ref qa_42, .int (nI 0)])), (qa_42, .inl (cI, 16, .inl (fun _ => 0))), (q_49, .inr (1, [.ref qa_53, .int (nI 0)])), (qa_53, .inl (cI, 16, .inl (fun _ => 0))), (q_60, .inr (1, [.ref qa_64, .int (nI 0)])), (qa_64, .inl (cI, 16, .inl (fun _ => 0)))] H := hP
  have hD : va_D A [(pg, .inr (0, [.null, .ref q_5, .ref q_16, .ref q_27, .ref q_38, .ref q_49, .ref q_60, .int (nI 0), .int (nI 0)])), (q_5, .inr (1, [.ref qa_9, .int (nI 0)])), (qa_9, .inl (cI, 16, .inl (fun _ => 0))), (q_16, .inr (1, [.ref qa_20, .int (nI 0)])), (qa_20, .inl (cI, 16, .inl (fun _ => 0))), (q_27, .inr (1, [.ref qa_31, .int (nI 0)])), (qa_31, .inl (cI, 16, .inl (fun _ => 0))), (q_38, .inr (1, [.ref qa_42, .int (nI 0)])), (qa_42, .inl (cI, 16, .inl (fun _ => 0))), (q_49, .inr (1, [.ref qa_53, .int (nI 0)])), (qa_53, .inl (cI, 16, .inl (fun _ => 0))), (q_60, .inr (1, [.ref qa_64, .int (nI 0)])), (qa_64, .inl (cI, 16, .inl (fun _ => 0)))] := hD
  refine lv_aload_n hx hb dX0_init_70 rfl (lv_at hl 0 rfl) ?_
  refine lv_iconst (v := nI 0) hx hb dX0_init_71 (by decide) ?_
  refine va_put (D := D) (ci := 0) (v := .int (nI 0)) (ty := .int) (C := RX0) (T := TX0) (N := 9) hx hb hts (by decide +kernel) tyX0 tyX0_ok nmX0 hown hK hP hD hS 0 rfl rfl 7 (by decide) (hts (.fieldLink RX0 33 "BodyText$Program" "at" "I") (by decide +kernel)) (fun _ h9 => h9) rfl (by decide +kernel) rfl rfl (Nat.le_of_ble_eq_true rfl) dX0_init_72 (fun H locs hP hD hS => ?_)
  have hP : va_P D vwCl [(pg, .inr (0, [.null, .ref q_5, .ref q_16, .ref q_27, .ref q_38, .ref q_49, .ref q_60, .int (nI 0), .int (nI 0)])), (q_5, .inr (1, [.ref qa_9, .int (nI 0)])), (qa_9, .inl (cI, 16, .inl (fun _ => 0))), (q_16, .inr (1, [.ref qa_20, .int (nI 0)])), (qa_20, .inl (cI, 16, .inl (fun _ => 0))), (q_27, .inr (1, [.ref qa_31, .int (nI 0)])), (qa_31, .inl (cI, 16, .inl (fun _ => 0))), (q_38, .inr (1, [.ref qa_42, .int (nI 0)])), (qa_42, .inl (cI, 16, .inl (fun _ => 0))), (q_49, .inr (1, [.ref qa_53, .int (nI 0)])), (qa_53, .inl (cI, 16, .inl (fun _ => 0))), (q_60, .inr (1, [.ref qa_64, .int (nI 0)])), (qa_64, .inl (cI, 16, .inl (fun _ => 0)))] H := hP
  have hD : va_D A [(pg, .inr (0, [.null, .ref q_5, .ref q_16, .ref q_27, .ref q_38, .ref q_49, .ref q_60, .int (nI 0), .int (nI 0)])), (q_5, .inr (1, [.ref qa_9, .int (nI 0)])), (qa_9, .inl (cI, 16, .inl (fun _ => 0))), (q_16, .inr (1, [.ref qa_20, .int (nI 0)])), (qa_20, .inl (cI, 16, .inl (fun _ => 0))), (q_27, .inr (1, [.ref qa_31, .int (nI 0)])), (qa_31, .inl (cI, 16, .inl (fun _ => 0))), (q_38, .inr (1, [.ref qa_42, .int (nI 0)])), (qa_42, .inl (cI, 16, .inl (fun _ => 0))), (q_49, .inr (1, [.ref qa_53, .int (nI 0)])), (qa_53, .inl (cI, 16, .inl (fun _ => 0))), (q_60, .inr (1, [.ref qa_64, .int (nI 0)])), (qa_64, .inl (cI, 16, .inl (fun _ => 0)))] := hD
  refine lv_aload_n hx hb dX0_init_75 rfl (lv_at hl 0 rfl) ?_
  refine lv_iconst (v := nI 0) hx hb dX0_init_76 (by decide) ?_
  refine va_put (D := D) (ci := 0) (v := .int (nI 0)) (ty := .int) (C := RX0) (T := TX0) (N := 9) hx hb hts (by decide +kernel) tyX0 tyX0_ok nmX0 hown hK hP hD hS 0 rfl rfl 8 (by decide) (hts (.fieldLink RX0 37 "BodyText$Program" "level" "I") (by decide +kernel)) (fun _ h9 => h9) rfl (by decide +kernel) rfl rfl (Nat.le_of_ble_eq_true rfl) dX0_init_77 (fun H locs hP hD hS => ?_)
  have hP : va_P D vwCl [(pg, .inr (0, [.null, .ref q_5, .ref q_16, .ref q_27, .ref q_38, .ref q_49, .ref q_60, .int (nI 0), .int (nI 0)])), (q_5, .inr (1, [.ref qa_9, .int (nI 0)])), (qa_9, .inl (cI, 16, .inl (fun _ => 0))), (q_16, .inr (1, [.ref qa_20, .int (nI 0)])), (qa_20, .inl (cI, 16, .inl (fun _ => 0))), (q_27, .inr (1, [.ref qa_31, .int (nI 0)])), (qa_31, .inl (cI, 16, .inl (fun _ => 0))), (q_38, .inr (1, [.ref qa_42, .int (nI 0)])), (qa_42, .inl (cI, 16, .inl (fun _ => 0))), (q_49, .inr (1, [.ref qa_53, .int (nI 0)])), (qa_53, .inl (cI, 16, .inl (fun _ => 0))), (q_60, .inr (1, [.ref qa_64, .int (nI 0)])), (qa_64, .inl (cI, 16, .inl (fun _ => 0)))] H := hP
  have hD : va_D A [(pg, .inr (0, [.null, .ref q_5, .ref q_16, .ref q_27, .ref q_38, .ref q_49, .ref q_60, .int (nI 0), .int (nI 0)])), (q_5, .inr (1, [.ref qa_9, .int (nI 0)])), (qa_9, .inl (cI, 16, .inl (fun _ => 0))), (q_16, .inr (1, [.ref qa_20, .int (nI 0)])), (qa_20, .inl (cI, 16, .inl (fun _ => 0))), (q_27, .inr (1, [.ref qa_31, .int (nI 0)])), (qa_31, .inl (cI, 16, .inl (fun _ => 0))), (q_38, .inr (1, [.ref qa_42, .int (nI 0)])), (qa_42, .inl (cI, 16, .inl (fun _ => 0))), (q_49, .inr (1, [.ref qa_53, .int (nI 0)])), (qa_53, .inl (cI, 16, .inl (fun _ => 0))), (q_60, .inr (1, [.ref qa_64, .int (nI 0)])), (qa_64, .inl (cI, 16, .inl (fun _ => 0)))] := hD
  refine lv_aload_n hx hb dX0_init_80 rfl (lv_at hl 0 rfl) ?_
  refine lv_aload_n hx hb dX0_init_81 rfl (lv_at hl 1 rfl) ?_
  refine va_putF (D := D) (ci := 0) (v := .ref t) (ty := .object "BodyText$Tokens") (C := RX0) (T := TX0) (N := 9) hx hb hts (by decide +kernel) tyX0 tyX0_ok nmX0 hown hK hP hD hS 0 rfl rfl 0 (by decide) (hts (.fieldLink RX0 40 "BodyText$Program" "tokens" "LBodyText$Tokens;") (by decide +kernel)) (fun _ h9 => h9) rfl hin rfl (by decide +kernel) rfl rfl (Nat.le_of_ble_eq_true rfl) dX0_init_82 (fun H locs hP hD hS => ?_)
  have hP : va_P D vwCl [(pg, .inr (0, [.ref t, .ref q_5, .ref q_16, .ref q_27, .ref q_38, .ref q_49, .ref q_60, .int (nI 0), .int (nI 0)])), (q_5, .inr (1, [.ref qa_9, .int (nI 0)])), (qa_9, .inl (cI, 16, .inl (fun _ => 0))), (q_16, .inr (1, [.ref qa_20, .int (nI 0)])), (qa_20, .inl (cI, 16, .inl (fun _ => 0))), (q_27, .inr (1, [.ref qa_31, .int (nI 0)])), (qa_31, .inl (cI, 16, .inl (fun _ => 0))), (q_38, .inr (1, [.ref qa_42, .int (nI 0)])), (qa_42, .inl (cI, 16, .inl (fun _ => 0))), (q_49, .inr (1, [.ref qa_53, .int (nI 0)])), (qa_53, .inl (cI, 16, .inl (fun _ => 0))), (q_60, .inr (1, [.ref qa_64, .int (nI 0)])), (qa_64, .inl (cI, 16, .inl (fun _ => 0)))] H := hP
  have hD : va_D A [(pg, .inr (0, [.ref t, .ref q_5, .ref q_16, .ref q_27, .ref q_38, .ref q_49, .ref q_60, .int (nI 0), .int (nI 0)])), (q_5, .inr (1, [.ref qa_9, .int (nI 0)])), (qa_9, .inl (cI, 16, .inl (fun _ => 0))), (q_16, .inr (1, [.ref qa_20, .int (nI 0)])), (qa_20, .inl (cI, 16, .inl (fun _ => 0))), (q_27, .inr (1, [.ref qa_31, .int (nI 0)])), (qa_31, .inl (cI, 16, .inl (fun _ => 0))), (q_38, .inr (1, [.ref qa_42, .int (nI 0)])), (qa_42, .inl (cI, 16, .inl (fun _ => 0))), (q_49, .inr (1, [.ref qa_53, .int (nI 0)])), (qa_53, .inl (cI, 16, .inl (fun _ => 0))), (q_60, .inr (1, [.ref qa_64, .int (nI 0)])), (qa_64, .inl (cI, 16, .inl (fun _ => 0)))] := hD
  have hP9 := hP.sub (ws' := [(pg, .inr (0, [.ref t, .ref q_5, .ref q_16, .ref q_27, .ref q_38, .ref q_49, .ref q_60, .int (nI 0), .int (nI 0)])), (q_5, .inr (1, [.ref qa_9, .int (nI 0)])), (qa_9, .inl (cI, 16, .inl (fun _ => 0))), (q_16, .inr (1, [.ref qa_20, .int (nI 0)])), (qa_20, .inl (cI, 16, .inl (fun _ => 0))), (q_27, .inr (1, [.ref qa_31, .int (nI 0)])), (qa_31, .inl (cI, 16, .inl (fun _ => 0))), (q_38, .inr (1, [.ref qa_42, .int (nI 0)])), (qa_42, .inl (cI, 16, .inl (fun _ => 0))), (q_49, .inr (1, [.ref qa_53, .int (nI 0)])), (qa_53, .inl (cI, 16, .inl (fun _ => 0))), (q_60, .inr (1, [.ref qa_64, .int (nI 0)])), (qa_64, .inl (cI, 16, .inl (fun _ => 0)))]) [0, 1, 2, 3, 4, 5, 6, 7, 8, 9, 10, 11, 12] rfl
  have hD9 := hD.sub (ws' := [(pg, .inr (0, [.ref t, .ref q_5, .ref q_16, .ref q_27, .ref q_38, .ref q_49, .ref q_60, .int (nI 0), .int (nI 0)])), (q_5, .inr (1, [.ref qa_9, .int (nI 0)])), (qa_9, .inl (cI, 16, .inl (fun _ => 0))), (q_16, .inr (1, [.ref qa_20, .int (nI 0)])), (qa_20, .inl (cI, 16, .inl (fun _ => 0))), (q_27, .inr (1, [.ref qa_31, .int (nI 0)])), (qa_31, .inl (cI, 16, .inl (fun _ => 0))), (q_38, .inr (1, [.ref qa_42, .int (nI 0)])), (qa_42, .inl (cI, 16, .inl (fun _ => 0))), (q_49, .inr (1, [.ref qa_53, .int (nI 0)])), (qa_53, .inl (cI, 16, .inl (fun _ => 0))), (q_60, .inr (1, [.ref qa_64, .int (nI 0)])), (qa_64, .inl (cI, 16, .inl (fun _ => 0)))]) [0, 1, 2, 3, 4, 5, 6, 7, 8, 9, 10, 11, 12] (by decide) rfl
  refine W.widen (k := 12) (n := 108) (show ((((((((((((0 + 1) + 1) + 1) + 1) + 1) + 1) + 1) + 1) + 1) + 1) + 1) + 1) ≤ 12 by omega) (show ((((((((((((0 + 2) + 16) + 2) + 16) + 2) + 16) + 2) + 16) + 2) + 16) + 2) + 16) ≤ 108 by omega) ?_
  exact W.vret hx hb hr (fun t9 ht hW => ⟨⟨(mk6 q_5 q_16 q_27 q_38 q_49 q_60, mk6 qa_9 qa_20 qa_31 qa_42 qa_53 qa_64), rfl, trivial, by rw [ht]; exact hP9, hD9⟩, hS.F ht⟩) hS.2.2 dX0_init_85
set_option maxHeartbeats 4000000 in
set_option maxRecDepth 100000 in
/-- Program.clear() -/
theorem kX0_clear (l : Launch) (D : va_G) (cB cI : ClassId) (pg t R0 R1 R2 R3 R4 R5 a lv : Nat) (Q : Nat → Nat) (kC kM kL : Nat) (sz : Nat) : Met l yX0_clear wsX0_clear ({ frames := 1, cells := 0, slots := 0, locals := 20 }) (va_Pc [.ref pg] (bt_M D cB cI sz [(pg, .inr (0, [.ref t, .ref R0, .ref R1, .ref R2, .ref R3, .ref R4, .ref R5, .int (nI a), .int (nI lv)])), (R0, .inr (1, [.ref (Q 0), .int (nI kC)])), (R1, .inr (1, [.ref (Q 1), .int (nI kM)])), (R2, .inr (1, [.ref (Q 2), .int (nI kM)])), (R3, .inr (1, [.ref (Q 3), .int (nI kL)])), (R4, .inr (1, [.ref (Q 4), .int (nI kL)])), (R5, .inr (1, [.ref (Q 5), .int (nI kL)]))])) (va_Qv (S := Unit) (fun _ => True) (fun u t9 => bt_L D (va_A [(pg, .inr (0, [.ref t, .ref R0, .ref R1, .ref R2, .ref R3, .ref R4, .ref R5, .int (nI a), .int (nI lv)])), (R0, .inr (1, [.ref (Q 0), .int (nI kC)])), (R1, .inr (1, [.ref (Q 1), .int (nI kM)])), (R2, .inr (1, [.ref (Q 2), .int (nI kM)])), (R3, .inr (1, [.ref (Q 3), .int (nI kL)])), (R4, .inr (1, [.ref (Q 4), .int (nI kL)])), (R5, .inr (1, [.ref (Q 5), .int (nI kL)]))] sz) ((fun _ => [(pg, .inr (0, [.ref t, .ref R0, .ref R1, .ref R2, .ref R3, .ref R4, .ref R5, .int (nI 0), .int (nI 0)])), (R0, .inr (1, [.ref (Q 0), .int (nI 0)])), (R1, .inr (1, [.ref (Q 1), .int (nI 0)])), (R2, .inr (1, [.ref (Q 2), .int (nI 0)])), (R3, .inr (1, [.ref (Q 3), .int (nI 0)])), (R4, .inr (1, [.ref (Q 4), .int (nI 0)])), (R5, .inr (1, [.ref (Q 5), .int (nI 0)]))]) u) t9) (va_A [(pg, .inr (0, [.ref t, .ref R0, .ref R1, .ref R2, .ref R3, .ref R4, .ref R5, .int (nI a), .int (nI lv)])), (R0, .inr (1, [.ref (Q 0), .int (nI kC)])), (R1, .inr (1, [.ref (Q 1), .int (nI kM)])), (R2, .inr (1, [.ref (Q 2), .int (nI kM)])), (R3, .inr (1, [.ref (Q 3), .int (nI kL)])), (R4, .inr (1, [.ref (Q 4), .int (nI kL)])), (R5, .inr (1, [.ref (Q 5), .int (nI kL)]))] sz)) 0 0 (va_A [(pg, .inr (0, [.ref t, .ref R0, .ref R1, .ref R2, .ref R3, .ref R4, .ref R5, .int (nI a), .int (nI lv)])), (R0, .inr (1, [.ref (Q 0), .int (nI kC)])), (R1, .inr (1, [.ref (Q 1), .int (nI kM)])), (R2, .inr (1, [.ref (Q 2), .int (nI kM)])), (R3, .inr (1, [.ref (Q 3), .int (nI kL)])), (R4, .inr (1, [.ref (Q 4), .int (nI kL)])), (R5, .inr (1, [.ref (Q 5), .int (nI kL)]))] sz) := by
  refine Met.ofW (cc := cX0_clear) (maxL := 1) (ret := none) (by decide) rfl ?_
  intro p e s m args below meth c s₁ B hml hv
  obtain ⟨rfl, hsz, hP, hK, hN, hD0⟩ := hv
  have hx := B.exec
  have hb := B.bytes
  have hr := B.returns
  have hts := atoms_spec (ws := wsX0_clear) B.pre
  have hown : s.vm.findClass RX0 = some m.cls := findClass_of_methodNamed B.named
  have hlocks := B.notSynchronized
  subst hsz
  have hD := hD0.self (sz := s.heap.size)
  generalize hAe : va_A [(pg, .inr (0, [.ref t, .ref R0, .ref R1, .ref R2, .ref R3, .ref R4, .ref R5, .int (nI a), .int (nI lv)])), (R0, .inr (1, [.ref (Q 0), .int (nI kC)])), (R1, .inr (1, [.ref (Q 1), .int (nI kM)])), (R2, .inr (1, [.ref (Q 2), .int (nI kM)])), (R3, .inr (1, [.ref (Q 3), .int (nI kL)])), (R4, .inr (1, [.ref (Q 4), .int (nI kL)])), (R5, .inr (1, [.ref (Q 5), .int (nI kL)]))] s.heap.size = A at hD ⊢
  have hA : ∀ q : Nat, s.heap.size ≤ q → A q := fun q h => by rw [← hAe]; exact Or.inr h
  have hS : va_S A s.heap s.heap [] := va_S.rf
  have hl := lv_entry ([.ref pg]) (n := 1) (Nat.le_of_ble_eq_true rfl)
  rw [lg_entry_eq]
  generalize (lg_sl ([.ref pg]) ++ List.replicate (1 - (lg_sl ([.ref pg])).length) Slot.unset).toArray = ls at hl ⊢
  have hl : lv_has ls 1 [(0, .ref pg)] := hl
  refine lv_aload_n hx hb dX0_clear_0 rfl (lv_at hl 0 rfl) ?_
  refine va_get (D := D) (ci := 0) (v := .ref R0) (C := RX0) (T := TX0) (N := 9) hx hb hts (by decide +kernel) hown hK hP 0 rfl rfl 1 (by decide) (hts (.fieldLink RX0 12 "BodyText$Program" "classNames" "LBodyText$Row;") (by decide +kernel)) (fun _ h9 => h9) rfl dX0_clear_1 ?_
  have hPc := hP.sub (ws' := [(R0, .inr (1, [.ref (Q 0), .int (nI kC)]))]) [1] rfl
  have hDc := hD.sub (ws' := [(R0, .inr (1, [.ref (Q 0), .int (nI kC)]))]) [1] (by decide) rfl
  have hFc := va_free (wc := [(R0, .inr (1, [.ref (Q 0), .int (nI kC)]))]) hD hS hA [1] rfl
  refine va_callv (va_runV (As := []) (rest := []) ⟨hx, hb, hml, hown, hts⟩ (kX1_clear l D cB cI R0 (Q 0) kC s.heap.size) (cwV 0 hts gX0_clear_X1_clear rfl rfl rfl (by decide +kernel) ⟨Nat.le_of_ble_eq_true rfl, Nat.le_of_ble_eq_true rfl⟩) ⟨fun a U g mk q => ⟨q.1, q.2.calling⟩, va_recv hK hPc (ci := 1) (q0 := 0) rfl rfl, fun U hU hW => ⟨rfl, bt_M.of hU hW hPc hK hN hDc⟩⟩ rfl rfl hl.1 rfl (lv_room (Nat.le_of_ble_eq_true rfl)) dX0_clear_4 ⟨(show 0 + 0 ≤ 0 by omega), (show 0 + 0 ≤ 0 by omega)⟩) hS (fun q _ h => hFc q h) hFc (fun u t9 H1 locs ht hvm hw hB hz1 hk1 hS => ?_)
  obtain ⟨hP1, hD1⟩ := hB
  rw [ht] at hP1
  try dsimp only at hw hP1 hD1
  obtain ⟨hP, hD⟩ := va_join (wr := [(pg, .inr (0, [.ref t, .ref R0, .ref R1, .ref R2, .ref R3, .ref R4, .ref R5, .int (nI a), .int (nI lv)])), (R1, .inr (1, [.ref (Q 1), .int (nI kM)])), (R2, .inr (1, [.ref (Q 2), .int (nI kM)])), (R3, .inr (1, [.ref (Q 3), .int (nI kL)])), (R4, .inr (1, [.ref (Q 4), .int (nI kL)])), (R5, .inr (1, [.ref (Q 5), .int (nI kL)]))]) (w1 := [(R0, .inr (1, [.ref (Q 0), .int (nI 0)]))]) hP hD [1] [0, 2, 3, 4, 5, 6] rfl rfl (by decide) (by decide) hk1 hFc hP1 hD1
  clear hP1 hD1 hPc hDc hFc hk1 hz1 hvm
  generalize H1 = H at hP hS ht ⊢
  have hP : va_P D vwCl [(pg, .inr (0, [.ref t, .ref R0, .ref R1, .ref R2, .ref R3, .ref R4, .ref R5, .int (nI a), .int (nI lv)])), (R1, .inr (1, [.ref (Q 1), .int (nI kM)])), (R2, .inr (1, [.ref (Q 2), .int (nI kM)])), (R3, .inr (1, [.ref (Q 3), .int (nI kL)])), (R4, .inr (1, [.ref (Q 4), .int (nI kL)])), (R5, .inr (1, [.ref (Q 5), .int (nI kL)])), (R0, .inr (1, [.ref (Q 0), .int (nI 0)]))] H := hP
  have hD : va_D A [(pg, .inr (0, [.ref t, .ref R0, .ref R1, .ref R2, .ref R3, .ref R4, .ref R5, .int (nI a), .int (nI lv)])), (R1, .inr (1, [.ref (Q 1), .int (nI kM)])), (R2, .inr (1, [.ref (Q 2), .int (nI kM)])), (R3, .inr (1, [.ref (Q 3), .int (nI kL)])), (R4, .inr (1, [.ref (Q 4), .int (nI kL)])), (R5, .inr (1, [.ref (Q 5), .int (nI kL)])), (R0, .inr (1, [.ref (Q 0), .int (nI 0)]))] := hD
  refine W.widen (k := 0) (n := 0) (Nat.le_refl _) (Nat.le_refl _) ?_
  refine lv_aload_n hx hb dX0_clear_7 rfl (lv_at hl 0 rfl) ?_
  refine va_get (D := D) (ci := 0) (v := .ref R1) (C := RX0) (T := TX0) (N := 9) hx hb hts (by decide +kernel) hown hK hP 0 rfl rfl 2 (by decide) (hts (.fieldLink RX0 18 "BodyText$Program" "memberKinds" "LBodyText$Row;") (by decide +kernel)) (fun _ h9 => h9) rfl dX0_clear_8 ?_
  have hPc := hP.sub (ws' := [(R1, .inr (1, [.ref (Q 1), .int (nI kM)]))]) [1] rfl
  have hDc := hD.sub (ws' := [(R1, .inr (1, [.ref (Q 1), .int (nI kM)]))]) [1] (by decide) rfl
  have hFc := va_free (wc := [(R1, .inr (1, [.ref (Q 1), .int (nI kM)]))]) hD hS hA [1] rfl
  refine va_callv (va_runV (As := []) (rest := []) ⟨hx, hb, hml, hown, hts⟩ (kX1_clear l D cB cI R1 (Q 1) kM H.size) (cwV 0 hts gX0_clear_X1_clear rfl rfl rfl (by decide +kernel) ⟨Nat.le_of_ble_eq_true rfl, Nat.le_of_ble_eq_true rfl⟩) ⟨fun a U g mk q => ⟨q.1, q.2.calling⟩, va_recv hK hPc (ci := 1) (q0 := 0) rfl rfl, fun U hU hW => ⟨rfl, bt_M.of hU hW hPc hK hN hDc⟩⟩ rfl rfl hl.1 rfl (lv_room (Nat.le_of_ble_eq_true rfl)) dX0_clear_11 ⟨(show 0 + 0 ≤ 0 by omega), (show 0 + 0 ≤ 0 by omega)⟩) hS (fun q _ h => hFc q h) hFc (fun u t9 H1 locs ht hvm hw hB hz1 hk1 hS => ?_)
  obtain ⟨hP1, hD1⟩ := hB
  rw [ht] at hP1
  try dsimp only at hw hP1 hD1
  obtain ⟨hP, hD⟩ := va_join (wr := [(pg, .inr (0, [.ref t, .ref R0, .ref R1, .ref R2, .ref R3, .ref R4, .ref R5, .int (nI a), .int (nI lv)])), (R2, .inr (1, [.ref (Q 2), .int (nI kM)])), (R3, .inr (1, [.ref (Q 3), .int (nI kL)])), (R4, .inr (1, [.ref (Q 4), .int (nI kL)])), (R5, .inr (1, [.ref (Q 5), .int (nI kL)])), (R0, .inr (1, [.ref (Q 0), .int (nI 0)]))]) (w1 := [(R1, .inr (1, [.ref (Q 1), .int (nI 0)]))]) hP hD [1] [0, 2, 3, 4, 5, 6] rfl rfl (by decide) (by decide) hk1 hFc hP1 hD1
  clear hP1 hD1 hPc hDc hFc hk1 hz1 hvm
  generalize H1 = H at hP hS ht ⊢
  have hP : va_P D vwCl [(pg, .inr (0, [.ref t, .ref R0, .ref R1, .ref R2, .ref R3, .ref R4, .ref R5, .int (nI a), .int (nI lv)])), (R2, .inr (1, [.ref (Q 2), .int (nI kM)])), (R3, .inr (1, [.ref (Q 3), .int (nI kL)])), (R4, .inr (1, [.ref (Q 4), .int (nI kL)])), (R5, .inr (1, [.ref (Q 5), .int (nI kL)])), (R0, .inr (1, [.ref (Q 0), .int (nI 0)])), (R1, .inr (1, [.ref (Q 1), .int (nI 0)]))] H := hP
  have hD : va_D A [(pg, .inr (0, [.ref t, .ref R0, .ref R1, .ref R2, .ref R3, .ref R4, .ref R5, .int (nI a), .int (nI lv)])), (R2, .inr (1, [.ref (Q 2), .int (nI kM)])), (R3, .inr (1, [.ref (Q 3), .int (nI kL)])), (R4, .inr (1, [.ref (Q 4), .int (nI kL)])), (R5, .inr (1, [.ref (Q 5), .int (nI kL)])), (R0, .inr (1, [.ref (Q 0), .int (nI 0)])), (R1, .inr (1, [.ref (Q 1), .int (nI 0)]))] := hD
  refine W.widen (k := 0) (n := 0) (Nat.le_refl _) (Nat.le_refl _) ?_
  refine lv_aload_n hx hb dX0_clear_14 rfl (lv_at hl 0 rfl) ?_
  refine va_get (D := D) (ci := 0) (v := .ref R2) (C := RX0) (T := TX0) (N := 9) hx hb hts (by decide +kernel) hown hK hP 0 rfl rfl 3 (by decide) (hts (.fieldLink RX0 21 "BodyText$Program" "memberNames" "LBodyText$Row;") (by decide +kernel)) (fun _ h9 => h9) rfl dX0_clear_15 ?_
  have hPc := hP.sub (ws' := [(R2, .inr (1, [.ref (Q 2), .int (nI kM)]))]) [1] rfl
  have hDc := hD.sub (ws' := [(R2, .inr (1, [.ref (Q 2), .int (nI kM)]))]) [1] (by decide) rfl
  have hFc := va_free (wc := [(R2, .inr (1, [.ref (Q 2), .int (nI kM)]))]) hD hS hA [1] rfl
  refine va_callv (va_runV (As := []) (rest := []) ⟨hx, hb, hml, hown, hts⟩ (kX1_clear l D cB cI R2 (Q 2) kM H.size) (cwV 0 hts gX0_clear_X1_clear rfl rfl rfl (by decide +kernel) ⟨Nat.le_of_ble_eq_true rfl, Nat.le_of_ble_eq_true rfl⟩) ⟨fun a U g mk q => ⟨q.1, q.2.calling⟩, va_recv hK hPc (ci := 1) (q0 := 0) rfl rfl, fun U hU hW => ⟨rfl, bt_M.of hU hW hPc hK hN hDc⟩⟩ rfl rfl hl.1 rfl (lv_room (Nat.le_of_ble_eq_true rfl)) dX0_clear_18 ⟨(show 0 + 0 ≤ 0 by omega), (show 0 + 0 ≤ 0 by omega)⟩) hS (fun q _ h => hFc q h) hFc (fun u t9 H1 locs ht hvm hw hB hz1 hk1 hS => ?_)
  obtain ⟨hP1, hD1⟩ := hB
  rw [ht] at hP1
  try dsimp only at hw hP1 hD1
  obtain ⟨hP, hD⟩ := va_join (wr := [(pg, .inr (0, [.ref t, .ref R0, .ref R1, .ref R2, .ref R3, .ref R4, .ref R5, .int (nI a), .int (nI lv)])), (R3, .inr (1, [.ref (Q 3), .int (nI kL)])), (R4, .inr (1, [.ref (Q 4), .int (nI kL)])), (R5, .inr (1, [.ref (Q 5), .int (nI kL)])), (R0, .inr (1, [.ref (Q 0), .int (nI 0)])), (R1, .inr (1, [.ref (Q 1), .int (nI 0)]))]) (w1 := [(R2, .inr (1, [.ref (Q 2), .int (nI 0)]))]) hP hD [1] [0, 2, 3, 4, 5, 6] rfl rfl (by decide) (by decide) hk1 hFc hP1 hD1
  clear hP1 hD1 hPc hDc hFc hk1 hz1 hvm
  generalize H1 = H at hP hS ht ⊢
  have hP : va_P D vwCl [(pg, .inr (0, [.ref t, .ref R0, .ref R1, .ref R2, .ref R3, .ref R4, .ref R5, .int (nI a), .int (nI lv)])), (R3, .inr (1, [.ref (Q 3), .int (nI kL)])), (R4, .inr (1, [.ref (Q 4), .int (nI kL)])), (R5, .inr (1, [.ref (Q 5), .int (nI kL)])), (R0, .inr (1, [.ref (Q 0), .int (nI 0)])), (R1, .inr (1, [.ref (Q 1), .int (nI 0)])), (R2, .inr (1, [.ref (Q 2), .int (nI 0)]))] H := hP
  have hD : va_D A [(pg, .inr (0, [.ref t, .ref R0, .ref R1, .ref R2, .ref R3, .ref R4, .ref R5, .int (nI a), .int (nI lv)])), (R3, .inr (1, [.ref (Q 3), .int (nI kL)])), (R4, .inr (1, [.ref (Q 4), .int (nI kL)])), (R5, .inr (1, [.ref (Q 5), .int (nI kL)])), (R0, .inr (1, [.ref (Q 0), .int (nI 0)])), (R1, .inr (1, [.ref (Q 1), .int (nI 0)])), (R2, .inr (1, [.ref (Q 2), .int (nI 0)]))] := hD
  refine W.widen (k := 0) (n := 0) (Nat.le_refl _) (Nat.le_refl _) ?_
  refine lv_aload_n hx hb dX0_clear_21 rfl (lv_at hl 0 rfl) ?_
  refine va_get (D := D) (ci := 0) (v := .ref R3) (C := RX0) (T := TX0) (N := 9) hx hb hts (by decide +kernel) hown hK hP 0 rfl rfl 4 (by decide) (hts (.fieldLink RX0 24 "BodyText$Program" "lineKinds" "LBodyText$Row;") (by decide +kernel)) (fun _ h9 => h9) rfl dX0_clear_22 ?_
  have hPc := hP.sub (ws' := [(R3, .inr (1, [.ref (Q 3), .int (nI kL)]))]) [1] rfl
  have hDc := hD.sub (ws' := [(R3, .inr (1, [.ref (Q 3), .int (nI kL)]))]) [1] (by decide) rfl
  have hFc := va_free (wc := [(R3, .inr (1, [.ref (Q 3), .int (nI kL)]))]) hD hS hA [1] rfl
  refine va_callv (va_runV (As := []) (rest := []) ⟨hx, hb, hml, hown, hts⟩ (kX1_clear l D cB cI R3 (Q 3) kL H.size) (cwV 0 hts gX0_clear_X1_clear rfl rfl rfl (by decide +kernel) ⟨Nat.le_of_ble_eq_true rfl, Nat.le_of_ble_eq_true rfl⟩) ⟨fun a U g mk q => ⟨q.1, q.2.calling⟩, va_recv hK hPc (ci := 1) (q0 := 0) rfl rfl, fun U hU hW => ⟨rfl, bt_M.of hU hW hPc hK hN hDc⟩⟩ rfl rfl hl.1 rfl (lv_room (Nat.le_of_ble_eq_true rfl)) dX0_clear_25 ⟨(show 0 + 0 ≤ 0 by omega), (show 0 + 0 ≤ 0 by omega)⟩) hS (fun q _ h => hFc q h) hFc (fun u t9 H1 locs ht hvm hw hB hz1 hk1 hS => ?_)
  obtain ⟨hP1, hD1⟩ := hB
  rw [ht] at hP1
  try dsimp only at hw hP1 hD1
  obtain ⟨hP, hD⟩ := va_join (wr := [(pg, .inr (0, [.ref t, .ref R0, .ref R1, .ref R2, .ref R3, .ref R4, .ref R5, .int (nI a), .int (nI lv)])), (R4, .inr (1, [.ref (Q 4), .int (nI kL)])), (R5, .inr (1, [.ref (Q 5), .int (nI kL)])), (R0, .inr (1, [.ref (Q 0), .int (nI 0)])), (R1, .inr (1, [.ref (Q 1), .int (nI 0)])), (R2, .inr (1, [.ref (Q 2), .int (nI 0)]))]) (w1 := [(R3, .inr (1, [.ref (Q 3), .int (nI 0)]))]) hP hD [1] [0, 2, 3, 4, 5, 6] rfl rfl (by decide) (by decide) hk1 hFc hP1 hD1
  clear hP1 hD1 hPc hDc hFc hk1 hz1 hvm
  generalize H1 = H at hP hS ht ⊢
  have hP : va_P D vwCl [(pg, .inr (0, [.ref t, .ref R0, .ref R1, .ref R2, .ref R3, .ref R4, .ref R5, .int (nI a), .int (nI lv)])), (R4, .inr (1, [.ref (Q 4), .int (nI kL)])), (R5, .inr (1, [.ref (Q 5), .int (nI kL)])), (R0, .inr (1, [.ref (Q 0), .int (nI 0)])), (R1, .inr (1, [.ref (Q 1), .int (nI 0)])), (R2, .inr (1, [.ref (Q 2), .int (nI 0)])), (R3, .inr (1, [.ref (Q 3), .int (nI 0)]))] H := hP
  have hD : va_D A [(pg, .inr (0, [.ref t, .ref R0, .ref R1, .ref R2, .ref R3, .ref R4, .ref R5, .int (nI a), .int (nI lv)])), (R4, .inr (1, [.ref (Q 4), .int (nI kL)])), (R5, .inr (1, [.ref (Q 5), .int (nI kL)])), (R0, .inr (1, [.ref (Q 0), .int (nI 0)])), (R1, .inr (1, [.ref (Q 1), .int (nI 0)])), (R2, .inr (1, [.ref (Q 2), .int (nI 0)])), (R3, .inr (1, [.ref (Q 3), .int (nI 0)]))] := hD
  refine W.widen (k := 0) (n := 0) (Nat.le_refl _) (Nat.le_refl _) ?_
  refine lv_aload_n hx hb dX0_clear_28 rfl (lv_at hl 0 rfl) ?_
  refine va_get (D := D) (ci := 0) (v := .ref R4) (C := RX0) (T := TX0) (N := 9) hx hb hts (by decide +kernel) hown hK hP 0 rfl rfl 5 (by decide) (hts (.fieldLink RX0 27 "BodyText$Program" "lineStarts" "LBodyText$Row;") (by decide +kernel)) (fun _ h9 => h9) rfl dX0_clear_29 ?_
  have hPc := hP.sub (ws' := [(R4, .inr (1, [.ref (Q 4), .int (nI kL)]))]) [1] rfl
  have hDc := hD.sub (ws' := [(R4, .inr (1, [.ref (Q 4), .int (nI kL)]))]) [1] (by decide) rfl
  have hFc := va_free (wc := [(R4, .inr (1, [.ref (Q 4), .int (nI kL)]))]) hD hS hA [1] rfl
  refine va_callv (va_runV (As := []) (rest := []) ⟨hx, hb, hml, hown, hts⟩ (kX1_clear l D cB cI R4 (Q 4) kL H.size) (cwV 0 hts gX0_clear_X1_clear rfl rfl rfl (by decide +kernel) ⟨Nat.le_of_ble_eq_true rfl, Nat.le_of_ble_eq_true rfl⟩) ⟨fun a U g mk q => ⟨q.1, q.2.calling⟩, va_recv hK hPc (ci := 1) (q0 := 0) rfl rfl, fun U hU hW => ⟨rfl, bt_M.of hU hW hPc hK hN hDc⟩⟩ rfl rfl hl.1 rfl (lv_room (Nat.le_of_ble_eq_true rfl)) dX0_clear_32 ⟨(show 0 + 0 ≤ 0 by omega), (show 0 + 0 ≤ 0 by omega)⟩) hS (fun q _ h => hFc q h) hFc (fun u t9 H1 locs ht hvm hw hB hz1 hk1 hS => ?_)
  obtain ⟨hP1, hD1⟩ := hB
  rw [ht] at hP1
  try dsimp only at hw hP1 hD1
  obtain ⟨hP, hD⟩ := va_join (wr := [(pg, .inr (0, [.ref t, .ref R0, .ref R1, .ref R2, .ref R3, .ref R4, .ref R5, .int (nI a), .int (nI lv)])), (R5, .inr (1, [.ref (Q 5), .int (nI kL)])), (R0, .inr (1, [.ref (Q 0), .int (nI 0)])), (R1, .inr (1, [.ref (Q 1), .int (nI 0)])), (R2, .inr (1, [.ref (Q 2), .int (nI 0)])), (R3, .inr (1, [.ref (Q 3), .int (nI 0)]))]) (w1 := [(R4, .inr (1, [.ref (Q 4), .int (nI 0)]))]) hP hD [1] [0, 2, 3, 4, 5, 6] rfl rfl (by decide) (by decide) hk1 hFc hP1 hD1
  clear hP1 hD1 hPc hDc hFc hk1 hz1 hvm
  generalize H1 = H at hP hS ht ⊢
  have hP : va_P D vwCl [(pg, .inr (0, [.ref t, .ref R0, .ref R1, .ref R2, .ref R3, .ref R4, .ref R5, .int (nI a), .int (nI lv)])), (R5, .inr (1, [.ref (Q 5), .int (nI kL)])), (R0, .inr (1, [.ref (Q 0), .int (nI 0)])), (R1, .inr (1, [.ref (Q 1), .int (nI 0)])), (R2, .inr (1, [.ref (Q 2), .int (nI 0)])), (R3, .inr (1, [.ref (Q 3), .int (nI 0)])), (R4, .inr (1, [.ref (Q 4), .int (nI 0)]))] H := hP
  have hD : va_D A [(pg, .inr (0, [.ref t, .ref R0, .ref R1, .ref R2, .ref R3, .ref R4, .ref R5, .int (nI a), .int (nI lv)])), (R5, .inr (1, [.ref (Q 5), .int (nI kL)])), (R0, .inr (1, [.ref (Q 0), .int (nI 0)])), (R1, .inr (1, [.ref (Q 1), .int (nI 0)])), (R2, .inr (1, [.ref (Q 2), .int (nI 0)])), (R3, .inr (1, [.ref (Q 3), .int (nI 0)])), (R4, .inr (1, [.ref (Q 4), .int (nI 0)]))] := hD
  refine W.widen (k := 0) (n := 0) (Nat.le_refl _) (Nat.le_refl _) ?_
  refine lv_aload_n hx hb dX0_clear_35 rfl (lv_at hl 0 rfl) ?_
  refine va_get (D := D) (ci := 0) (v := .ref R5) (C := RX0) (T := TX0) (N := 9) hx hb hts (by decide +kernel) hown hK hP 0 rfl rfl 6 (by decide) (hts (.fieldLink RX0 30 "BodyText$Program" "lineInstructions" "LBodyText$Row;") (by decide +kernel)) (fun _ h9 => h9) rfl dX0_clear_36 ?_
  have hPc := hP.sub (ws' := [(R5, .inr (1, [.ref (Q 5), .int (nI kL)]))]) [1] rfl
  have hDc := hD.sub (ws' := [(R5, .inr (1, [.ref (Q 5), .int (nI kL)]))]) [1] (by decide) rfl
  have hFc := va_free (wc := [(R5, .inr (1, [.ref (Q 5), .int (nI kL)]))]) hD hS hA [1] rfl
  refine va_callv (va_runV (As := []) (rest := []) ⟨hx, hb, hml, hown, hts⟩ (kX1_clear l D cB cI R5 (Q 5) kL H.size) (cwV 0 hts gX0_clear_X1_clear rfl rfl rfl (by decide +kernel) ⟨Nat.le_of_ble_eq_true rfl, Nat.le_of_ble_eq_true rfl⟩) ⟨fun a U g mk q => ⟨q.1, q.2.calling⟩, va_recv hK hPc (ci := 1) (q0 := 0) rfl rfl, fun U hU hW => ⟨rfl, bt_M.of hU hW hPc hK hN hDc⟩⟩ rfl rfl hl.1 rfl (lv_room (Nat.le_of_ble_eq_true rfl)) dX0_clear_39 ⟨(show 0 + 0 ≤ 0 by omega), (show 0 + 0 ≤ 0 by omega)⟩) hS (fun q _ h => hFc q h) hFc (fun u t9 H1 locs ht hvm hw hB hz1 hk1 hS => ?_)
  obtain ⟨hP1, hD1⟩ := hB
  rw [ht] at hP1
  try dsimp only at hw hP1 hD1
  obtain ⟨hP, hD⟩ := va_join (wr := [(pg, .inr (0, [.ref t, .ref R0, .ref R1, .ref R2, .ref R3, .ref R4, .ref R5, .int (nI a), .int (nI lv)])), (R0, .inr (1, [.ref (Q 0), .int (nI 0)])), (R1, .inr (1, [.ref (Q 1), .int (nI 0)])), (R2, .inr (1, [.ref (Q 2), .int (nI 0)])), (R3, .inr (1, [.ref (Q 3), .int (nI 0)])), (R4, .inr (1, [.ref (Q 4), .int (nI 0)]))]) (w1 := [(R5, .inr (1, [.ref (Q 5), .int (nI 0)]))]) hP hD [1] [0, 2, 3, 4, 5, 6] rfl rfl (by decide) (by decide) hk1 hFc hP1 hD1
  clear hP1 hD1 hPc hDc hFc hk1 hz1 hvm
  generalize H1 = H at hP hS ht ⊢
  have hP : va_P D vwCl [(pg, .inr (0, [.ref t, .ref R0, .ref R1, .ref R2, .ref R3, .ref R4, .ref R5, .int (nI a), .int (nI lv)])), (R0, .inr (1, [.ref (Q 0), .int (nI 0)])), (R1, .inr (1, [.ref (Q 1), .int (nI 0)])), (R2, .inr (1, [.ref (Q 2), .int (nI 0)])), (R3, .inr (1, [.ref (Q 3), .int (nI 0)])), (R4, .inr (1, [.ref (Q 4), .int (nI 0)])), (R5, .inr (1, [.ref (Q 5), .int (nI 0)]))] H := hP
  have hD : va_D A [(pg, .inr (0, [.ref t, .ref R0, .ref R1, .ref R2, .ref R3, .ref R4, .ref R5, .int (nI a), .int (nI lv)])), (R0, .inr (1, [.ref (Q 0), .int (nI 0)])), (R1, .inr (1, [.ref (Q 1), .int (nI 0)])), (R2, .inr (1, [.ref (Q 2), .int (nI 0)])), (R3, .inr (1, [.ref (Q 3), .int (nI 0)])), (R4, .inr (1, [.ref (Q 4), .int (nI 0)])), (R5, .inr (1, [.ref (Q 5), .int (nI 0)]))] := hD
  refine W.widen (k := 0) (n := 0) (Nat.le_refl _) (Nat.le_refl _) ?_
  refine lv_aload_n hx hb dX0_clear_42 rfl (lv_at hl 0 rfl) ?_
  refine lv_iconst (v := nI 0) hx hb dX0_clear_43 (by decide) ?_
  refine va_put (D := D) (ci := 0) (v := .int (nI 0)) (ty := .int) (C := RX0) (T := TX0) (N := 9) hx hb hts (by decide +kernel) tyX0 tyX0_ok nmX0 hown hK hP hD hS 0 rfl rfl 7 (by decide) (hts (.fieldLink RX0 33 "BodyText$Program" "at" "I") (by decide +kernel)) (fun _ h9 => h9) rfl (by decide +kernel) rfl rfl (Nat.le_of_ble_eq_true rfl) dX0_clear_44 (fun H locs hP hD hS => ?_)
  have hP : va_P D vwCl [(pg, .inr (0, [.ref t, .ref R0, .ref R1, .ref R2, .ref R3, .ref R4, .ref R5, .int (nI 0), .int (nI lv)])), (R0, .inr (1, [.ref (Q 0), .int (nI 0)])), (R1, .inr (1, [.ref (Q 1), .int (nI 0)])), (R2, .inr (1, [.ref (Q 2), .int (nI 0)])), (R3, .inr (1, [.ref (Q 3), .int (nI 0)])), (R4, .inr (1, [.ref (Q 4), .int (nI 0)])), (R5, .inr (1, [.ref (Q 5), .int (nI 0)]))] H := hP
  have hD : va_D A [(pg, .inr (0, [.ref t, .ref R0, .ref R1, .ref R2, .ref R3, .ref R4, .ref R5, .int (nI 0), .int (nI lv)])), (R0, .inr (1, [.ref (Q 0), .int (nI 0)])), (R1, .inr (1, [.ref (Q 1), .int (nI 0)])), (R2, .inr (1, [.ref (Q 2), .int (nI 0)])), (R3, .inr (1, [.ref (Q 3), .int (nI 0)])), (R4, .inr (1, [.ref (Q 4), .int (nI 0)])), (R5, .inr (1, [.ref (Q 5), .int (nI 0)]))] := hD
  refine lv_aload_n hx hb dX0_clear_47 rfl (lv_at hl 0 rfl) ?_
  refine lv_iconst (v := nI 0) hx hb dX0_clear_48 (by decide) ?_
  refine va_put (D := D) (ci := 0) (v := .int (nI 0)) (ty := .int) (C := RX0) (T := TX0) (N := 9) hx hb hts (by decide +kernel) tyX0 tyX0_ok nmX0 hown hK hP hD hS 0 rfl rfl 8 (by decide) (hts (.fieldLink RX0 37 "BodyText$Program" "level" "I") (by decide +kernel)) (fun _ h9 => h9) rfl (by decide +kernel) rfl rfl (Nat.le_of_ble_eq_true rfl) dX0_clear_49 (fun H locs hP hD hS => ?_)
  have hP : va_P D vwCl [(pg, .inr (0, [.ref t, .ref R0, .ref R1, .ref R2, .ref R3, .ref R4, .ref R5, .int (nI 0), .int (nI 0)])), (R0, .inr (1, [.ref (Q 0), .int (nI 0)])), (R1, .inr (1, [.ref (Q 1), .int (nI 0)])), (R2, .inr (1, [.ref (Q 2), .int (nI 0)])), (R3, .inr (1, [.ref (Q 3), .int (nI 0)])), (R4, .inr (1, [.ref (Q 4), .int (nI 0)])), (R5, .inr (1, [.ref (Q 5), .int (nI 0)]))] H := hP
  have hD : va_D A [(pg, .inr (0, [.ref t, .ref R0, .ref R1, .ref R2, .ref R3, .ref R4, .ref R5, .int (nI 0), .int (nI 0)])), (R0, .inr (1, [.ref (Q 0), .int (nI 0)])), (R1, .inr (1, [.ref (Q 1), .int (nI 0)])), (R2, .inr (1, [.ref (Q 2), .int (nI 0)])), (R3, .inr (1, [.ref (Q 3), .int (nI 0)])), (R4, .inr (1, [.ref (Q 4), .int (nI 0)])), (R5, .inr (1, [.ref (Q 5), .int (nI 0)]))] := hD
  have hP9 := hP.sub (ws' := [(pg, .inr (0, [.ref t, .ref R0, .ref R1, .ref R2, .ref R3, .ref R4, .ref R5, .int (nI 0), .int (nI 0)])), (R0, .inr (1, [.ref (Q 0), .int (nI 0)])), (R1, .inr (1, [.ref (Q 1), .int (nI 0)])), (R2, .inr (1, [.ref (Q 2), .int (nI 0)])), (R3, .inr (1, [.ref (Q 3), .int (nI 0)])), (R4, .inr (1, [.ref (Q 4), .int (nI 0)])), (R5, .inr (1, [.ref (Q 5), .int (nI 0)]))]) [0, 1, 2, 3, 4, 5, 6] rfl
  have hD9 := hD.sub (ws' := [(pg, .inr (0, [.ref t, .ref R0, .ref R1, .ref R2, .ref R3, .ref R4, .ref R5, .int (nI 0), .int (nI 0)])), (R0, .inr (1, [.ref (Q 0), .int (nI 0)])), (R1, .inr (1, [.ref (Q 1), .int (nI 0)])), (R2, .inr (1, [.ref (Q 2), .int (nI 0)])), (R3, .inr (1, [.ref (Q 3), .int (nI 0)])), (R4, .inr (1, [.ref (Q 4), .int (nI 0)])), (R5, .inr (1, [.ref (Q 5), .int (nI 0)]))]) [0, 1, 2, 3, 4, 5, 6] (by decide) rfl
  refine W.widen (k := 0) (n := 0) (show 0 ≤ 0 by omega) (show 0 ≤ 0 by omega) ?_
  exact W.vret hx hb hr (fun t9 ht hW => ⟨⟨(), rfl, trivial, by rw [ht]; exact hP9, hD9⟩, hS.F ht⟩) hS.2.2 dX0_clear_52
