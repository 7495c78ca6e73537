def mk8 {α : Type} (a b c d e f g h : α) : Nat → α := fun i => match i with
  | 0 => a
  | 1 => b
  | 2 => c
  | 3 => d
  | 4 => e
  | 5 => f
  | 6 => g
  | _ => h
set_option maxHeartbeats 4000000 in
set_option maxRecDepth 100000 in
/-- takes -/
theorem kX5_takes (l : Launch) (D : va_G) (cB cI : ClassId) (mo : Nat) (Z : Nat → Nat) (v : Nat → Int32) (T a : Nat) (P : Prop) (ha : a < 2 ^ 30) (sz : Nat) : Met l yX5_takes wsX5_takes ({ frames := 0, cells := 0, slots := 0, locals := 0 }) (va_Pc [.ref mo, .int (Bt P)] (bt_M D cB cI sz [(mo, .inr (5, [.ref (Z 0), .int (v 0), .int (v 1), .ref (Z 1), .int (v 2), .ref (Z 2), .ref (Z 3), .int (nI T), .int (nI a), .int (v 4), .ref (Z 4), .ref (Z 5), .ref (Z 6), .ref (Z 7), .ref (Z 8), .int (v 5), .int (v 6), .int (v 7)]))])) (va_Qi (S := Nat) (fun r u => (P ∧ r = nI 1 ∧ u = a + 1) ∨ (¬ P ∧ r = nI 0 ∧ u = a)) (fun u t9 => bt_L D (va_A [(mo, .inr (5, [.ref (Z 0), .int (v 0), .int (v 1), .ref (Z 1), .int (v 2), .ref (Z 2), .ref (Z 3), .int (nI T), .int (nI a), .int (v 4), .ref (Z 4), .ref (Z 5), .ref (Z 6), .ref (Z 7), .ref (Z 8), .int (v 5), .int (v 6), .int (v 7)]))] sz) ((fun u => [(mo, .inr (5, [.ref (Z 0), .int (v 0), .int (v 1), .ref (Z 1), .int (v 2), .ref (Z 2), .ref (Z 3), .int (nI T), .int (nI u), .int (v 4), .ref (Z 4), .ref (Z 5), .ref (Z 6), .ref (Z 7), .ref (Z 8), .int (v 5), .int (v 6), .int (v 7)]))]) u) t9) (va_A [(mo, .inr (5, [.ref (Z 0), .int (v 0), .int (v 1), .ref (Z 1), .int (v 2), .ref (Z 2), .ref (Z 3), .int (nI T), .int (nI a), .int (v 4), .ref (Z 4), .ref (Z 5), .ref (Z 6), .ref (Z 7), .ref (Z 8), .int (v 5), .int (v 6), .int (v 7)]))] sz)) 0 0 (va_A [(mo, .inr (5, [.ref (Z 0), .int (v 0), .int (v 1), .ref (Z 1), .int (v 2), .ref (Z 2), .ref (Z 3), .int (nI T), .int (nI a), .int (v 4), .ref (Z 4), .ref (Z 5), .ref (Z 6), .ref (Z 7), .ref (Z 8), .int (v 5), .int (v 6), .int (v 7)]))] sz) := by
  refine Met.ofW (cc := cX5_takes) (maxL := 2) (ret := (some .boolean)) (by decide) rfl ?_
  intro p e s m args below meth c s₁ B hml hv
  obtain ⟨rfl, hsz, hP, hK, hN, hD0⟩ := hv
  have hx := B.exec
  have hb := B.bytes
  have hr := B.returns
  have hts := atoms_spec (ws := wsX5_takes) B.pre
  have hown : s.vm.findClass RX5 = some m.cls := findClass_of_methodNamed B.named
  have hlocks := B.notSynchronized
  subst hsz
  have hD := hD0.self (sz := s.heap.size)
  generalize hAe : va_A [(mo, .inr (5, [.ref (Z 0), .int (v 0), .int (v 1), .ref (Z 1), .int (v 2), .ref (Z 2), .ref (Z 3), .int (nI T), .int (nI a), .int (v 4), .ref (Z 4), .ref (Z 5), .ref (Z 6), .ref (Z 7), .ref (Z 8), .int (v 5), .int (v 6), .int (v 7)]))] s.heap.size = A at hD ⊢
  have hA : ∀ q : Nat, s.heap.size ≤ q → A q := fun q h => by rw [← hAe]; exact Or.inr h
  have hS : va_S A s.heap s.heap [] := va_S.rf
  have hl := lv_entry ([.ref mo, .int (Bt P)]) (n := 2) (Nat.le_of_ble_eq_true rfl)
  rw [lg_entry_eq]
  generalize (lg_sl ([.ref mo, .int (Bt P)]) ++ List.replicate (2 - (lg_sl ([.ref mo, .int (Bt P)])).length) Slot.unset).toArray = ls at hl ⊢
  have hl : lv_has ls 2 [(0, .ref mo), (1, .int (Bt P))] := hl
  refine lv_iload_n hx hb dX5_takes_0 rfl (lv_at hl 1 rfl) ?_
  refine lv_if_eq (tgt := 14) hx hb dX5_takes_1 (by decide) (fun c_1 => ?_) (fun c_1 => ?_)
  · have h_1 : ¬ (P) := Bt_eq0.mp c_1
    refine lv_iload_n hx hb dX5_takes_14 rfl (lv_at hl 1 rfl) ?_
    have hP9 := hP.sub (ws' := [(mo, .inr (5, [.ref (Z 0), .int (v 0), .int (v 1), .ref (Z 1), .int (v 2), .ref (Z 2), .ref (Z 3), .int (nI T), .int (nI a), .int (v 4), .ref (Z 4), .ref (Z 5), .ref (Z 6), .ref (Z 7), .ref (Z 8), .int (v 5), .int (v 6), .int (v 7)]))]) [0] rfl
    have hD9 := hD.sub (ws' := [(mo, .inr (5, [.ref (Z 0), .int (v 0), .int (v 1), .ref (Z 1), .int (v 2), .ref (Z 2), .ref (Z 3), .int (nI T), .int (nI a), .int (v 4), .ref (Z 4), .ref (Z 5), .ref (Z 6), .ref (Z 7), .ref (Z 8), .int (v 5), .int (v 6), .int (v 7)]))]) [0] (by decide) rfl
    refine W.widen (k := 0) (n := 0) (show 0 ≤ 0 by omega) (show 0 ≤ 0 by omega) ?_
    exact W.zret (v := (Bt P)) hx hb hr (bt_nz _) (fun t9 ht hW => ⟨⟨(Bt P), a, rfl, Or.inr ⟨h_1, Bt_f h_1, rfl⟩, by rw [ht]; exact hP9, hD9⟩, hS.F ht⟩) hS.2.2 dX5_takes_15
  · have h_1 : P := Bt_ne0.mp c_1
    refine lv_aload_n hx hb dX5_takes_4 rfl (lv_at hl 0 rfl) ?_
    refine lv_dup hx hb dX5_takes_5 rfl ?_
    refine va_get (D := D) (ci := 5) (v := .int (nI a)) (C := RX5) (T := TX5) (N := 18) hx hb hts (by decide +kernel) hown hK hP 0 rfl rfl 8 (by decide) (hts (.fieldLink RX5 93 "BodyTextModel" "at" "I") (by decide +kernel)) (fun _ h9 => h9) rfl dX5_takes_6 ?_
    refine lv_iconst (v := nI 1) hx hb dX5_takes_9 (by decide) ?_
    refine lv_iadd hx hb dX5_takes_10 ?_
    refine bt_topi (y := nI (a + 1)) (nI_add _ _) ?_
    refine va_put (D := D) (ci := 5) (v := .int (nI (a + 1))) (ty := .int) (C := RX5) (T := TX5) (N := 18) hx hb hts (by decide +kernel) tyX5 tyX5_ok nmX5 hown hK hP hD hS 0 rfl rfl 8 (by decide) (hts (.fieldLink RX5 93 "BodyTextModel" "at" "I") (by decide +kernel)) (fun _ h9 => h9) rfl (by decide +kernel) rfl rfl (Nat.le_of_ble_eq_true rfl) dX5_takes_11 (fun H locs hP hD hS => ?_)
    have hP : va_P D vwCl [(mo, .inr (5, [.ref (Z 0), .int (v 0), .int (v 1), .ref (Z 1), .int (v 2), .ref (Z 2), .ref (Z 3), .int (nI T), .int (nI (a + 1)), .int (v 4), .ref (Z 4), .ref (Z 5), .ref (Z 6), .ref (Z 7), .ref (Z 8), .int (v 5), .int (v 6), .int (v 7)]))] H := hP
    have hD : va_D A [(mo, .inr (5, [.ref (Z 0), .int (v 0), .int (v 1), .ref (Z 1), .int (v 2), .ref (Z 2), .ref (Z 3), .int (nI T), .int (nI (a + 1)), .int (v 4), .ref (Z 4), .ref (Z 5), .ref (Z 6), .ref (Z 7), .ref (Z 8), .int (v 5), .int (v 6), .int (v 7)]))] := hD
    refine lv_iload_n hx hb dX5_takes_14 rfl (lv_at hl 1 rfl) ?_
    have hP9 := hP.sub (ws' := [(mo, .inr (5, [.ref (Z 0), .int (v 0), .int (v 1), .ref (Z 1), .int (v 2), .ref (Z 2), .ref (Z 3), .int (nI T), .int (nI (a + 1)), .int (v 4), .ref (Z 4), .ref (Z 5), .ref (Z 6), .ref (Z 7), .ref (Z 8), .int (v 5), .int (v 6), .int (v 7)]))]) [0] rfl
    have hD9 := hD.sub (ws' := [(mo, .inr (5, [.ref (Z 0), .int (v 0), .int (v 1), .ref (Z 1), .int (v 2), .ref (Z 2), .ref (Z 3), .int (nI T), .int (nI (a + 1)), .int (v 4), .ref (Z 4), .ref (Z 5), .ref (Z 6), .ref (Z 7), .ref (Z 8), .int (v 5), .int (v 6), .int (v 7)]))]) [0] (by decide) rfl
    refine W.widen (k := 0) (n := 0) (show 0 ≤ 0 by omega) (show 0 ≤ 0 by omega) ?_
    exact W.zret (v := (Bt P)) hx hb hr (bt_nz _) (fun t9 ht hW => ⟨⟨(Bt P), a + 1, rfl, Or.inl ⟨h_1, Bt_t h_1, rfl⟩, by rw [ht]; exact hP9, hD9⟩, hS.F ht⟩) hS.2.2 dX5_takes_15
set_option maxHeartbeats 4000000 in
set_option maxRecDepth 100000 in
/-- takes -/
theorem kX5_takes_1 (l : Launch) (D : va_G) (cB cI : ClassId) (mo : Nat) (Z : Nat → Nat) (v : Nat → Int32) (T a : Nat) (sz : Nat) : Met l yX5_takes wsX5_takes ({ frames := 0, cells := 0, slots := 0, locals := 0 }) (va_Pc [.ref mo, .int (nI 1)] (bt_M D cB cI sz [(mo, .inr (5, [.ref (Z 0), .int (v 0), .int (v 1), .ref (Z 1), .int (v 2), .ref (Z 2), .ref (Z 3), .int (nI T), .int (nI a), .int (v 4), .ref (Z 4), .ref (Z 5), .ref (Z 6), .ref (Z 7), .ref (Z 8), .int (v 5), .int (v 6), .int (v 7)]))])) (va_Qi (S := Unit) (fun r _ => r = nI 1) (fun u t9 => bt_L D (va_A [(mo, .inr (5, [.ref (Z 0), .int (v 0), .int (v 1), .ref (Z 1), .int (v 2), .ref (Z 2), .ref (Z 3), .int (nI T), .int (nI a), .int (v 4), .ref (Z 4), .ref (Z 5), .ref (Z 6), .ref (Z 7), .ref (Z 8), .int (v 5), .int (v 6), .int (v 7)]))] sz) ((fun _ => [(mo, .inr (5, [.ref (Z 0), .int (v 0), .int (v 1), .ref (Z 1), .int (v 2), .ref (Z 2), .ref (Z 3), .int (nI T), .int (nI (a + 1)), .int (v 4), .ref (Z 4), .ref (Z 5), .ref (Z 6), .ref (Z 7), .ref (Z 8), .int (v 5), .int (v 6), .int (v 7)]))]) u) t9) (va_A [(mo, .inr (5, [.ref (Z 0), .int (v 0), .int (v 1), .ref (Z 1), .int (v 2), .ref (Z 2), .ref (Z 3), .int (nI T), .int (nI a), .int (v 4), .ref (Z 4), .ref (Z 5), .ref (Z 6), .ref (Z 7), .ref (Z 8), .int (v 5), .int (v 6), .int (v 7)]))] sz)) 0 0 (va_A [(mo, .inr (5, [.ref (Z 0), .int (v 0), .int (v 1), .ref (Z 1), .int (v 2), .ref (Z 2), .ref (Z 3), .int (nI T), .int (nI a), .int (v 4), .ref (Z 4), .ref (Z 5), .ref (Z 6), .ref (Z 7), .ref (Z 8), .int (v 5), .int (v 6), .int (v 7)]))] sz) := by
  refine Met.ofW (cc := cX5_takes) (maxL := 2) (ret := (some .boolean)) (by decide) rfl ?_
  intro p e s m args below meth c s₁ B hml hv
  obtain ⟨rfl, hsz, hP, hK, hN, hD0⟩ := hv
  have hx := B.exec
  have hb := B.bytes
  have hr := B.returns
  have hts := atoms_spec (ws := wsX5_takes) B.pre
  have hown : s.vm.findClass RX5 = some m.cls := findClass_of_methodNamed B.named
  have hlocks := B.notSynchronized
  subst hsz
  have hD := hD0.self (sz := s.heap.size)
  generalize hAe : va_A [(mo, .inr (5, [.ref (Z 0), .int (v 0), .int (v 1), .ref (Z 1), .int (v 2), .ref (Z 2), .ref (Z 3), .int (nI T), .int (nI a), .int (v 4), .ref (Z 4), .ref (Z 5), .ref (Z 6), .ref (Z 7), .ref (Z 8), .int (v 5), .int (v 6), .int (v 7)]))] s.heap.size = A at hD ⊢
  have hA : ∀ q : Nat, s.heap.size ≤ q → A q := fun q h => by rw [← hAe]; exact Or.inr h
  have hS : va_S A s.heap s.heap [] := va_S.rf
  have hl := lv_entry ([.ref mo, .int (nI 1)]) (n := 2) (Nat.le_of_ble_eq_true rfl)
  rw [lg_entry_eq]
  generalize (lg_sl ([.ref mo, .int (nI 1)]) ++ List.replicate (2 - (lg_sl ([.ref mo, .int (nI 1)])).length) Slot.unset).toArray = ls at hl ⊢
  have hl : lv_has ls 2 [(0, .ref mo), (1, .int (nI 1))] := hl
  refine lv_iload_n hx hb dX5_takes_0 rfl (lv_at hl 1 rfl) ?_
  refine lv_if_eq (tgt := 14) hx hb dX5_takes_1 (by decide) (fun c_1 => ?_) (fun c_1 => ?_)
  · exact absurd c_1 (by decide)
  · clear c_1
    refine lv_aload_n hx hb dX5_takes_4 rfl (lv_at hl 0 rfl) ?_
    refine lv_dup hx hb dX5_takes_5 rfl ?_
    refine va_get (D := D) (ci := 5) (v := .int (nI a)) (C := RX5) (T := TX5) (N := 18) hx hb hts (by decide +kernel) hown hK hP 0 rfl rfl 8 (by decide) (hts (.fieldLink RX5 93 "BodyTextModel" "at" "I") (by decide +kernel)) (fun _ h9 => h9) rfl dX5_takes_6 ?_
    refine lv_iconst (v := nI 1) hx hb dX5_takes_9 (by decide) ?_
    refine lv_iadd hx hb dX5_takes_10 ?_
    refine bt_topi (y := nI (a + 1)) (nI_add _ _) ?_
    refine va_put (D := D) (ci := 5) (v := .int (nI (a + 1))) (ty := .int) (C := RX5) (T := TX5) (N := 18) hx hb hts (by decide +kernel) tyX5 tyX5_ok nmX5 hown hK hP hD hS 0 rfl rfl 8 (by decide) (hts (.fieldLink RX5 93 "BodyTextModel" "at" "I") (by decide +kernel)) (fun _ h9 => h9) rfl (by decide +kernel) rfl rfl (Nat.le_of_ble_eq_true rfl) dX5_takes_11 (fun H locs hP hD hS => ?_)
    have hP : va_P D vwCl [(mo, .inr (5, [.ref (Z 0), .int (v 0), .int (v 1), .ref (Z 1), .int (v 2), .ref (Z 2), .ref (Z 3), .int (nI T), .int (nI (a + 1)), .int (v 4), .ref (Z 4), .ref (Z 5), .ref (Z 6), .ref (Z 7), .ref (Z 8), .int (v 5), .int (v 6), .int (v 7)]))] H := hP
    have hD : va_D A [(mo, .inr (5, [.ref (Z 0), .int (v 0), .int (v 1), .ref (Z 1), .int (v 2), .ref (Z 2), .ref (Z 3), .int (nI T), .int (nI (a + 1)), .int (v 4), .ref (Z 4), .ref (Z 5), .ref (Z 6), .ref (Z 7), .ref (Z 8), .int (v 5), .int (v 6), .int (v 7)]))] := hD
    refine lv_iload_n hx hb dX5_takes_14 rfl (lv_at hl 1 rfl) ?_
    have hP9 := hP.sub (ws' := [(mo, .inr (5, [.ref (Z 0), .int (v 0), .int (v 1), .ref (Z 1), .int (v 2), .ref (Z 2), .ref (Z 3), .int (nI T), .int (nI (a + 1)), .int (v 4), .ref (Z 4), .ref (Z 5), .ref (Z 6), .ref (Z 7), .ref (Z 8), .int (v 5), .int (v 6), .int (v 7)]))]) [0] rfl
    have hD9 := hD.sub (ws' := [(mo, .inr (5, [.ref (Z 0), .int (v 0), .int (v 1), .ref (Z 1), .int (v 2), .ref (Z 2), .ref (Z 3), .int (nI T), .int (nI (a + 1)), .int (v 4), .ref (Z 4), .ref (Z 5), .ref (Z 6), .ref (Z 7), .ref (Z 8), .int (v 5), .int (v 6), .int (v 7)]))]) [0] (by decide) rfl
    refine W.widen (k := 0) (n := 0) (show 0 ≤ 0 by omega) (show 0 ≤ 0 by omega) ?_
    exact W.zret (v := nI 1) hx hb hr (by decide) (fun t9 ht hW => ⟨⟨nI 1, (), rfl, rfl, by rw [ht]; exact hP9, hD9⟩, hS.F ht⟩) hS.2.2 dX5_takes_15
set_option maxHeartbeats 4000000 in
set_option maxRecDepth 100000 in
/-- takes -/
theorem kX5_takes_0 (l : Launch) (D : va_G) (cB cI : ClassId) (mo : Nat) (Z : Nat → Nat) (v : Nat → Int32) (T a : Nat) (sz : Nat) : Met l yX5_takes wsX5_takes ({ frames := 0, cells := 0, slots := 0, locals := 0 }) (va_Pc [.ref mo, .int (nI 0)] (bt_M D cB cI sz [(mo, .inr (5, [.ref (Z 0), .int (v 0), .int (v 1), .ref (Z 1), .int (v 2), .ref (Z 2), .ref (Z 3), .int (nI T), .int (nI a), .int (v 4), .ref (Z 4), .ref (Z 5), .ref (Z 6), .ref (Z 7), .ref (Z 8), .int (v 5), .int (v 6), .int (v 7)]))])) (va_Qi (S := Unit) (fun r _ => r = nI 0) (fun u t9 => bt_L D (va_A [(mo, .inr (5, [.ref (Z 0), .int (v 0), .int (v 1), .ref (Z 1), .int (v 2), .ref (Z 2), .ref (Z 3), .int (nI T), .int (nI a), .int (v 4), .ref (Z 4), .ref (Z 5), .ref (Z 6), .ref (Z 7), .ref (Z 8), .int (v 5), .int (v 6), .int (v 7)]))] sz) ((fun _ => [(mo, .inr (5, [.ref (Z 0), .int (v 0), .int (v 1), .ref (Z 1), .int (v 2), .ref (Z 2), .ref (Z 3), .int (nI T), .int (nI a), .int (v 4), .ref (Z 4), .ref (Z 5), .ref (Z 6), .ref (Z 7), .ref (Z 8), .int (v 5), .int (v 6), .int (v 7)]))]) u) t9) (va_A [(mo, .inr (5, [.ref (Z 0), .int (v 0), .int (v 1), .ref (Z 1), .int (v 2), .ref (Z 2), .ref (Z 3), .int (nI T), .int (nI a), .int (v 4), .ref (Z 4), .ref (Z 5), .ref (Z 6), .ref (Z 7), .ref (Z 8), .int (v 5), .int (v 6), .int (v 7)]))] sz)) 0 0 (va_A [(mo, .inr (5, [.ref (Z 0), .int (v 0), .int (v 1), .ref (Z 1), .int (v 2), .ref (Z 2), .ref (Z 3), .int (nI T), .int (nI a), .int (v 4), .ref (Z 4), .ref (Z 5), .ref (Z 6), .ref (Z 7), .ref (Z 8), .int (v 5), .int (v 6), .int (v 7)]))] sz) := by
  refine Met.ofW (cc := cX5_takes) (maxL := 2) (ret := (some .boolean)) (by decide) rfl ?_
  intro p e s m args below meth c s₁ B hml hv
  obtain ⟨rfl, hsz, hP, hK, hN, hD0⟩ := hv
  have hx := B.exec
  have hb := B.bytes
  have hr := B.returns
  have hts := atoms_spec (ws := wsX5_takes) B.pre
  have hown : s.vm.findClass RX5 = some m.cls := findClass_of_methodNamed B.named
  have hlocks := B.notSynchronized
  subst hsz
  have hD := hD0.self (sz := s.heap.size)
  generalize hAe : va_A [(mo, .inr (5, [.ref (Z 0), .int (v 0), .int (v 1), .ref (Z 1), .int (v 2), .ref (Z 2), .ref (Z 3), .int (nI T), .int (nI a), .int (v 4), .ref (Z 4), .ref (Z 5), .ref (Z 6), .ref (Z 7), .ref (Z 8), .int (v 5), .int (v 6), .int (v 7)]))] s.heap.size = A at hD ⊢
  have hA : ∀ q : Nat, s.heap.size ≤ q → A q := fun q h => by rw [← hAe]; exact Or.inr h
  have hS : va_S A s.heap s.heap [] := va_S.rf
  have hl := lv_entry ([.ref mo, .int (nI 0)]) (n := 2) (Nat.le_of_ble_eq_true rfl)
  rw [lg_entry_eq]
  generalize (lg_sl ([.ref mo, .int (nI 0)]) ++ List.replicate (2 - (lg_sl ([.ref mo, .int (nI 0)])).length) Slot.unset).toArray = ls at hl ⊢
  have hl : lv_has ls 2 [(0, .ref mo), (1, .int (nI 0))] := hl
  refine lv_iload_n hx hb dX5_takes_0 rfl (lv_at hl 1 rfl) ?_
  refine lv_if_eq (tgt := 14) hx hb dX5_takes_1 (by decide) (fun c_1 => ?_) (fun c_1 => ?_)
  · clear c_1
    refine lv_iload_n hx hb dX5_takes_14 rfl (lv_at hl 1 rfl) ?_
    have hP9 := hP.sub (ws' := [(mo, .inr (5, [.ref (Z 0), .int (v 0), .int (v 1), .ref (Z 1), .int (v 2), .ref (Z 2), .ref (Z 3), .int (nI T), .int (nI a), .int (v 4), .ref (Z 4), .ref (Z 5), .ref (Z 6), .ref (Z 7), .ref (Z 8), .int (v 5), .int (v 6), .int (v 7)]))]) [0] rfl
    have hD9 := hD.sub (ws' := [(mo, .inr (5, [.ref (Z 0), .int (v 0), .int (v 1), .ref (Z 1), .int (v 2), .ref (Z 2), .ref (Z 3), .int (nI T), .int (nI a), .int (v 4), .ref (Z 4), .ref (Z 5), .ref (Z 6), .ref (Z 7), .ref (Z 8), .int (v 5), .int (v 6), .int (v 7)]))]) [0] (by decide) rfl
    refine W.widen (k := 0) (n := 0) (show 0 ≤ 0 by omega) (show 0 ≤ 0 by omega) ?_
    exact W.zret (v := nI 0) hx hb hr (by decide) (fun t9 ht hW => ⟨⟨nI 0, (), rfl, rfl, by rw [ht]; exact hP9, hD9⟩, hS.F ht⟩) hS.2.2 dX5_takes_15
  · exact absurd (by decide) c_1
set_option maxHeartbeats 4000000 in
set_option maxRecDepth 100000 in
/-- begin -/
theorem kX5_begin (l : Launch) (D : va_G) (cB cI : ClassId) (mo : Nat) (Z : Nat → Nat) (v : Nat → Int32) (T a k : Nat) (g7 g8 : Nat → Int32) (x : Int32) (hk : k < 16000) (sz : Nat) : Met l yX5_begin wsX5_begin ({ frames := 0, cells := 0, slots := 0, locals := 0 }) (va_Pc [.ref mo, .int x] (bt_M D cB cI sz [(mo, .inr (5, [.ref (Z 0), .int (v 0), .int (v 1), .ref (Z 1), .int (v 2), .ref (Z 2), .ref (Z 3), .int (nI T), .int (nI a), .int (v 4), .ref (Z 4), .ref (Z 5), .ref (Z 6), .ref (Z 7), .ref (Z 8), .int (v 5), .int (v 6), .int (nI k)])), ((Z 7), .inl (cI, 16000, .inl g7)), ((Z 8), .inl (cI, 16000, .inl g8))])) (va_Qv (S := Unit) (fun _ => True) (fun u t9 => bt_L D (va_A [(mo, .inr (5, [.ref (Z 0), .int (v 0), .int (v 1), .ref (Z 1), .int (v 2), .ref (Z 2), .ref (Z 3), .int (nI T), .int (nI a), .int (v 4), .ref (Z 4), .ref (Z 5), .ref (Z 6), .ref (Z 7), .ref (Z 8), .int (v 5), .int (v 6), .int (nI k)])), ((Z 7), .inl (cI, 16000, .inl g7)), ((Z 8), .inl (cI, 16000, .inl g8))] sz) ((fun _ => [(mo, .inr (5, [.ref (Z 0), .int (v 0), .int (v 1), .ref (Z 1), .int (v 2), .ref (Z 2), .ref (Z 3), .int (nI T), .int (nI a), .int (v 4), .ref (Z 4), .ref (Z 5), .ref (Z 6), .ref (Z 7), .ref (Z 8), .int (v 5), .int (v 6), .int (nI (k + 1))])), ((Z 7), .inl (cI, 16000, .inl (upd g7 k (nI a)))), ((Z 8), .inl (cI, 16000, .inl (upd g8 k x)))]) u) t9) (va_A [(mo, .inr (5, [.ref (Z 0), .int (v 0), .int (v 1), .ref (Z 1), .int (v 2), .ref (Z 2), .ref (Z 3), .int (nI T), .int (nI a), .int (v 4), .ref (Z 4), .ref (Z 5), .ref (Z 6), .ref (Z 7), .ref (Z 8), .int (v 5), .int (v 6), .int (nI k)])), ((Z 7), .inl (cI, 16000, .inl g7)), ((Z 8), .inl (cI, 16000, .inl g8))] sz)) 0 0 (va_A [(mo, .inr (5, [.ref (Z 0), .int (v 0), .int (v 1), .ref (Z 1), .int (v 2), .ref (Z 2), .ref (Z 3), .int (nI T), .int (nI a), .int (v 4), .ref (Z 4), .ref (Z 5), .ref (Z 6), .ref (Z 7), .ref (Z 8), .int (v 5), .int (v 6), .int (nI k)])), ((Z 7), .inl (cI, 16000, .inl g7)), ((Z 8), .inl (cI, 16000, .inl g8))] sz) := by
  refine Met.ofW (cc := cX5_begin) (maxL := 2) (ret := none) (by decide) rfl ?_
  intro p e s m args below meth c s₁ B hml hv
  obtain ⟨rfl, hsz, hP, hK, hN, hD0⟩ := hv
  have hx := B.exec
  have hb := B.bytes
  have hr := B.returns
  have hts := atoms_spec (ws := wsX5_begin) B.pre
  have hown : s.vm.findClass RX5 = some m.cls := findClass_of_methodNamed B.named
  have hlocks := B.notSynchronized
  subst hsz
  have hD := hD0.self (sz := s.heap.size)
  generalize hAe : va_A [(mo, .inr (5, [.ref (Z 0), .int (v 0), .int (v 1), .ref (Z 1), .int (v 2), .ref (Z 2), .ref (Z 3), .int (nI T), .int (nI a), .int (v 4), .ref (Z 4), .ref (Z 5), .ref (Z 6), .ref (Z 7), .ref (Z 8), .int (v 5), .int (v 6), .int (nI k)])), ((Z 7), .inl (cI, 16000, .inl g7)), ((Z 8), .inl (cI, 16000, .inl g8))] s.heap.size = A at hD ⊢
  have hA : ∀ q : Nat, s.heap.size ≤ q → A q := fun q h => by rw [← hAe]; exact Or.inr h
  have hS : va_S A s.heap s.heap [] := va_S.rf
  have hl := lv_entry ([.ref mo, .int x]) (n := 2) (Nat.le_of_ble_eq_true rfl)
  rw [lg_entry_eq]
  generalize (lg_sl ([.ref mo, .int x]) ++ List.replicate (2 - (lg_sl ([.ref mo, .int x])).length) Slot.unset).toArray = ls at hl ⊢
  have hl : lv_has ls 2 [(0, .ref mo), (1, .int x)] := hl
  refine lv_aload_n hx hb dX5_begin_0 rfl (lv_at hl 0 rfl) ?_
  refine va_get (D := D) (ci := 5) (v := .ref (Z 7)) (C := RX5) (T := TX5) (N := 18) hx hb hts (by decide +kernel) hown hK hP 0 rfl rfl 13 (by decide) (hts (.fieldLink RX5 36 "BodyTextModel" "lineAt" "[I") (by decide +kernel)) (fun _ h9 => h9) rfl dX5_begin_1 ?_
  refine lv_aload_n hx hb dX5_begin_4 rfl (lv_at hl 0 rfl) ?_
  refine va_get (D := D) (ci := 5) (v := .int (nI k)) (C := RX5) (T := TX5) (N := 18) hx hb hts (by decide +kernel) hown hK hP 0 rfl rfl 17 (by decide) (hts (.fieldLink RX5 149 "BodyTextModel" "lines" "I") (by decide +kernel)) (fun _ h9 => h9) rfl dX5_begin_5 ?_
  refine lv_aload_n hx hb dX5_begin_8 rfl (lv_at hl 0 rfl) ?_
  refine va_get (D := D) (ci := 5) (v := .int (nI a)) (C := RX5) (T := TX5) (N := 18) hx hb hts (by decide +kernel) hown hK hP 0 rfl rfl 8 (by decide) (hts (.fieldLink RX5 93 "BodyTextModel" "at" "I") (by decide +kernel)) (fun _ h9 => h9) rfl dX5_begin_9 ?_
  refine va_iast hx hb hK hP hD hS 1 1 rfl rfl (vp_in_nI (by omega) (by omega)) dX5_begin_12 (fun H locs hP hD hS => ?_)
  rw [nI_clamp (by omega)] at hP hD
  have hP : va_P D vwCl [(mo, .inr (5, [.ref (Z 0), .int (v 0), .int (v 1), .ref (Z 1), .int (v 2), .ref (Z 2), .ref (Z 3), .int (nI T), .int (nI a), .int (v 4), .ref (Z 4), .ref (Z 5), .ref (Z 6), .ref (Z 7), .ref (Z 8), .int (v 5), .int (v 6), .int (nI k)])), ((Z 7), .inl (cI, 16000, .inl (upd g7 k (nI a)))), ((Z 8), .inl (cI, 16000, .inl g8))] H := hP
  have hD : va_D A [(mo, .inr (5, [.ref (Z 0), .int (v 0), .int (v 1), .ref (Z 1), .int (v 2), .ref (Z 2), .ref (Z 3), .int (nI T), .int (nI a), .int (v 4), .ref (Z 4), .ref (Z 5), .ref (Z 6), .ref (Z 7), .ref (Z 8), .int (v 5), .int (v 6), .int (nI k)])), ((Z 7), .inl (cI, 16000, .inl (upd g7 k (nI a)))), ((Z 8), .inl (cI, 16000, .inl g8))] := hD
  refine lv_aload_n hx hb dX5_begin_13 rfl (lv_at hl 0 rfl) ?_
  refine va_get (D := D) (ci := 5) (v := .ref (Z 8)) (C := RX5) (T := TX5) (N := 18) hx hb hts (by decide +kernel) hown hK hP 0 rfl rfl 14 (by decide) (hts (.fieldLink RX5 39 "BodyTextModel" "lineKind" "[I") (by decide +kernel)) (fun _ h9 => h9) rfl dX5_begin_14 ?_
  refine lv_aload_n hx hb dX5_begin_17 rfl (lv_at hl 0 rfl) ?_
  refine va_get (D := D) (ci := 5) (v := .int (nI k)) (C := RX5) (T := TX5) (N := 18) hx hb hts (by decide +kernel) hown hK hP 0 rfl rfl 17 (by decide) (hts (.fieldLink RX5 149 "BodyTextModel" "lines" "I") (by decide +kernel)) (fun _ h9 => h9) rfl dX5_begin_18 ?_
  refine lv_iload_n hx hb dX5_begin_21 rfl (lv_at hl 1 rfl) ?_
  refine va_iast hx hb hK hP hD hS 2 1 rfl rfl (vp_in_nI (by omega) (by omega)) dX5_begin_22 (fun H locs hP hD hS => ?_)
  rw [nI_clamp (by omega)] at hP hD
  have hP : va_P D vwCl [(mo, .inr (5, [.ref (Z 0), .int (v 0), .int (v 1), .ref (Z 1), .int (v 2), .ref (Z 2), .ref (Z 3), .int (nI T), .int (nI a), .int (v 4), .ref (Z 4), .ref (Z 5), .ref (Z 6), .ref (Z 7), .ref (Z 8), .int (v 5), .int (v 6), .int (nI k)])), ((Z 7), .inl (cI, 16000, .inl (upd g7 k (nI a)))), ((Z 8), .inl (cI, 16000, .inl (upd g8 k x)))] H := hP
  have hD : va_D A [(mo, .inr (5, [.ref (Z 0), .int (v 0), .int (v 1), .ref (Z 1), .int (v 2), .ref (Z 2), .ref (Z 3), .int (nI T), .int (nI a), .int (v 4), .ref (Z 4), .ref (Z 5), .ref (Z 6), .ref (Z 7), .ref (Z 8), .int (v 5), .int (v 6), .int (nI k)])), ((Z 7), .inl (cI, 16000, .inl (upd g7 k (nI a)))), ((Z 8), .inl (cI, 16000, .inl (upd g8 k x)))] := hD
  refine lv_aload_n hx hb dX5_begin_23 rfl (lv_at hl 0 rfl) ?_
  refine lv_dup hx hb dX5_begin_24 rfl ?_
  refine va_get (D := D) (ci := 5) (v := .int (nI k)) (C := RX5) (T := TX5) (N := 18) hx hb hts (by decide +kernel) hown hK hP 0 rfl rfl 17 (by decide) (hts (.fieldLink RX5 149 "BodyTextModel" "lines" "I") (by decide +kernel)) (fun _ h9 => h9) rfl dX5_begin_25 ?_
  refine lv_iconst (v := nI 1) hx hb dX5_begin_28 (by decide) ?_
  refine lv_iadd hx hb dX5_begin_29 ?_
  refine bt_topi (y := nI (k + 1)) (nI_add _ _) ?_
  refine va_put (D := D) (ci := 5) (v := .int (nI (k + 1))) (ty := .int) (C := RX5) (T := TX5) (N := 18) hx hb hts (by decide +kernel) tyX5 tyX5_ok nmX5 hown hK hP hD hS 0 rfl rfl 17 (by decide) (hts (.fieldLink RX5 149 "BodyTextModel" "lines" "I") (by decide +kernel)) (fun _ h9 => h9) rfl (by decide +kernel) rfl rfl (Nat.le_of_ble_eq_true rfl) dX5_begin_30 (fun H locs hP hD hS => ?_)
  have hP : va_P D vwCl [(mo, .inr (5, [.ref (Z 0), .int (v 0), .int (v 1), .ref (Z 1), .int (v 2), .ref (Z 2), .ref (Z 3), .int (nI T), .int (nI a), .int (v 4), .ref (Z 4), .ref (Z 5), .ref (Z 6), .ref (Z 7), .ref (Z 8), .int (v 5), .int (v 6), .int (nI (k + 1))])), ((Z 7), .inl (cI, 16000, .inl (upd g7 k (nI a)))), ((Z 8), .inl (cI, 16000, .inl (upd g8 k x)))] H := hP
  have hD : va_D A [(mo, .inr (5, [.ref (Z 0), .int (v 0), .int (v 1), .ref (Z 1), .int (v 2), .ref (Z 2), .ref (Z 3), .int (nI T), .int (nI a), .int (v 4), .ref (Z 4), .ref (Z 5), .ref (Z 6), .ref (Z 7), .ref (Z 8), .int (v 5), .int (v 6), .int (nI (k + 1))])), ((Z 7), .inl (cI, 16000, .inl (upd g7 k (nI a)))), ((Z 8), .inl (cI, 16000, .inl (upd g8 k x)))] := hD
  have hP9 := hP.sub (ws' := [(mo, .inr (5, [.ref (Z 0), .int (v 0), .int (v 1), .ref (Z 1), .int (v 2), .ref (Z 2), .ref (Z 3), .int (nI T), .int (nI a), .int (v 4), .ref (Z 4), .ref (Z 5), .ref (Z 6), .ref (Z 7), .ref (Z 8), .int (v 5), .int (v 6), .int (nI (k + 1))])), ((Z 7), .inl (cI, 16000, .inl (upd g7 k (nI a)))), ((Z 8), .inl (cI, 16000, .inl (upd g8 k x)))]) [0, 1, 2] rfl
  have hD9 := hD.sub (ws' := [(mo, .inr (5, [.ref (Z 0), .int (v 0), .int (v 1), .ref (Z 1), .int (v 2), .ref (Z 2), .ref (Z 3), .int (nI T), .int (nI a), .int (v 4), .ref (Z 4), .ref (Z 5), .ref (Z 6), .ref (Z 7), .ref (Z 8), .int (v 5), .int (v 6), .int (nI (k + 1))])), ((Z 7), .inl (cI, 16000, .inl (upd g7 k (nI a)))), ((Z 8), .inl (cI, 16000, .inl (upd g8 k x)))]) [0, 1, 2] (by decide) rfl
  refine W.widen (k := 0) (n := 0) (show 0 ≤ 0 by omega) (show 0 ≤ 0 by omega) ?_
  exact W.vret hx hb hr (fun t9 ht hW => ⟨⟨(), rfl, trivial, by rw [ht]; exact hP9, hD9⟩, hS.F ht⟩) hS.2.2 dX5_begin_33
/-- kind bits and the text of a token -/
def BRG (BB : Nat → Nat) (b e : Nat) : Prop :=
  (¬ kdF BB (b, e) &&& 1 = 0 ↔ WdP BB b e [40]) ∧ (¬ kdF BB (b, e) &&& 2 = 0 ↔ WdP BB b e [41]) ∧ (¬ kdF BB (b, e) &&& 4 = 0 ↔ WdP BB b e [123]) ∧ (¬ kdF BB (b, e) &&& 8 = 0 ↔ WdP BB b e [125]) ∧ (¬ kdF BB (b, e) &&& 16 = 0 ↔ WdP BB b e [58]) ∧
  (¬ kdF BB (b, e) &&& 32 = 0 ↔ NmP BB b e 97) ∧ (¬ kdF BB (b, e) &&& 64 = 0 ↔ NmP BB b e 65) ∧ (¬ kdF BB (b, e) &&& 128 = 0 ↔ NumP BB b e) ∧ (¬ kdF BB (b, e) &&& 512 = 0 ↔ RefP BB b e) ∧
  (¬ kdF BB (b, e) &&& 1024 = 0 ↔ WdP BB b e [99, 108, 97, 115, 115]) ∧ (¬ kdF BB (b, e) &&& 2048 = 0 ↔ WdP BB b e [111, 102]) ∧ (¬ kdF BB (b, e) &&& 4096 = 0 ↔ WdP BB b e [102, 105, 101, 108, 100]) ∧ (¬ kdF BB (b, e) &&& 8192 = 0 ↔ WdP BB b e [115, 116, 97, 116, 105, 99]) ∧ (¬ kdF BB (b, e) &&& 28672 = 0 ↔ WdP BB b e [102, 105, 101, 108, 100] ∨ WdP BB b e [115, 116, 97, 116, 105, 99] ∨ WdP BB b e [109, 101, 116, 104, 111, 100]) ∧ (¬ kdF BB (b, e) &&& 32768 = 0 ↔ WdP BB b e [99, 97, 116, 99, 104]) ∧
  (¬ kdF BB (b, e) &&& 65856 = 0 ↔ TyP BB b e) ∧ (¬ kdF BB (b, e) &&& 196928 = 0 ↔ WdP BB b e [110, 111, 110, 101] ∨ TyP BB b e) ∧ (¬ kdF BB (b, e) &&& 320 = 0 ↔ TyP BB b e ∧ ¬ WdP BB b e [105, 110, 116]) ∧ (¬ kdF BB (b, e) &&& 65600 = 0 ↔ WdP BB b e [105, 110, 116] ∨ NmP BB b e 65) ∧
  (¬ NmP BB b e 97 → idF BB (b, e) = -1) ∧ (NmP BB b e 97 → idF BB (b, e) = ixW BB b e insW 0) ∧ (¬ NmP BB b e 97 → ixW BB b e insW 0 = -1) ∧ (WdP BB b e [99, 97, 116, 99, 104] → NmP BB b e 97)
noncomputable def kD (BB fr tt : Nat → Nat) : Nat → Int32 := fun t => kdF BB (fr t, tt t)
noncomputable def iD (BB fr tt : Nat → Nat) : Nat → Int32 := fun t => idF BB (fr t, tt t)
/-- a fit, by the text -/
theorem xp_iff {BB fr tt : Nat → Nat} {T t : Nat} {b : Int32} {P : Prop} (h : t < T → (¬ kdF BB (fr t, tt t) &&& b = 0 ↔ P)) : XP (kD BB fr tt) T b t ↔ t < T ∧ P := ⟨fun q => ⟨q.1, (h q.1).mp q.2⟩, fun q => ⟨q.1, (h q.1).mpr q.2⟩⟩
theorem ixW_b {BB : Nat → Nat} {b e : Nat} : ∀ (ws : List (List Nat)) (k : Nat), ixW BB b e ws k = -1 ∨ ∃ j, k ≤ j ∧ j < k + ws.length ∧ ixW BB b e ws k = nI j := by
  intro ws
  induction ws with
  | nil => intro k; exact Or.inl rfl
  | cons w r ih =>
    intro k
    by_cases h : WdP BB b e w
    · exact Or.inr ⟨k, Nat.le_refl k, by rw [List.length_cons]; omega, ixW_t h⟩
    · rw [ixW_f h]
      rcases ih (k + 1) with q | ⟨j, h1, h2, h3⟩
      · exact Or.inl q
      · exact Or.inr ⟨j, by omega, by rw [List.length_cons]; omega, h3⟩
theorem ins_b (BB : Nat → Nat) (b e : Nat) : ixW BB b e insW 0 = -1 ∨ ∃ j, j < 46 ∧ ixW BB b e insW 0 = nI j := by
  rcases ixW_b (BB := BB) (b := b) (e := e) insW 0 with h | ⟨j, -, h2, h3⟩
  · exact Or.inl h
  · have h46 : insW.length = 46 := by decide +kernel
    rw [h46] at h2
    exact Or.inr ⟨j, by omega, h3⟩
