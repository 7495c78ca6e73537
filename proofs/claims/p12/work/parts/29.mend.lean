set_option maxHeartbeats 4000000 in
set_option maxRecDepth 100000 in
/-- line -/
theorem kX5_line (l : Launch) (D : va_G) (cB cI : ClassId) (mo : Nat) (Z : Nat → Nat) (v : Nat → Int32) (T : Nat) (f : Nat → Int32) (k : Nat) (i : Int32) (hk : k ≤ 16000) : Met l yX5_line wsX5_line ({ frames := 1, cells := 0, slots := 0, locals := 21 }) (va_Pc [.ref mo, .int i] (bt_R D cB cI [(mo, .inr (5, [.ref (Z 0), .int (v 0), .int (v 1), .ref (Z 1), .int (v 2), .ref (Z 2), .ref (Z 3), .int (nI T), .int (v 3), .int (v 4), .ref (Z 4), .ref (Z 5), .ref (Z 6), .ref (Z 7), .ref (Z 8), .int (v 5), .int (v 6), .int (nI k)])), ((Z 8), .inl (cI, 16000, .inl f))])) (vp_Si (fun r => r = rw_get (fun j => if nI 2 < f j then nI 2 else f j) k i)) 0 0 (fun _ => False) := by
  refine Met.ofW (cc := cX5_line) (maxL := 2) (ret := (some .int)) (by decide) rfl ?_
  intro p e s m args below meth c s₁ B hml hv
  obtain ⟨rfl, hP, hK, hN⟩ := hv
  have hx := B.exec
  have hb := B.bytes
  have hr := B.returns
  have hts := atoms_spec (ws := wsX5_line) B.pre
  have hown : s.vm.findClass RX5 = some m.cls := findClass_of_methodNamed B.named
  have hlocks := B.notSynchronized
  have hl := lv_entry ([.ref mo, .int i]) (n := 2) (Nat.le_of_ble_eq_true rfl)
  rw [lg_entry_eq]
  generalize (lg_sl ([.ref mo, .int i]) ++ List.replicate (2 - (lg_sl ([.ref mo, .int i])).length) Slot.unset).toArray = ls at hl ⊢
  have hl : lv_has ls 2 [(0, .ref mo), (1, .int i)] := hl
  refine lv_iload_n hx hb dX5_line_0 rfl (lv_at hl 1 rfl) ?_
  refine lv_if_lt (tgt := 12) hx hb dX5_line_1 (by decide) (fun c_1 => ?_) (fun c_1 => ?_)
  · refine lv_iconst (v := -1) hx hb dX5_line_12 (by decide) ?_
    refine lv_goto (tgt := 26) hx hb dX5_line_13 (by decide) ?_
    exact W.iret (v := (-1)) hx hb hr (fun t9 ht hW => ⟨(-1), rfl, (rw_get_lo c_1).symm, ht⟩) (fun _ h => by cases h) dX5_line_26
  · refine lv_iload_n hx hb dX5_line_4 rfl (lv_at hl 1 rfl) ?_
    refine lv_aload_n hx hb dX5_line_5 rfl (lv_at hl 0 rfl) ?_
    refine va_get (D := D) (ci := 5) (v := .int (nI k)) (C := RX5) (T := TX5) (N := 18) hx hb hts (by decide +kernel) hown hK hP 0 rfl rfl 17 (by decide) (hts (.fieldLink RX5 149 "BodyTextModel" "lines" "I") (by decide +kernel)) (fun _ h9 => h9) rfl dX5_line_6 ?_
    refine lv_icmp_lt (tgt := 16) hx hb dX5_line_9 (by decide) (fun c_9 => ?_) (fun c_9 => ?_)
    · obtain ⟨j, hj, rfl⟩ := bt_ix c_1 (fun q => absurd c_9 (Int32.not_lt.mpr q)) (by omega)
      refine lv_aload_n hx hb dX5_line_16 rfl (lv_at hl 0 rfl) ?_
      refine va_get (D := D) (ci := 5) (v := .ref (Z 8)) (C := RX5) (T := TX5) (N := 18) hx hb hts (by decide +kernel) hown hK hP 0 rfl rfl 14 (by decide) (hts (.fieldLink RX5 39 "BodyTextModel" "lineKind" "[I") (by decide +kernel)) (fun _ h9 => h9) rfl dX5_line_17 ?_
      refine lv_iload_n hx hb dX5_line_20 rfl (lv_at hl 1 rfl) ?_
      refine va_iald hx hb hK hP 1 1 rfl rfl (vp_in_nI (by omega) (by omega)) dX5_line_21 ?_
      rw [nI_clamp (by omega)]
      refine lv_iconst (v := nI 2) hx hb dX5_line_22 (by decide) ?_
      refine va_mmin hx hb (by rw [hml]; exact hl.1.symm) hown (hts (.methodLink RX5 178 Lib.Math.min.name) (by decide +kernel)) (hts (.static Lib.Math.min.name) (by decide +kernel)) (hts (.initialized "java/lang/Math") (by decide +kernel)) (hts (.code Lib.Math.min.name Lib.Math.min.code 2 (some .int)) (by decide +kernel)) (Nat.le_of_ble_eq_true rfl) (Nat.le_of_ble_eq_true rfl) (Nat.zero_le _) (Nat.zero_le _) dX5_line_23 ?_
      exact W.iret (v := (if nI 2 < (f j) then nI 2 else (f j))) hx hb hr (fun t9 ht hW => ⟨(if nI 2 < (f j) then nI 2 else (f j)), rfl, (rw_get_in (f := fun j => if nI 2 < f j then nI 2 else f j) (by omega) hj).symm, ht⟩) (fun _ h => by cases h) dX5_line_26
    · refine lv_iconst (v := -1) hx hb dX5_line_12 (by decide) ?_
      refine lv_goto (tgt := 26) hx hb dX5_line_13 (by decide) ?_
      exact W.iret (v := (-1)) hx hb hr (fun t9 ht hW => ⟨(-1), rfl, (rw_get_hi (by omega) (Int32.not_lt.mp c_9)).symm, ht⟩) (fun _ h => by cases h) dX5_line_26
set_option maxHeartbeats 4000000 in
set_option maxRecDepth 100000 in
/-- instruction -/
theorem kX5_instruction (l : Launch) (D : va_G) (cB cI : ClassId) (mo : Nat) (Z : Nat → Nat) (v : Nat → Int32) (T : Nat) (f : Nat → Int32) (k : Nat) (i : Int32) (hk : k ≤ 16000) : Met l yX5_instruction wsX5_instruction ({ frames := 0, cells := 0, slots := 0, locals := 0 }) (va_Pc [.ref mo, .int i] (bt_R D cB cI [(mo, .inr (5, [.ref (Z 0), .int (v 0), .int (v 1), .ref (Z 1), .int (v 2), .ref (Z 2), .ref (Z 3), .int (nI T), .int (v 3), .int (v 4), .ref (Z 4), .ref (Z 5), .ref (Z 6), .ref (Z 7), .ref (Z 8), .int (v 5), .int (v 6), .int (nI k)])), ((Z 8), .inl (cI, 16000, .inl f))])) (vp_Si (fun r => r = rw_get (fun j => if nI 2 ≤ f j then f j - nI 2 else -1) k i)) 0 0 (fun _ => False) := by
  refine Met.ofW (cc := cX5_instruction) (maxL := 2) (ret := (some .int)) (by decide) rfl ?_
  intro p e s m args below meth c s₁ B hml hv
  obtain ⟨rfl, hP, hK, hN⟩ := hv
  have hx := B.exec
  have hb := B.bytes
  have hr := B.returns
  have hts := atoms_spec (ws := wsX5_instruction) B.pre
  have hown : s.vm.findClass RX5 = some m.cls := findClass_of_methodNamed B.named
  have hlocks := B.notSynchronized
  have hl := lv_entry ([.ref mo, .int i]) (n := 2) (Nat.le_of_ble_eq_true rfl)
  rw [lg_entry_eq]
  generalize (lg_sl ([.ref mo, .int i]) ++ List.replicate (2 - (lg_sl ([.ref mo, .int i])).length) Slot.unset).toArray = ls at hl ⊢
  have hl : lv_has ls 2 [(0, .ref mo), (1, .int i)] := hl
  refine lv_iload_n hx hb dX5_instruction_0 rfl (lv_at hl 1 rfl) ?_
  refine lv_if_lt (tgt := 22) hx hb dX5_instruction_1 (by decide) (fun c_1 => ?_) (fun c_1 => ?_)
  · refine lv_iconst (v := -1) hx hb dX5_instruction_22 (by decide) ?_
    refine lv_goto (tgt := 34) hx hb dX5_instruction_23 (by decide) ?_
    exact W.iret (v := (-1)) hx hb hr (fun t9 ht hW => ⟨(-1), rfl, (rw_get_lo c_1).symm, ht⟩) (fun _ h => by cases h) dX5_instruction_34
  · refine lv_iload_n hx hb dX5_instruction_4 rfl (lv_at hl 1 rfl) ?_
    refine lv_aload_n hx hb dX5_instruction_5 rfl (lv_at hl 0 rfl) ?_
    refine va_get (D := D) (ci := 5) (v := .int (nI k)) (C := RX5) (T := TX5) (N := 18) hx hb hts (by decide +kernel) hown hK hP 0 rfl rfl 17 (by decide) (hts (.fieldLink RX5 149 "BodyTextModel" "lines" "I") (by decide +kernel)) (fun _ h9 => h9) rfl dX5_instruction_6 ?_
    refine lv_icmp_ge (tgt := 22) hx hb dX5_instruction_9 (by decide) (fun c_9 => ?_) (fun c_9 => ?_)
    · refine lv_iconst (v := -1) hx hb dX5_instruction_22 (by decide) ?_
      refine lv_goto (tgt := 34) hx hb dX5_instruction_23 (by decide) ?_
      exact W.iret (v := (-1)) hx hb hr (fun t9 ht hW => ⟨(-1), rfl, (rw_get_hi (by omega) c_9).symm, ht⟩) (fun _ h => by cases h) dX5_instruction_34
    · obtain ⟨j, hj, rfl⟩ := bt_ix c_1 c_9 (by omega)
      refine lv_aload_n hx hb dX5_instruction_12 rfl (lv_at hl 0 rfl) ?_
      refine va_get (D := D) (ci := 5) (v := .ref (Z 8)) (C := RX5) (T := TX5) (N := 18) hx hb hts (by decide +kernel) hown hK hP 0 rfl rfl 14 (by decide) (hts (.fieldLink RX5 39 "BodyTextModel" "lineKind" "[I") (by decide +kernel)) (fun _ h9 => h9) rfl dX5_instruction_13 ?_
      refine lv_iload_n hx hb dX5_instruction_16 rfl (lv_at hl 1 rfl) ?_
      refine va_iald hx hb hK hP 1 1 rfl rfl (vp_in_nI (by omega) (by omega)) dX5_instruction_17 ?_
      rw [nI_clamp (by omega)]
      refine lv_iconst (v := nI 2) hx hb dX5_instruction_18 (by decide) ?_
      refine lv_icmp_ge (tgt := 26) hx hb dX5_instruction_19 (by decide) (fun c_19 => ?_) (fun c_19 => ?_)
      · refine lv_aload_n hx hb dX5_instruction_26 rfl (lv_at hl 0 rfl) ?_
        refine va_get (D := D) (ci := 5) (v := .ref (Z 8)) (C := RX5) (T := TX5) (N := 18) hx hb hts (by decide +kernel) hown hK hP 0 rfl rfl 14 (by decide) (hts (.fieldLink RX5 39 "BodyTextModel" "lineKind" "[I") (by decide +kernel)) (fun _ h9 => h9) rfl dX5_instruction_27 ?_
        refine lv_iload_n hx hb dX5_instruction_30 rfl (lv_at hl 1 rfl) ?_
        refine va_iald hx hb hK hP 1 1 rfl rfl (vp_in_nI (by omega) (by omega)) dX5_instruction_31 ?_
        rw [nI_clamp (by omega)]
        refine lv_iconst (v := nI 2) hx hb dX5_instruction_32 (by decide) ?_
        refine lv_isub hx hb dX5_instruction_33 ?_
        exact W.iret (v := ((f j) - nI 2)) hx hb hr (fun t9 ht hW => ⟨((f j) - nI 2), rfl, ((rw_get_in (f := fun j => if nI 2 ≤ f j then f j - nI 2 else -1) (by omega) hj).trans (if_pos c_19)).symm, ht⟩) (fun _ h => by cases h) dX5_instruction_34
      · refine lv_iconst (v := -1) hx hb dX5_instruction_22 (by decide) ?_
        refine lv_goto (tgt := 34) hx hb dX5_instruction_23 (by decide) ?_
        exact W.iret (v := (-1)) hx hb hr (fun t9 ht hW => ⟨(-1), rfl, ((rw_get_in (f := fun j => if nI 2 ≤ f j then f j - nI 2 else -1) (by omega) hj).trans (if_neg c_19)).symm, ht⟩) (fun _ h => by cases h) dX5_instruction_34
set_option maxHeartbeats 4000000 in
set_option maxRecDepth 100000 in
/-- end(n) -/
theorem kX5_end_ok (l : Launch) (D : va_G) (cB cI : ClassId) (mo : Nat) (Z : Nat → Nat) (v : Nat → Int32) (T l9 n1 : Nat) (gb gt : Nat → Int32) (hn1 : n1 ≤ l9) (hl9 : l9 ≤ 16000) (hby : ∀ j, j < l9 → vp_nar .byte (gb j) = gb j) (sz : Nat) : Met l yX5_end wsX5_end ({ frames := 0, cells := 0, slots := 0, locals := 0 }) (va_Pc [.ref mo, .int (nI n1)] (bt_M D cB cI sz [(mo, .inr (5, [.ref (Z 0), .int (nI l9), .int (v 1), .ref (Z 1), .int (v 2), .ref (Z 2), .ref (Z 3), .int (nI T), .int (v 3), .int (v 4), .ref (Z 4), .ref (Z 5), .ref (Z 6), .ref (Z 7), .ref (Z 8), .int (v 5), .int (v 6), .int (v 7)])), ((Z 0), .inl (cB, 16000, .inl gb)), ((Z 1), .inl (cB, 16000, .inl gt))])) (va_Qi (S := Nat → Int32) (fun r u => r = nI 1 ∧ ∀ j, j < n1 → u j = gb j) (fun u t9 => bt_L D (va_A [(mo, .inr (5, [.ref (Z 0), .int (nI l9), .int (v 1), .ref (Z 1), .int (v 2), .ref (Z 2), .ref (Z 3), .int (nI T), .int (v 3), .int (v 4), .ref (Z 4), .ref (Z 5), .ref (Z 6), .ref (Z 7), .ref (Z 8), .int (v 5), .int (v 6), .int (v 7)])), ((Z 0), .inl (cB, 16000, .inl gb)), ((Z 1), .inl (cB, 16000, .inl gt))] sz) ((fun u => [(mo, .inr (5, [.ref (Z 0), .int (nI 0), .int (v 1), .ref (Z 1), .int (nI n1), .ref (Z 2), .ref (Z 3), .int (nI T), .int (v 3), .int (v 4), .ref (Z 4), .ref (Z 5), .ref (Z 6), .ref (Z 7), .ref (Z 8), .int (v 5), .int (v 6), .int (v 7)])), ((Z 0), .inl (cB, 16000, .inl gb)), ((Z 1), .inl (cB, 16000, .inl u))]) u) t9) (va_A [(mo, .inr (5, [.ref (Z 0), .int (nI l9), .int (v 1), .ref (Z 1), .int (v 2), .ref (Z 2), .ref (Z 3), .int (nI T), .int (v 3), .int (v 4), .ref (Z 4), .ref (Z 5), .ref (Z 6), .ref (Z 7), .ref (Z 8), .int (v 5), .int (v 6), .int (v 7)])), ((Z 0), .inl (cB, 16000, .inl gb)), ((Z 1), .inl (cB, 16000, .inl gt))] sz)) 0 0 (va_A [(mo, .inr (5, [.ref (Z 0), .int (nI l9), .int (v 1), .ref (Z 1), .int (v 2), .ref (Z 2), .ref (Z 3), .int (nI T), .int (v 3), .int (v 4), .ref (Z 4), .ref (Z 5), .ref (Z 6), .ref (Z 7), .ref (Z 8), .int (v 5), .int (v 6), .int (v 7)])), ((Z 0), .inl (cB, 16000, .inl gb)), ((Z 1), .inl (cB, 16000, .inl gt))] sz) := by
  refine Met.ofW (cc := cX5_end) (maxL := 3) (ret := (some .boolean)) (by decide) rfl ?_
  intro p e s m args below meth c s₁ B hml hv
  obtain ⟨rfl, hsz, hP, hK, hN, hD0⟩ := hv
  have hx := B.exec
  have hb := B.bytes
  have hr := B.returns
  have hts := atoms_spec (ws := wsX5_end) B.pre
  have hown : s.vm.findClass RX5 = some m.cls := findClass_of_methodNamed B.named
  have hlocks := B.notSynchronized
  subst hsz
  have hD := hD0.self (sz := s.heap.size)
  generalize hAe : va_A [(mo, .inr (5, [.ref (Z 0), .int (nI l9), .int (v 1), .ref (Z 1), .int (v 2), .ref (Z 2), .ref (Z 3), .int (nI T), .int (v 3), .int (v 4), .ref (Z 4), .ref (Z 5), .ref (Z 6), .ref (Z 7), .ref (Z 8), .int (v 5), .int (v 6), .int (v 7)])), ((Z 0), .inl (cB, 16000, .inl gb)), ((Z 1), .inl (cB, 16000, .inl gt))] s.heap.size = A at hD ⊢
  have hA : ∀ q : Nat, s.heap.size ≤ q → A q := fun q h => by rw [← hAe]; exact Or.inr h
  have hS : va_S A s.heap s.heap [] := va_S.rf
  have hl := lv_entry ([.ref mo, .int (nI n1)]) (n := 3) (Nat.le_of_ble_eq_true rfl)
  rw [lg_entry_eq]
  generalize (lg_sl ([.ref mo, .int (nI n1)]) ++ List.replicate (3 - (lg_sl ([.ref mo, .int (nI n1)])).length) Slot.unset).toArray = ls at hl ⊢
  have hl : lv_has ls 3 [(0, .ref mo), (1, .int (nI n1))] := hl
  refine bt_genQ (fun Qp hQ => ?_)
  refine lv_iload_n hx hb dX5_end_0 rfl (lv_at hl 1 rfl) ?_
  refine lv_if_lt (tgt := 12) hx hb dX5_end_1 (by decide) (fun c_1 => ?_) (fun c_1 => ?_)
  · have c_1 : n1 < 0 := (nI_ltI (a := n1) (b := 0) (by omega) (by omega)).mp c_1
    exfalso; omega
  · have c_1 : ¬ (n1 < 0) := fun h9 => c_1 ((nI_ltI (a := n1) (b := 0) (by omega) (by omega)).mpr h9)
    refine lv_iload_n hx hb dX5_end_4 rfl (lv_at hl 1 rfl) ?_
    refine lv_aload_n hx hb dX5_end_5 rfl (lv_at hl 0 rfl) ?_
    refine va_get (D := D) (ci := 5) (v := .int (nI l9)) (C := RX5) (T := TX5) (N := 18) hx hb hts (by decide +kernel) hown hK hP 0 rfl rfl 1 (by decide) (hts (.fieldLink RX5 42 "BodyTextModel" "fed" "I") (by decide +kernel)) (fun _ h9 => h9) rfl dX5_end_6 ?_
    refine lv_icmp_le (tgt := 14) hx hb dX5_end_9 (by decide) (fun c_9 => ?_) (fun c_9 => ?_)
    · have c_9 : n1 ≤ l9 := (nI_leI (a := n1) (b := l9) (by omega) (by omega)).mp c_9
      refine lv_iconst (v := nI 0) hx hb dX5_end_14 (by decide) ?_
      refine lv_istore_n (lv' := [(2, .int (nI 0)), (0, .ref mo), (1, .int (nI n1))]) hx hb dX5_end_15 rfl hl (by decide) rfl (fun ls hl => ?_)
      have hP := hP.sub (ws' := [(mo, .inr (5, [.ref (Z 0), .int (nI l9), .int (v 1), .ref (Z 1), .int (v 2), .ref (Z 2), .ref (Z 3), .int (nI T), .int (v 3), .int (v 4), .ref (Z 4), .ref (Z 5), .ref (Z 6), .ref (Z 7), .ref (Z 8), .int (v 5), .int (v 6), .int (v 7)])), ((Z 0), .inl (cB, 16000, .inl gb)), ((Z 1), .inl (cB, 16000, .inl gt))]) [0, 1, 2] rfl
      have hD := hD.sub (ws' := [(mo, .inr (5, [.ref (Z 0), .int (nI l9), .int (v 1), .ref (Z 1), .int (v 2), .ref (Z 2), .ref (Z 3), .int (nI T), .int (v 3), .int (v 4), .ref (Z 4), .ref (Z 5), .ref (Z 6), .ref (Z 7), .ref (Z 8), .int (v 5), .int (v 6), .int (v 7)])), ((Z 0), .inl (cB, 16000, .inl gb)), ((Z 1), .inl (cB, 16000, .inl gt))]) [0, 1, 2] (by decide) rfl
      have hP : va_P D vwCl [(mo, .inr (5, [.ref (Z 0), .int (nI l9), .int (v 1), .ref (Z 1), .int (v 2), .ref (Z 2), .ref (Z 3), .int (nI T), .int (v 3), .int (v 4), .ref (Z 4), .ref (Z 5), .ref (Z 6), .ref (Z 7), .ref (Z 8), .int (v 5), .int (v 6), .int (v 7)])), ((Z 0), .inl (cB, 16000, .inl gb)), ((Z 1), .inl (cB, 16000, .inl gt))] s.heap := hP
      have hD : va_D A [(mo, .inr (5, [.ref (Z 0), .int (nI l9), .int (v 1), .ref (Z 1), .int (v 2), .ref (Z 2), .ref (Z 3), .int (nI T), .int (v 3), .int (v 4), .ref (Z 4), .ref (Z 5), .ref (Z 6), .ref (Z 7), .ref (Z 8), .int (v 5), .int (v 6), .int (v 7)])), ((Z 0), .inl (cB, 16000, .inl gb)), ((Z 1), .inl (cB, 16000, .inl gt))] := hD
      have loop_16 : ∀ (fu k : Nat) (g1 : Nat → Int32) (H : Heap) (locs : List Loc), (n1 + 1 ≤ k + fu) → (k ≤ n1) → (∀ j, j < k → g1 j = gb j) → (va_P D vwCl [(mo, .inr (5, [.ref (Z 0), .int (nI l9), .int (v 1), .ref (Z 1), .int (v 2), .ref (Z 2), .ref (Z 3), .int (nI T), .int (v 3), .int (v 4), .ref (Z 4), .ref (Z 5), .ref (Z 6), .ref (Z 7), .ref (Z 8), .int (v 5), .int (v 6), .int (v 7)])), ((Z 0), .inl (cB, 16000, .inl gb)), ((Z 1), .inl (cB, 16000, .inl g1))] H) → (va_D A [(mo, .inr (5, [.ref (Z 0), .int (nI l9), .int (v 1), .ref (Z 1), .int (v 2), .ref (Z 2), .ref (Z 3), .int (nI T), .int (v 3), .int (v 4), .ref (Z 4), .ref (Z 5), .ref (Z 6), .ref (Z 7), .ref (Z 8), .int (v 5), .int (v 6), .int (v 7)])), ((Z 0), .inl (cB, 16000, .inl gb)), ((Z 1), .inl (cB, 16000, .inl g1))]) → (va_S A s.heap H locs) → ∀ (ls : Array Slot), lv_has ls 3 [(0, .ref mo), (1, .int (nI n1)), (2, .int (nI k))] → W p l e ({ frames := 0, cells := 0, slots := 0, locals := 0 } : Room) s m ([.ref mo, .int (nI n1)] : List Value).toArray below meth c H locs 0 0 Qp (F0 m 16 ls []) := by
        intro fu
        induction fu with
        | zero => intro k g1 H locs hm hk hin hP hD hS ls hl; exfalso; omega
        | succ fu ih =>
          intro k g1 H locs hm hk hin hP hD hS ls hl
          refine lv_iload_n hx hb dX5_end_16 rfl (lv_at hl 2 rfl) ?_
          refine lv_iload_n hx hb dX5_end_17 rfl (lv_at hl 1 rfl) ?_
          refine lv_icmp_ge (tgt := 39) hx hb dX5_end_18 (by decide) (fun c_18 => ?_) (fun c_18 => ?_)
          · have c_18 : n1 ≤ k := (nI_leI (a := n1) (b := k) (by omega) (by omega)).mp c_18
            refine lv_aload_n hx hb dX5_end_39 rfl (lv_at hl 0 rfl) ?_
            refine lv_iload_n hx hb dX5_end_40 rfl (lv_at hl 1 rfl) ?_
            refine va_put (D := D) (ci := 5) (v := .int (nI n1)) (ty := .int) (C := RX5) (T := TX5) (N := 18) hx hb hts (by decide +kernel) tyX5 tyX5_ok nmX5 hown hK hP hD hS 0 rfl rfl 4 (by decide) (hts (.fieldLink RX5 53 "BodyTextModel" "textLength" "I") (by decide +kernel)) (fun _ h9 => h9) rfl (by decide +kernel) rfl rfl (Nat.le_of_ble_eq_true rfl) dX5_end_41 (fun H locs hP hD hS => ?_)
            have hP : va_P D vwCl [(mo, .inr (5, [.ref (Z 0), .int (nI l9), .int (v 1), .ref (Z 1), .int (nI n1), .ref (Z 2), .ref (Z 3), .int (nI T), .int (v 3), .int (v 4), .ref (Z 4), .ref (Z 5), .ref (Z 6), .ref (Z 7), .ref (Z 8), .int (v 5), .int (v 6), .int (v 7)])), ((Z 0), .inl (cB, 16000, .inl gb)), ((Z 1), .inl (cB, 16000, .inl g1))] H := hP
            have hD : va_D A [(mo, .inr (5, [.ref (Z 0), .int (nI l9), .int (v 1), .ref (Z 1), .int (nI n1), .ref (Z 2), .ref (Z 3), .int (nI T), .int (v 3), .int (v 4), .ref (Z 4), .ref (Z 5), .ref (Z 6), .ref (Z 7), .ref (Z 8), .int (v 5), .int (v 6), .int (v 7)])), ((Z 0), .inl (cB, 16000, .inl gb)), ((Z 1), .inl (cB, 16000, .inl g1))] := hD
            refine lv_aload_n hx hb dX5_end_44 rfl (lv_at hl 0 rfl) ?_
            refine lv_iconst (v := nI 0) hx hb dX5_end_45 (by decide) ?_
            refine va_put (D := D) (ci := 5) (v := .int (nI 0)) (ty := .int) (C := RX5) (T := TX5) (N := 18) hx hb hts (by decide +kernel) tyX5 tyX5_ok nmX5 hown hK hP hD hS 0 rfl rfl 1 (by decide) (hts (.fieldLink RX5 42 "BodyTextModel" "fed" "I") (by decide +kernel)) (fun _ h9 => h9) rfl (by decide +kernel) rfl rfl (Nat.le_of_ble_eq_true rfl) dX5_end_46 (fun H locs hP hD hS => ?_)
            have hP : va_P D vwCl [(mo, .inr (5, [.ref (Z 0), .int (nI 0), .int (v 1), .ref (Z 1), .int (nI n1), .ref (Z 2), .ref (Z 3), .int (nI T), .int (v 3), .int (v 4), .ref (Z 4), .ref (Z 5), .ref (Z 6), .ref (Z 7), .ref (Z 8), .int (v 5), .int (v 6), .int (v 7)])), ((Z 0), .inl (cB, 16000, .inl gb)), ((Z 1), .inl (cB, 16000, .inl g1))] H := hP
            have hD : va_D A [(mo, .inr (5, [.ref (Z 0), .int (nI 0), .int (v 1), .ref (Z 1), .int (nI n1), .ref (Z 2), .ref (Z 3), .int (nI T), .int (v 3), .int (v 4), .ref (Z 4), .ref (Z 5), .ref (Z 6), .ref (Z 7), .ref (Z 8), .int (v 5), .int (v 6), .int (v 7)])), ((Z 0), .inl (cB, 16000, .inl gb)), ((Z 1), .inl (cB, 16000, .inl g1))] := hD
            refine lv_iconst (v := nI 1) hx hb dX5_end_49 (by decide) ?_
            have hP := hP.sub (ws' := [(mo, .inr (5, [.ref (Z 0), .int (nI 0), .int (v 1), .ref (Z 1), .int (nI n1), .ref (Z 2), .ref (Z 3), .int (nI T), .int (v 3), .int (v 4), .ref (Z 4), .ref (Z 5), .ref (Z 6), .ref (Z 7), .ref (Z 8), .int (v 5), .int (v 6), .int (v 7)])), ((Z 0), .inl (cB, 16000, .inl gb)), ((Z 1), .inl (cB, 16000, .inl g1))]) [0, 1, 2] rfl
            have hD := hD.sub (ws' := [(mo, .inr (5, [.ref (Z 0), .int (nI 0), .int (v 1), .ref (Z 1), .int (nI n1), .ref (Z 2), .ref (Z 3), .int (nI T), .int (v 3), .int (v 4), .ref (Z 4), .ref (Z 5), .ref (Z 6), .ref (Z 7), .ref (Z 8), .int (v 5), .int (v 6), .int (v 7)])), ((Z 0), .inl (cB, 16000, .inl gb)), ((Z 1), .inl (cB, 16000, .inl g1))]) [0, 1, 2] (by decide) rfl
            have hP : va_P D vwCl [(mo, .inr (5, [.ref (Z 0), .int (nI 0), .int (v 1), .ref (Z 1), .int (nI n1), .ref (Z 2), .ref (Z 3), .int (nI T), .int (v 3), .int (v 4), .ref (Z 4), .ref (Z 5), .ref (Z 6), .ref (Z 7), .ref (Z 8), .int (v 5), .int (v 6), .int (v 7)])), ((Z 0), .inl (cB, 16000, .inl gb)), ((Z 1), .inl (cB, 16000, .inl g1))] H := by exact hP
            have hD : va_D A [(mo, .inr (5, [.ref (Z 0), .int (nI 0), .int (v 1), .ref (Z 1), .int (nI n1), .ref (Z 2), .ref (Z 3), .int (nI T), .int (v 3), .int (v 4), .ref (Z 4), .ref (Z 5), .ref (Z 6), .ref (Z 7), .ref (Z 8), .int (v 5), .int (v 6), .int (v 7)])), ((Z 0), .inl (cB, 16000, .inl gb)), ((Z 1), .inl (cB, 16000, .inl g1))] := by exact hD
            rw [hQ]
            have hP9 := hP.sub (ws' := [(mo, .inr (5, [.ref (Z 0), .int (nI 0), .int (v 1), .ref (Z 1), .int (nI n1), .ref (Z 2), .ref (Z 3), .int (nI T), .int (v 3), .int (v 4), .ref (Z 4), .ref (Z 5), .ref (Z 6), .ref (Z 7), .ref (Z 8), .int (v 5), .int (v 6), .int (v 7)])), ((Z 0), .inl (cB, 16000, .inl gb)), ((Z 1), .inl (cB, 16000, .inl g1))]) [0, 1, 2] rfl
            have hD9 := hD.sub (ws' := [(mo, .inr (5, [.ref (Z 0), .int (nI 0), .int (v 1), .ref (Z 1), .int (nI n1), .ref (Z 2), .ref (Z 3), .int (nI T), .int (v 3), .int (v 4), .ref (Z 4), .ref (Z 5), .ref (Z 6), .ref (Z 7), .ref (Z 8), .int (v 5), .int (v 6), .int (v 7)])), ((Z 0), .inl (cB, 16000, .inl gb)), ((Z 1), .inl (cB, 16000, .inl g1))]) [0, 1, 2] (by decide) rfl
            refine W.widen (k := 0) (n := 0) (show 0 ≤ 0 by omega) (show 0 ≤ 0 by omega) ?_
            exact W.zret (v := nI 1) hx hb hr (by decide) (fun t9 ht hW => ⟨⟨nI 1, g1, rfl, ⟨rfl, fun j hj => hin j (by omega)⟩, by rw [ht]; exact hP9, hD9⟩, hS.F ht⟩) hS.2.2 dX5_end_50
          · have c_18 : ¬ (n1 ≤ k) := fun h9 => c_18 ((nI_leI (a := n1) (b := k) (by omega) (by omega)).mpr h9)
            refine lv_aload_n hx hb dX5_end_21 rfl (lv_at hl 0 rfl) ?_
            refine va_get (D := D) (ci := 5) (v := .ref (Z 1)) (C := RX5) (T := TX5) (N := 18) hx hb hts (by decide +kernel) hown hK hP 0 rfl rfl 3 (by decide) (hts (.fieldLink RX5 13 "BodyTextModel" "text" "[B") (by decide +kernel)) (fun _ h9 => h9) rfl dX5_end_22 ?_
            refine lv_iload_n hx hb dX5_end_25 rfl (lv_at hl 2 rfl) ?_
            refine lv_aload_n hx hb dX5_end_26 rfl (lv_at hl 0 rfl) ?_
            refine va_get (D := D) (ci := 5) (v := .ref (Z 0)) (C := RX5) (T := TX5) (N := 18) hx hb hts (by decide +kernel) hown hK hP 0 rfl rfl 0 (by decide) (hts (.fieldLink RX5 9 "BodyTextModel" "bytes" "[B") (by decide +kernel)) (fun _ h9 => h9) rfl dX5_end_27 ?_
            refine lv_iload_n hx hb dX5_end_30 rfl (lv_at hl 2 rfl) ?_
            refine va_bald hx hb hK hP 1 0 rfl rfl (vp_in_nI (by omega) (by omega)) dX5_end_31 ?_
            rw [nI_clamp (by omega)]
            refine va_bast hx hb hK hP hD hS 2 0 rfl rfl (vp_in_nI (by omega) (by omega)) dX5_end_32 (fun H locs hP hD hS => ?_)
            rw [nI_clamp (by omega)] at hP hD
            have hP : va_P D vwCl [(mo, .inr (5, [.ref (Z 0), .int (nI l9), .int (v 1), .ref (Z 1), .int (v 2), .ref (Z 2), .ref (Z 3), .int (nI T), .int (v 3), .int (v 4), .ref (Z 4), .ref (Z 5), .ref (Z 6), .ref (Z 7), .ref (Z 8), .int (v 5), .int (v 6), .int (v 7)])), ((Z 0), .inl (cB, 16000, .inl gb)), ((Z 1), .inl (cB, 16000, .inl (upd g1 k (vp_nar .byte (gb k)))))] H := hP
            have hD : va_D A [(mo, .inr (5, [.ref (Z 0), .int (nI l9), .int (v 1), .ref (Z 1), .int (v 2), .ref (Z 2), .ref (Z 3), .int (nI T), .int (v 3), .int (v 4), .ref (Z 4), .ref (Z 5), .ref (Z 6), .ref (Z 7), .ref (Z 8), .int (v 5), .int (v 6), .int (v 7)])), ((Z 0), .inl (cB, 16000, .inl gb)), ((Z 1), .inl (cB, 16000, .inl (upd g1 k (vp_nar .byte (gb k)))))] := hD
            refine lv_iinc (v := nI (k + 1)) (lv' := [(2, .int (nI (k + 1))), (0, .ref mo), (1, .int (nI n1))]) hx hb dX5_end_33 hl (k := 2) rfl (nI_add k 1) (by decide) rfl (fun ls hl => ?_)
            refine lv_goto (tgt := 16) hx hb dX5_end_36 (by decide) ?_
            have hP := hP.sub (ws' := [(mo, .inr (5, [.ref (Z 0), .int (nI l9), .int (v 1), .ref (Z 1), .int (v 2), .ref (Z 2), .ref (Z 3), .int (nI T), .int (v 3), .int (v 4), .ref (Z 4), .ref (Z 5), .ref (Z 6), .ref (Z 7), .ref (Z 8), .int (v 5), .int (v 6), .int (v 7)])), ((Z 0), .inl (cB, 16000, .inl gb)), ((Z 1), .inl (cB, 16000, .inl (upd g1 k (vp_nar .byte (gb k)))))]) [0, 1, 2] rfl
            have hD := hD.sub (ws' := [(mo, .inr (5, [.ref (Z 0), .int (nI l9), .int (v 1), .ref (Z 1), .int (v 2), .ref (Z 2), .ref (Z 3), .int (nI T), .int (v 3), .int (v 4), .ref (Z 4), .ref (Z 5), .ref (Z 6), .ref (Z 7), .ref (Z 8), .int (v 5), .int (v 6), .int (v 7)])), ((Z 0), .inl (cB, 16000, .inl gb)), ((Z 1), .inl (cB, 16000, .inl (upd g1 k (vp_nar .byte (gb k)))))]) [0, 1, 2] (by decide) rfl
            have hP : va_P D vwCl [(mo, .inr (5, [.ref (Z 0), .int (nI l9), .int (v 1), .ref (Z 1), .int (v 2), .ref (Z 2), .ref (Z 3), .int (nI T), .int (v 3), .int (v 4), .ref (Z 4), .ref (Z 5), .ref (Z 6), .ref (Z 7), .ref (Z 8), .int (v 5), .int (v 6), .int (v 7)])), ((Z 0), .inl (cB, 16000, .inl gb)), ((Z 1), .inl (cB, 16000, .inl (upd g1 k (vp_nar .byte (gb k)))))] H := hP
            have hD : va_D A [(mo, .inr (5, [.ref (Z 0), .int (nI l9), .int (v 1), .ref (Z 1), .int (v 2), .ref (Z 2), .ref (Z 3), .int (nI T), .int (v 3), .int (v 4), .ref (Z 4), .ref (Z 5), .ref (Z 6), .ref (Z 7), .ref (Z 8), .int (v 5), .int (v 6), .int (v 7)])), ((Z 0), .inl (cB, 16000, .inl gb)), ((Z 1), .inl (cB, 16000, .inl (upd g1 k (vp_nar .byte (gb k)))))] := hD
            exact ih (k + 1) (upd g1 k (vp_nar .byte (gb k))) H locs (by omega) (by omega) (fun j hj => by rcases Nat.lt_or_ge j k with q | q; rw [pk_un (by omega)]; exact hin j q; rw [show j = k by omega, pk_us]; exact hby k (by omega)) hP hD hS ls (lv_sub hl [1, 2, 0] rfl)
      exact loop_16 (n1 + 1) 0 gt s.heap [] (by omega) (by omega) (fun j hj => by omega) hP hD hS ls (lv_sub hl [1, 2, 0] rfl)
    · have c_9 : ¬ (n1 ≤ l9) := fun h9 => c_9 ((nI_leI (a := n1) (b := l9) (by omega) (by omega)).mpr h9)
      exfalso; omega
set_option maxHeartbeats 4000000 in
set_option maxRecDepth 100000 in
/-- end(n), refused -/
theorem kX5_end_no (l : Launch) (D : va_G) (cB cI : ClassId) (mo : Nat) (Z : Nat → Nat) (v : Nat → Int32) (T l9 : Nat) (n1 : Int32) (hno : n1 < 0 ∨ ¬ n1 ≤ nI l9) : Met l yX5_end wsX5_end ({ frames := 0, cells := 0, slots := 0, locals := 0 }) (va_Pc [.ref mo, .int n1] (bt_R D cB cI [(mo, .inr (5, [.ref (Z 0), .int (nI l9), .int (v 1), .ref (Z 1), .int (v 2), .ref (Z 2), .ref (Z 3), .int (nI T), .int (v 3), .int (v 4), .ref (Z 4), .ref (Z 5), .ref (Z 6), .ref (Z 7), .ref (Z 8), .int (v 5), .int (v 6), .int (v 7)]))])) (vp_Si (fun r => r = nI 0)) 0 0 (fun _ => False) := by
  refine Met.ofW (cc := cX5_end) (maxL := 3) (ret := (some .boolean)) (by decide) rfl ?_
  intro p e s m args below meth c s₁ B hml hv
  obtain ⟨rfl, hP, hK, hN⟩ := hv
  have hx := B.exec
  have hb := B.bytes
  have hr := B.returns
  have hts := atoms_spec (ws := wsX5_end) B.pre
  have hown : s.vm.findClass RX5 = some m.cls := findClass_of_methodNamed B.named
  have hlocks := B.notSynchronized
  have hl := lv_entry ([.ref mo, .int n1]) (n := 3) (Nat.le_of_ble_eq_true rfl)
  rw [lg_entry_eq]
  generalize (lg_sl ([.ref mo, .int n1]) ++ List.replicate (3 - (lg_sl ([.ref mo, .int n1])).length) Slot.unset).toArray = ls at hl ⊢
  have hl : lv_has ls 3 [(0, .ref mo), (1, .int n1)] := hl
  refine lv_iload_n hx hb dX5_end_0 rfl (lv_at hl 1 rfl) ?_
  refine lv_if_lt (tgt := 12) hx hb dX5_end_1 (by decide) (fun c_1 => ?_) (fun c_1 => ?_)
  · refine lv_iconst (v := nI 0) hx hb dX5_end_12 (by decide) ?_
    exact W.zret (v := nI 0) hx hb hr (by decide) (fun t9 ht hW => ⟨nI 0, rfl, rfl, ht⟩) (fun _ h => by cases h) dX5_end_13
  · refine lv_iload_n hx hb dX5_end_4 rfl (lv_at hl 1 rfl) ?_
    refine lv_aload_n hx hb dX5_end_5 rfl (lv_at hl 0 rfl) ?_
    refine va_get (D := D) (ci := 5) (v := .int (nI l9)) (C := RX5) (T := TX5) (N := 18) hx hb hts (by decide +kernel) hown hK hP 0 rfl rfl 1 (by decide) (hts (.fieldLink RX5 42 "BodyTextModel" "fed" "I") (by decide +kernel)) (fun _ h9 => h9) rfl dX5_end_6 ?_
    refine lv_icmp_le (tgt := 14) hx hb dX5_end_9 (by decide) (fun c_9 => ?_) (fun c_9 => ?_)
    · exact absurd (hno.resolve_left c_1) (Classical.not_not.mpr c_9)
    · refine lv_iconst (v := nI 0) hx hb dX5_end_12 (by decide) ?_
      exact W.zret (v := nI 0) hx hb hr (by decide) (fun t9 ht hW => ⟨nI 0, rfl, rfl, ht⟩) (fun _ h => by cases h) dX5_end_13
