set_option maxHeartbeats 4000000 in
set_option maxRecDepth 100000 in
/-- faultAt -/
theorem kX5_faultAt (l : Launch) (D : va_G) (cB cI : ClassId) (mo : Nat) (Z : Nat → Nat) (v : Nat → Int32) (T : Nat) : Met l yX5_faultAt wsX5_faultAt ({ frames := 0, cells := 0, slots := 0, locals := 0 }) (va_Pc [.ref mo] (bt_R D cB cI [(mo, .inr (5, [.ref (Z 0), .int (v 0), .int (v 1), .ref (Z 1), .int (v 2), .ref (Z 2), .ref (Z 3), .int (nI T), .int (v 3), .int (v 4), .ref (Z 4), .ref (Z 5), .ref (Z 6), .ref (Z 7), .ref (Z 8), .int (v 5), .int (v 6), .int (v 7)]))])) (vp_Si (fun r => r = v 4)) 0 0 (fun _ => False) := by
  refine Met.ofW (cc := cX5_faultAt) (maxL := 1) (ret := (some .int)) (by decide) rfl ?_
  intro p e s m args below meth c s₁ B hml hv
  obtain ⟨rfl, hP, hK, hN⟩ := hv
  have hx := B.exec
  have hb := B.bytes
  have hr := B.returns
  have hts := atoms_spec (ws := wsX5_faultAt) B.pre
  have hown : s.vm.findClass RX5 = some m.cls := findClass_of_methodNamed B.named
  have hlocks := B.notSynchronized
  have hl := lv_entry ([.ref mo]) (n := 1) (Nat.le_of_ble_eq_true rfl)
  rw [lg_entry_eq]
  generalize (lg_sl ([.ref mo]) ++ List.replicate (1 - (lg_sl ([.ref mo])).length) Slot.unset).toArray = ls at hl ⊢
  have hl : lv_has ls 1 [(0, .ref mo)] := hl
  refine lv_aload_n hx hb dX5_faultAt_0 rfl (lv_at hl 0 rfl) ?_
  refine va_get (D := D) (ci := 5) (v := .int (v 4)) (C := RX5) (T := TX5) (N := 18) hx hb hts (by decide +kernel) hown hK hP 0 rfl rfl 9 (by decide) (hts (.fieldLink RX5 23 "BodyTextModel" "faultAt" "I") (by decide +kernel)) (fun _ h9 => h9) rfl dX5_faultAt_1 ?_
  exact W.iret (v := (v 4)) hx hb hr (fun t9 ht hW => ⟨(v 4), rfl, rfl, ht⟩) (fun _ h => by cases h) dX5_faultAt_4
set_option maxHeartbeats 4000000 in
set_option maxRecDepth 100000 in
/-- X5_classAt -/
theorem kX5_classAt (l : Launch) (D : va_G) (cB cI : ClassId) (mo : Nat) (Z : Nat → Nat) (v : Nat → Int32) (T : Nat) (f : Nat → Int32) (k : Nat) (i : Int32) (hk : k ≤ 16000) : Met l yX5_classAt wsX5_classAt ({ frames := 0, cells := 0, slots := 0, locals := 0 }) (va_Pc [.ref mo, .int i] (bt_R D cB cI [(mo, .inr (5, [.ref (Z 0), .int (v 0), .int (v 1), .ref (Z 1), .int (v 2), .ref (Z 2), .ref (Z 3), .int (nI T), .int (v 3), .int (v 4), .ref (Z 4), .ref (Z 5), .ref (Z 6), .ref (Z 7), .ref (Z 8), .int (nI k), .int (v 6), .int (v 7)])), ((Z 4), .inl (cI, 16000, .inl f))])) (vp_Si (fun r => r = rw_get f k i)) 0 0 (fun _ => False) := by
  refine Met.ofW (cc := cX5_classAt) (maxL := 2) (ret := (some .int)) (by decide) rfl ?_
  intro p e s m args below meth c s₁ B hml hv
  obtain ⟨rfl, hP, hK, hN⟩ := hv
  have hx := B.exec
  have hb := B.bytes
  have hr := B.returns
  have hts := atoms_spec (ws := wsX5_classAt) B.pre
  have hown : s.vm.findClass RX5 = some m.cls := findClass_of_methodNamed B.named
  have hlocks := B.notSynchronized
  have hl := lv_entry ([.ref mo, .int i]) (n := 2) (Nat.le_of_ble_eq_true rfl)
  rw [lg_entry_eq]
  generalize (lg_sl ([.ref mo, .int i]) ++ List.replicate (2 - (lg_sl ([.ref mo, .int i])).length) Slot.unset).toArray = ls at hl ⊢
  have hl : lv_has ls 2 [(0, .ref mo), (1, .int i)] := hl
  refine lv_iload_n hx hb dX5_classAt_0 rfl (lv_at hl 1 rfl) ?_
  refine lv_if_lt (tgt := 12) hx hb dX5_classAt_1 (by decide) (fun c_1 => ?_) (fun c_1 => ?_)
  · refine lv_iconst (v := -1) hx hb dX5_classAt_12 (by decide) ?_
    refine lv_goto (tgt := 22) hx hb dX5_classAt_13 (by decide) ?_
    exact W.iret (v := (-1)) hx hb hr (fun t9 ht hW => ⟨(-1), rfl, (rw_get_lo c_1).symm, ht⟩) (fun _ h => by cases h) dX5_classAt_22
  · refine lv_iload_n hx hb dX5_classAt_4 rfl (lv_at hl 1 rfl) ?_
    refine lv_aload_n hx hb dX5_classAt_5 rfl (lv_at hl 0 rfl) ?_
    refine va_get (D := D) (ci := 5) (v := .int (nI k)) (C := RX5) (T := TX5) (N := 18) hx hb hts (by decide +kernel) hown hK hP 0 rfl rfl 15 (by decide) (hts (.fieldLink RX5 109 "BodyTextModel" "classes" "I") (by decide +kernel)) (fun _ h9 => h9) rfl dX5_classAt_6 ?_
    refine lv_icmp_lt (tgt := 16) hx hb dX5_classAt_9 (by decide) (fun c_9 => ?_) (fun c_9 => ?_)
    · obtain ⟨j, hj, rfl⟩ := bt_ix c_1 (fun q => absurd c_9 (Int32.not_lt.mpr q)) (by omega)
      refine lv_aload_n hx hb dX5_classAt_16 rfl (lv_at hl 0 rfl) ?_
      refine va_get (D := D) (ci := 5) (v := .ref (Z 4)) (C := RX5) (T := TX5) (N := 18) hx hb hts (by decide +kernel) hown hK hP 0 rfl rfl 10 (by decide) (hts (.fieldLink RX5 27 "BodyTextModel" "classAt" "[I") (by decide +kernel)) (fun _ h9 => h9) rfl dX5_classAt_17 ?_
      refine lv_iload_n hx hb dX5_classAt_20 rfl (lv_at hl 1 rfl) ?_
      refine va_iald hx hb hK hP 1 1 rfl rfl (vp_in_nI (by omega) (by omega)) dX5_classAt_21 ?_
      rw [nI_clamp (by omega)]
      exact W.iret (v := (f j)) hx hb hr (fun t9 ht hW => ⟨(f j), rfl, (rw_get_in (by omega) hj).symm, ht⟩) (fun _ h => by cases h) dX5_classAt_22
    · refine lv_iconst (v := -1) hx hb dX5_classAt_12 (by decide) ?_
      refine lv_goto (tgt := 22) hx hb dX5_classAt_13 (by decide) ?_
      exact W.iret (v := (-1)) hx hb hr (fun t9 ht hW => ⟨(-1), rfl, (rw_get_hi (by omega) (Int32.not_lt.mp c_9)).symm, ht⟩) (fun _ h => by cases h) dX5_classAt_22
set_option maxHeartbeats 4000000 in
set_option maxRecDepth 100000 in
/-- X5_memberAt -/
theorem kX5_memberAt (l : Launch) (D : va_G) (cB cI : ClassId) (mo : Nat) (Z : Nat → Nat) (v : Nat → Int32) (T : Nat) (f : Nat → Int32) (k : Nat) (i : Int32) (hk : k ≤ 16000) : Met l yX5_memberAt wsX5_memberAt ({ frames := 0, cells := 0, slots := 0, locals := 0 }) (va_Pc [.ref mo, .int i] (bt_R D cB cI [(mo, .inr (5, [.ref (Z 0), .int (v 0), .int (v 1), .ref (Z 1), .int (v 2), .ref (Z 2), .ref (Z 3), .int (nI T), .int (v 3), .int (v 4), .ref (Z 4), .ref (Z 5), .ref (Z 6), .ref (Z 7), .ref (Z 8), .int (v 5), .int (nI k), .int (v 7)])), ((Z 5), .inl (cI, 16000, .inl f))])) (vp_Si (fun r => r = rw_get f k i)) 0 0 (fun _ => False) := by
  refine Met.ofW (cc := cX5_memberAt) (maxL := 2) (ret := (some .int)) (by decide) rfl ?_
  intro p e s m args below meth c s₁ B hml hv
  obtain ⟨rfl, hP, hK, hN⟩ := hv
  have hx := B.exec
  have hb := B.bytes
  have hr := B.returns
  have hts := atoms_spec (ws := wsX5_memberAt) B.pre
  have hown : s.vm.findClass RX5 = some m.cls := findClass_of_methodNamed B.named
  have hlocks := B.notSynchronized
  have hl := lv_entry ([.ref mo, .int i]) (n := 2) (Nat.le_of_ble_eq_true rfl)
  rw [lg_entry_eq]
  generalize (lg_sl ([.ref mo, .int i]) ++ List.replicate (2 - (lg_sl ([.ref mo, .int i])).length) Slot.unset).toArray = ls at hl ⊢
  have hl : lv_has ls 2 [(0, .ref mo), (1, .int i)] := hl
  refine lv_iload_n hx hb dX5_memberAt_0 rfl (lv_at hl 1 rfl) ?_
  refine lv_if_lt (tgt := 12) hx hb dX5_memberAt_1 (by decide) (fun c_1 => ?_) (fun c_1 => ?_)
  · refine lv_iconst (v := -1) hx hb dX5_memberAt_12 (by decide) ?_
    refine lv_goto (tgt := 22) hx hb dX5_memberAt_13 (by decide) ?_
    exact W.iret (v := (-1)) hx hb hr (fun t9 ht hW => ⟨(-1), rfl, (rw_get_lo c_1).symm, ht⟩) (fun _ h => by cases h) dX5_memberAt_22
  · refine lv_iload_n hx hb dX5_memberAt_4 rfl (lv_at hl 1 rfl) ?_
    refine lv_aload_n hx hb dX5_memberAt_5 rfl (lv_at hl 0 rfl) ?_
    refine va_get (D := D) (ci := 5) (v := .int (nI k)) (C := RX5) (T := TX5) (N := 18) hx hb hts (by decide +kernel) hown hK hP 0 rfl rfl 16 (by decide) (hts (.fieldLink RX5 131 "BodyTextModel" "members" "I") (by decide +kernel)) (fun _ h9 => h9) rfl dX5_memberAt_6 ?_
    refine lv_icmp_lt (tgt := 16) hx hb dX5_memberAt_9 (by decide) (fun c_9 => ?_) (fun c_9 => ?_)
    · obtain ⟨j, hj, rfl⟩ := bt_ix c_1 (fun q => absurd c_9 (Int32.not_lt.mpr q)) (by omega)
      refine lv_aload_n hx hb dX5_memberAt_16 rfl (lv_at hl 0 rfl) ?_
      refine va_get (D := D) (ci := 5) (v := .ref (Z 5)) (C := RX5) (T := TX5) (N := 18) hx hb hts (by decide +kernel) hown hK hP 0 rfl rfl 11 (by decide) (hts (.fieldLink RX5 30 "BodyTextModel" "memberAt" "[I") (by decide +kernel)) (fun _ h9 => h9) rfl dX5_memberAt_17 ?_
      refine lv_iload_n hx hb dX5_memberAt_20 rfl (lv_at hl 1 rfl) ?_
      refine va_iald hx hb hK hP 1 1 rfl rfl (vp_in_nI (by omega) (by omega)) dX5_memberAt_21 ?_
      rw [nI_clamp (by omega)]
      exact W.iret (v := (f j)) hx hb hr (fun t9 ht hW => ⟨(f j), rfl, (rw_get_in (by omega) hj).symm, ht⟩) (fun _ h => by cases h) dX5_memberAt_22
    · refine lv_iconst (v := -1) hx hb dX5_memberAt_12 (by decide) ?_
      refine lv_goto (tgt := 22) hx hb dX5_memberAt_13 (by decide) ?_
      exact W.iret (v := (-1)) hx hb hr (fun t9 ht hW => ⟨(-1), rfl, (rw_get_hi (by omega) (Int32.not_lt.mp c_9)).symm, ht⟩) (fun _ h => by cases h) dX5_memberAt_22
set_option maxHeartbeats 4000000 in
set_option maxRecDepth 100000 in
/-- X5_member -/
theorem kX5_member (l : Launch) (D : va_G) (cB cI : ClassId) (mo : Nat) (Z : Nat → Nat) (v : Nat → Int32) (T : Nat) (f : Nat → Int32) (k : Nat) (i : Int32) (hk : k ≤ 16000) : Met l yX5_member wsX5_member ({ frames := 0, cells := 0, slots := 0, locals := 0 }) (va_Pc [.ref mo, .int i] (bt_R D cB cI [(mo, .inr (5, [.ref (Z 0), .int (v 0), .int (v 1), .ref (Z 1), .int (v 2), .ref (Z 2), .ref (Z 3), .int (nI T), .int (v 3), .int (v 4), .ref (Z 4), .ref (Z 5), .ref (Z 6), .ref (Z 7), .ref (Z 8), .int (v 5), .int (nI k), .int (v 7)])), ((Z 6), .inl (cB, 16000, .inl f))])) (vp_Si (fun r => r = rw_get f k i)) 0 0 (fun _ => False) := by
  refine Met.ofW (cc := cX5_member) (maxL := 2) (ret := (some .int)) (by decide) rfl ?_
  intro p e s m args below meth c s₁ B hml hv
  obtain ⟨rfl, hP, hK, hN⟩ := hv
  have hx := B.exec
  have hb := B.bytes
  have hr := B.returns
  have hts := atoms_spec (ws := wsX5_member) B.pre
  have hown : s.vm.findClass RX5 = some m.cls := findClass_of_methodNamed B.named
  have hlocks := B.notSynchronized
  have hl := lv_entry ([.ref mo, .int i]) (n := 2) (Nat.le_of_ble_eq_true rfl)
  rw [lg_entry_eq]
  generalize (lg_sl ([.ref mo, .int i]) ++ List.replicate (2 - (lg_sl ([.ref mo, .int i])).length) Slot.unset).toArray = ls at hl ⊢
  have hl : lv_has ls 2 [(0, .ref mo), (1, .int i)] := hl
  refine lv_iload_n hx hb dX5_member_0 rfl (lv_at hl 1 rfl) ?_
  refine lv_if_lt (tgt := 12) hx hb dX5_member_1 (by decide) (fun c_1 => ?_) (fun c_1 => ?_)
  · refine lv_iconst (v := -1) hx hb dX5_member_12 (by decide) ?_
    refine lv_goto (tgt := 22) hx hb dX5_member_13 (by decide) ?_
    exact W.iret (v := (-1)) hx hb hr (fun t9 ht hW => ⟨(-1), rfl, (rw_get_lo c_1).symm, ht⟩) (fun _ h => by cases h) dX5_member_22
  · refine lv_iload_n hx hb dX5_member_4 rfl (lv_at hl 1 rfl) ?_
    refine lv_aload_n hx hb dX5_member_5 rfl (lv_at hl 0 rfl) ?_
    refine va_get (D := D) (ci := 5) (v := .int (nI k)) (C := RX5) (T := TX5) (N := 18) hx hb hts (by decide +kernel) hown hK hP 0 rfl rfl 16 (by decide) (hts (.fieldLink RX5 131 "BodyTextModel" "members" "I") (by decide +kernel)) (fun _ h9 => h9) rfl dX5_member_6 ?_
    refine lv_icmp_lt (tgt := 16) hx hb dX5_member_9 (by decide) (fun c_9 => ?_) (fun c_9 => ?_)
    · obtain ⟨j, hj, rfl⟩ := bt_ix c_1 (fun q => absurd c_9 (Int32.not_lt.mpr q)) (by omega)
      refine lv_aload_n hx hb dX5_member_16 rfl (lv_at hl 0 rfl) ?_
      refine va_get (D := D) (ci := 5) (v := .ref (Z 6)) (C := RX5) (T := TX5) (N := 18) hx hb hts (by decide +kernel) hown hK hP 0 rfl rfl 12 (by decide) (hts (.fieldLink RX5 33 "BodyTextModel" "memberKind" "[B") (by decide +kernel)) (fun _ h9 => h9) rfl dX5_member_17 ?_
      refine lv_iload_n hx hb dX5_member_20 rfl (lv_at hl 1 rfl) ?_
      refine va_bald hx hb hK hP 1 0 rfl rfl (vp_in_nI (by omega) (by omega)) dX5_member_21 ?_
      rw [nI_clamp (by omega)]
      exact W.iret (v := (f j)) hx hb hr (fun t9 ht hW => ⟨(f j), rfl, (rw_get_in (by omega) hj).symm, ht⟩) (fun _ h => by cases h) dX5_member_22
    · refine lv_iconst (v := -1) hx hb dX5_member_12 (by decide) ?_
      refine lv_goto (tgt := 22) hx hb dX5_member_13 (by decide) ?_
      exact W.iret (v := (-1)) hx hb hr (fun t9 ht hW => ⟨(-1), rfl, (rw_get_hi (by omega) (Int32.not_lt.mp c_9)).symm, ht⟩) (fun _ h => by cases h) dX5_member_22
set_option maxHeartbeats 4000000 in
set_option maxRecDepth 100000 in
/-- X5_lineAt -/
theorem kX5_lineAt (l : Launch) (D : va_G) (cB cI : ClassId) (mo : Nat) (Z : Nat → Nat) (v : Nat → Int32) (T : Nat) (f : Nat → Int32) (k : Nat) (i : Int32) (hk : k ≤ 16000) : Met l yX5_lineAt wsX5_lineAt ({ frames := 0, cells := 0, slots := 0, locals := 0 }) (va_Pc [.ref mo, .int i] (bt_R D cB cI [(mo, .inr (5, [.ref (Z 0), .int (v 0), .int (v 1), .ref (Z 1), .int (v 2), .ref (Z 2), .ref (Z 3), .int (nI T), .int (v 3), .int (v 4), .ref (Z 4), .ref (Z 5), .ref (Z 6), .ref (Z 7), .ref (Z 8), .int (v 5), .int (v 6), .int (nI k)])), ((Z 7), .inl (cI, 16000, .inl f))])) (vp_Si (fun r => r = rw_get f k i)) 0 0 (fun _ => False) := by
  refine Met.ofW (cc := cX5_lineAt) (maxL := 2) (ret := (some .int)) (by decide) rfl ?_
  intro p e s m args below meth c s₁ B hml hv
  obtain ⟨rfl, hP, hK, hN⟩ := hv
  have hx := B.exec
  have hb := B.bytes
  have hr := B.returns
  have hts := atoms_spec (ws := wsX5_lineAt) B.pre
  have hown : s.vm.findClass RX5 = some m.cls := findClass_of_methodNamed B.named
  have hlocks := B.notSynchronized
  have hl := lv_entry ([.ref mo, .int i]) (n := 2) (Nat.le_of_ble_eq_true rfl)
  rw [lg_entry_eq]
  generalize (lg_sl ([.ref mo, .int i]) ++ List.replicate (2 - (lg_sl ([.ref mo, .int i])).length) Slot.unset).toArray = ls at hl ⊢
  have hl : lv_has ls 2 [(0, .ref mo), (1, .int i)] := hl
  refine lv_iload_n hx hb dX5_lineAt_0 rfl (lv_at hl 1 rfl) ?_
  refine lv_if_lt (tgt := 12) hx hb dX5_lineAt_1 (by decide) (fun c_1 => ?_) (fun c_1 => ?_)
  · refine lv_iconst (v := -1) hx hb dX5_lineAt_12 (by decide) ?_
    refine lv_goto (tgt := 22) hx hb dX5_lineAt_13 (by decide) ?_
    exact W.iret (v := (-1)) hx hb hr (fun t9 ht hW => ⟨(-1), rfl, (rw_get_lo c_1).symm, ht⟩) (fun _ h => by cases h) dX5_lineAt_22
  · refine lv_iload_n hx hb dX5_lineAt_4 rfl (lv_at hl 1 rfl) ?_
    refine lv_aload_n hx hb dX5_lineAt_5 rfl (lv_at hl 0 rfl) ?_
    refine va_get (D := D) (ci := 5) (v := .int (nI k)) (C := RX5) (T := TX5) (N := 18) hx hb hts (by decide +kernel) hown hK hP 0 rfl rfl 17 (by decide) (hts (.fieldLink RX5 149 "BodyTextModel" "lines" "I") (by decide +kernel)) (fun _ h9 => h9) rfl dX5_lineAt_6 ?_
    refine lv_icmp_lt (tgt := 16) hx hb dX5_lineAt_9 (by decide) (fun c_9 => ?_) (fun c_9 => ?_)
    · obtain ⟨j, hj, rfl⟩ := bt_ix c_1 (fun q => absurd c_9 (Int32.not_lt.mpr q)) (by omega)
      refine lv_aload_n hx hb dX5_lineAt_16 rfl (lv_at hl 0 rfl) ?_
      refine va_get (D := D) (ci := 5) (v := .ref (Z 7)) (C := RX5) (T := TX5) (N := 18) hx hb hts (by decide +kernel) hown hK hP 0 rfl rfl 13 (by decide) (hts (.fieldLink RX5 36 "BodyTextModel" "lineAt" "[I") (by decide +kernel)) (fun _ h9 => h9) rfl dX5_lineAt_17 ?_
      refine lv_iload_n hx hb dX5_lineAt_20 rfl (lv_at hl 1 rfl) ?_
      refine va_iald hx hb hK hP 1 1 rfl rfl (vp_in_nI (by omega) (by omega)) dX5_lineAt_21 ?_
      rw [nI_clamp (by omega)]
      exact W.iret (v := (f j)) hx hb hr (fun t9 ht hW => ⟨(f j), rfl, (rw_get_in (by omega) hj).symm, ht⟩) (fun _ h => by cases h) dX5_lineAt_22
    · refine lv_iconst (v := -1) hx hb dX5_lineAt_12 (by decide) ?_
      refine lv_goto (tgt := 22) hx hb dX5_lineAt_13 (by decide) ?_
      exact W.iret (v := (-1)) hx hb hr (fun t9 ht hW => ⟨(-1), rfl, (rw_get_hi (by omega) (Int32.not_lt.mp c_9)).symm, ht⟩) (fun _ h => by cases h) dX5_lineAt_22
set_option maxHeartbeats 4000000 in
set_option maxRecDepth 100000 in
/-- token -/
theorem kX5_token_e (l : Launch) (D : va_G) (cB cI : ClassId) (mo : Nat) (Z : Nat → Nat) (v : Nat → Int32) (T : Nat) (f : Nat → Int32) (i : Int32) (hk : T ≤ 16000) : Met l yX5_token wsX5_token ({ frames := 0, cells := 0, slots := 0, locals := 0 }) (va_Pc [.ref mo, .int i, .int (nI 1)] (bt_R D cB cI [(mo, .inr (5, [.ref (Z 0), .int (v 0), .int (v 1), .ref (Z 1), .int (v 2), .ref (Z 2), .ref (Z 3), .int (nI T), .int (v 3), .int (v 4), .ref (Z 4), .ref (Z 5), .ref (Z 6), .ref (Z 7), .ref (Z 8), .int (v 5), .int (v 6), .int (v 7)])), ((Z 3), .inl (cI, 16002, .inl f))])) (vp_Si (fun r => r = rw_get f T i)) 0 0 (fun _ => False) := by
  refine Met.ofW (cc := cX5_token) (maxL := 3) (ret := (some .int)) (by decide) rfl ?_
  intro p e s m args below meth c s₁ B hml hv
  obtain ⟨rfl, hP, hK, hN⟩ := hv
  have hx := B.exec
  have hb := B.bytes
  have hr := B.returns
  have hts := atoms_spec (ws := wsX5_token) B.pre
  have hown : s.vm.findClass RX5 = some m.cls := findClass_of_methodNamed B.named
  have hlocks := B.notSynchronized
  have hl := lv_entry ([.ref mo, .int i, .int (nI 1)]) (n := 3) (Nat.le_of_ble_eq_true rfl)
  rw [lg_entry_eq]
  generalize (lg_sl ([.ref mo, .int i, .int (nI 1)]) ++ List.replicate (3 - (lg_sl ([.ref mo, .int i, .int (nI 1)])).length) Slot.unset).toArray = ls at hl ⊢
  have hl : lv_has ls 3 [(0, .ref mo), (1, .int i), (2, .int (nI 1))] := hl
  refine lv_iload_n hx hb dX5_token_0 rfl (lv_at hl 1 rfl) ?_
  refine lv_if_lt (tgt := 12) hx hb dX5_token_1 (by decide) (fun c_1 => ?_) (fun c_1 => ?_)
  · refine lv_iconst (v := -1) hx hb dX5_token_12 (by decide) ?_
    refine lv_goto (tgt := 35) hx hb dX5_token_13 (by decide) ?_
    exact W.iret (v := (-1)) hx hb hr (fun t9 ht hW => ⟨(-1), rfl, (rw_get_lo c_1).symm, ht⟩) (fun _ h => by cases h) dX5_token_35
  · refine lv_iload_n hx hb dX5_token_4 rfl (lv_at hl 1 rfl) ?_
    refine lv_aload_n hx hb dX5_token_5 rfl (lv_at hl 0 rfl) ?_
    refine va_get (D := D) (ci := 5) (v := .int (nI T)) (C := RX5) (T := TX5) (N := 18) hx hb hts (by decide +kernel) hown hK hP 0 rfl rfl 7 (by decide) (hts (.fieldLink RX5 56 "BodyTextModel" "tokens" "I") (by decide +kernel)) (fun _ h9 => h9) rfl dX5_token_6 ?_
    refine lv_icmp_lt (tgt := 16) hx hb dX5_token_9 (by decide) (fun c_9 => ?_) (fun c_9 => ?_)
    · obtain ⟨j, hj, rfl⟩ := bt_ix c_1 (fun q => absurd c_9 (Int32.not_lt.mpr q)) (by omega)
      refine lv_iload_n hx hb dX5_token_16 rfl (lv_at hl 2 rfl) ?_
      refine lv_if_eq (tgt := 29) hx hb dX5_token_17 (by decide) (fun c_17 => ?_) (fun c_17 => ?_)
      · exact absurd c_17 (by decide)
      · clear c_17
        refine lv_aload_n hx hb dX5_token_20 rfl (lv_at hl 0 rfl) ?_
        refine va_get (D := D) (ci := 5) (v := .ref (Z 3)) (C := RX5) (T := TX5) (N := 18) hx hb hts (by decide +kernel) hown hK hP 0 rfl rfl 6 (by decide) (hts (.fieldLink RX5 20 "BodyTextModel" "tokenTo" "[I") (by decide +kernel)) (fun _ h9 => h9) rfl dX5_token_21 ?_
        refine lv_iload_n hx hb dX5_token_24 rfl (lv_at hl 1 rfl) ?_
        refine va_iald hx hb hK hP 1 1 rfl rfl (vp_in_nI (by omega) (by omega)) dX5_token_25 ?_
        rw [nI_clamp (by omega)]
        refine lv_goto (tgt := 35) hx hb dX5_token_26 (by decide) ?_
        exact W.iret (v := (f j)) hx hb hr (fun t9 ht hW => ⟨(f j), rfl, (rw_get_in (by omega) hj).symm, ht⟩) (fun _ h => by cases h) dX5_token_35
    · refine lv_iconst (v := -1) hx hb dX5_token_12 (by decide) ?_
      refine lv_goto (tgt := 35) hx hb dX5_token_13 (by decide) ?_
      exact W.iret (v := (-1)) hx hb hr (fun t9 ht hW => ⟨(-1), rfl, (rw_get_hi (by omega) (Int32.not_lt.mp c_9)).symm, ht⟩) (fun _ h => by cases h) dX5_token_35
set_option maxHeartbeats 4000000 in
set_option maxRecDepth 100000 in
/-- token -/
theorem kX5_token_b (l : Launch) (D : va_G) (cB cI : ClassId) (mo : Nat) (Z : Nat → Nat) (v : Nat → Int32) (T : Nat) (f : Nat → Int32) (i : Int32) (hk : T ≤ 16000) : Met l yX5_token wsX5_token ({ frames := 0, cells := 0, slots := 0, locals := 0 }) (va_Pc [.ref mo, .int i, .int (nI 0)] (bt_R D cB cI [(mo, .inr (5, [.ref (Z 0), .int (v 0), .int (v 1), .ref (Z 1), .int (v 2), .ref (Z 2), .ref (Z 3), .int (nI T), .int (v 3), .int (v 4), .ref (Z 4), .ref (Z 5), .ref (Z 6), .ref (Z 7), .ref (Z 8), .int (v 5), .int (v 6), .int (v 7)])), ((Z 2), .inl (cI, 16002, .inl f))])) (vp_Si (fun r => r = rw_get f T i)) 0 0 (fun _ => False) := by
  refine Met.ofW (cc := cX5_token) (maxL := 3) (ret := (some .int)) (by decide) rfl ?_
  intro p e s m args below meth c s₁ B hml hv
  obtain ⟨rfl, hP, hK, hN⟩ := hv
  have hx := B.exec
  have hb := B.bytes
  have hr := B.returns
  have hts := atoms_spec (ws := wsX5_token) B.pre
  have hown : s.vm.findClass RX5 = some m.cls := findClass_of_methodNamed B.named
  have hlocks := B.notSynchronized
  have hl := lv_entry ([.ref mo, .int i, .int (nI 0)]) (n := 3) (Nat.le_of_ble_eq_true rfl)
  rw [lg_entry_eq]
  generalize (lg_sl ([.ref mo, .int i, .int (nI 0)]) ++ List.replicate (3 - (lg_sl ([.ref mo, .int i, .int (nI 0)])).length) Slot.unset).toArray = ls at hl ⊢
  have hl : lv_has ls 3 [(0, .ref mo), (1, .int i), (2, .int (nI 0))] := hl
  refine lv_iload_n hx hb dX5_token_0 rfl (lv_at hl 1 rfl) ?_
  refine lv_if_lt (tgt := 12) hx hb dX5_token_1 (by decide) (fun c_1 => ?_) (fun c_1 => ?_)
  · refine lv_iconst (v := -1) hx hb dX5_token_12 (by decide) ?_
    refine lv_goto (tgt := 35) hx hb dX5_token_13 (by decide) ?_
    exact W.iret (v := (-1)) hx hb hr (fun t9 ht hW => ⟨(-1), rfl, (rw_get_lo c_1).symm, ht⟩) (fun _ h => by cases h) dX5_token_35
  · refine lv_iload_n hx hb dX5_token_4 rfl (lv_at hl 1 rfl) ?_
    refine lv_aload_n hx hb dX5_token_5 rfl (lv_at hl 0 rfl) ?_
    refine va_get (D := D) (ci := 5) (v := .int (nI T)) (C := RX5) (T := TX5) (N := 18) hx hb hts (by decide +kernel) hown hK hP 0 rfl rfl 7 (by decide) (hts (.fieldLink RX5 56 "BodyTextModel" "tokens" "I") (by decide +kernel)) (fun _ h9 => h9) rfl dX5_token_6 ?_
    refine lv_icmp_lt (tgt := 16) hx hb dX5_token_9 (by decide) (fun c_9 => ?_) (fun c_9 => ?_)
    · obtain ⟨j, hj, rfl⟩ := bt_ix c_1 (fun q => absurd c_9 (Int32.not_lt.mpr q)) (by omega)
      refine lv_iload_n hx hb dX5_token_16 rfl (lv_at hl 2 rfl) ?_
      refine lv_if_eq (tgt := 29) hx hb dX5_token_17 (by decide) (fun c_17 => ?_) (fun c_17 => ?_)
      · clear c_17
        refine lv_aload_n hx hb dX5_token_29 rfl (lv_at hl 0 rfl) ?_
        refine va_get (D := D) (ci := 5) (v := .ref (Z 2)) (C := RX5) (T := TX5) (N := 18) hx hb hts (by decide +kernel) hown hK hP 0 rfl rfl 5 (by decide) (hts (.fieldLink RX5 16 "BodyTextModel" "tokenFrom" "[I") (by decide +kernel)) (fun _ h9 => h9) rfl dX5_token_30 ?_
        refine lv_iload_n hx hb dX5_token_33 rfl (lv_at hl 1 rfl) ?_
        refine va_iald hx hb hK hP 1 1 rfl rfl (vp_in_nI (by omega) (by omega)) dX5_token_34 ?_
        rw [nI_clamp (by omega)]
        exact W.iret (v := (f j)) hx hb hr (fun t9 ht hW => ⟨(f j), rfl, (rw_get_in (by omega) hj).symm, ht⟩) (fun _ h => by cases h) dX5_token_35
      · exact absurd (by decide) c_17
    · refine lv_iconst (v := -1) hx hb dX5_token_12 (by decide) ?_
      refine lv_goto (tgt := 35) hx hb dX5_token_13 (by decide) ?_
      exact W.iret (v := (-1)) hx hb hr (fun t9 ht hW => ⟨(-1), rfl, (rw_get_hi (by omega) (Int32.not_lt.mp c_9)).symm, ht⟩) (fun _ h => by cases h) dX5_token_35
set_option maxHeartbeats 4000000 in
set_option maxRecDepth 100000 in
/-- size(0) -/
theorem kX5_size_0 (l : Launch) (D : va_G) (cB cI : ClassId) (mo : Nat) (Z : Nat → Nat) (v : Nat → Int32) (T : Nat) : Met l yX5_size wsX5_size ({ frames := 0, cells := 0, slots := 0, locals := 0 }) (va_Pc [.ref mo, .int (nI 0)] (bt_R D cB cI [(mo, .inr (5, [.ref (Z 0), .int (v 0), .int (v 1), .ref (Z 1), .int (v 2), .ref (Z 2), .ref (Z 3), .int (nI T), .int (v 3), .int (v 4), .ref (Z 4), .ref (Z 5), .ref (Z 6), .ref (Z 7), .ref (Z 8), .int (v 5), .int (v 6), .int (v 7)]))])) (vp_Si (fun r => r = nI T)) 0 0 (fun _ => False) := by
  refine Met.ofW (cc := cX5_size) (maxL := 2) (ret := (some .int)) (by decide) rfl ?_
  intro p e s m args below meth c s₁ B hml hv
  obtain ⟨rfl, hP, hK, hN⟩ := hv
  have hx := B.exec
  have hb := B.bytes
  have hr := B.returns
  have hts := atoms_spec (ws := wsX5_size) B.pre
  have hown : s.vm.findClass RX5 = some m.cls := findClass_of_methodNamed B.named
  have hlocks := B.notSynchronized
  have hl := lv_entry ([.ref mo, .int (nI 0)]) (n := 2) (Nat.le_of_ble_eq_true rfl)
  rw [lg_entry_eq]
  generalize (lg_sl ([.ref mo, .int (nI 0)]) ++ List.replicate (2 - (lg_sl ([.ref mo, .int (nI 0)])).length) Slot.unset).toArray = ls at hl ⊢
  have hl : lv_has ls 2 [(0, .ref mo), (1, .int (nI 0))] := hl
  refine lv_iload_n hx hb dX5_size_0 rfl (lv_at hl 1 rfl) ?_
  refine lv_if_ne (tgt := 11) hx hb dX5_size_1 (by decide) (fun c_1 => ?_) (fun c_1 => ?_)
  · exact absurd (by decide) c_1
  · clear c_1
    refine lv_aload_n hx hb dX5_size_4 rfl (lv_at hl 0 rfl) ?_
    refine va_get (D := D) (ci := 5) (v := .int (nI T)) (C := RX5) (T := TX5) (N := 18) hx hb hts (by decide +kernel) hown hK hP 0 rfl rfl 7 (by decide) (hts (.fieldLink RX5 56 "BodyTextModel" "tokens" "I") (by decide +kernel)) (fun _ h9 => h9) rfl dX5_size_5 ?_
    refine lv_goto (tgt := 48) hx hb dX5_size_8 (by decide) ?_
    exact W.iret (v := nI T) hx hb hr (fun t9 ht hW => ⟨nI T, rfl, rfl, ht⟩) (fun _ h => by cases h) dX5_size_48
set_option maxHeartbeats 4000000 in
set_option maxRecDepth 100000 in
/-- size(1) -/
theorem kX5_size_1 (l : Launch) (D : va_G) (cB cI : ClassId) (mo : Nat) (Z : Nat → Nat) (v : Nat → Int32) (T : Nat) : Met l yX5_size wsX5_size ({ frames := 0, cells := 0, slots := 0, locals := 0 }) (va_Pc [.ref mo, .int (nI 1)] (bt_R D cB cI [(mo, .inr (5, [.ref (Z 0), .int (v 0), .int (v 1), .ref (Z 1), .int (v 2), .ref (Z 2), .ref (Z 3), .int (nI T), .int (v 3), .int (v 4), .ref (Z 4), .ref (Z 5), .ref (Z 6), .ref (Z 7), .ref (Z 8), .int (v 5), .int (v 6), .int (v 7)]))])) (vp_Si (fun r => r = v 5)) 0 0 (fun _ => False) := by
  refine Met.ofW (cc := cX5_size) (maxL := 2) (ret := (some .int)) (by decide) rfl ?_
  intro p e s m args below meth c s₁ B hml hv
  obtain ⟨rfl, hP, hK, hN⟩ := hv
  have hx := B.exec
  have hb := B.bytes
  have hr := B.returns
  have hts := atoms_spec (ws := wsX5_size) B.pre
  have hown : s.vm.findClass RX5 = some m.cls := findClass_of_methodNamed B.named
  have hlocks := B.notSynchronized
  have hl := lv_entry ([.ref mo, .int (nI 1)]) (n := 2) (Nat.le_of_ble_eq_true rfl)
  rw [lg_entry_eq]
  generalize (lg_sl ([.ref mo, .int (nI 1)]) ++ List.replicate (2 - (lg_sl ([.ref mo, .int (nI 1)])).length) Slot.unset).toArray = ls at hl ⊢
  have hl : lv_has ls 2 [(0, .ref mo), (1, .int (nI 1))] := hl
  refine lv_iload_n hx hb dX5_size_0 rfl (lv_at hl 1 rfl) ?_
  refine lv_if_ne (tgt := 11) hx hb dX5_size_1 (by decide) (fun c_1 => ?_) (fun c_1 => ?_)
  · clear c_1
    refine lv_iload_n hx hb dX5_size_11 rfl (lv_at hl 1 rfl) ?_
    refine lv_iconst (v := nI 1) hx hb dX5_size_12 (by decide) ?_
    refine lv_icmp_ne (tgt := 23) hx hb dX5_size_13 (by decide) (fun c_13 => ?_) (fun c_13 => ?_)
    · exact absurd (by decide) c_13
    · clear c_13
      refine lv_aload_n hx hb dX5_size_16 rfl (lv_at hl 0 rfl) ?_
      refine va_get (D := D) (ci := 5) (v := .int (v 5)) (C := RX5) (T := TX5) (N := 18) hx hb hts (by decide +kernel) hown hK hP 0 rfl rfl 15 (by decide) (hts (.fieldLink RX5 109 "BodyTextModel" "classes" "I") (by decide +kernel)) (fun _ h9 => h9) rfl dX5_size_17 ?_
      refine lv_goto (tgt := 48) hx hb dX5_size_20 (by decide) ?_
      exact W.iret (v := (v 5)) hx hb hr (fun t9 ht hW => ⟨(v 5), rfl, rfl, ht⟩) (fun _ h => by cases h) dX5_size_48
  · exact absurd c_1 (by decide)
set_option maxHeartbeats 4000000 in
set_option maxRecDepth 100000 in
/-- size(2) -/
theorem kX5_size_2 (l : Launch) (D : va_G) (cB cI : ClassId) (mo : Nat) (Z : Nat → Nat) (v : Nat → Int32) (T : Nat) : Met l yX5_size wsX5_size ({ frames := 0, cells := 0, slots := 0, locals := 0 }) (va_Pc [.ref mo, .int (nI 2)] (bt_R D cB cI [(mo, .inr (5, [.ref (Z 0), .int (v 0), .int (v 1), .ref (Z 1), .int (v 2), .ref (Z 2), .ref (Z 3), .int (nI T), .int (v 3), .int (v 4), .ref (Z 4), .ref (Z 5), .ref (Z 6), .ref (Z 7), .ref (Z 8), .int (v 5), .int (v 6), .int (v 7)]))])) (vp_Si (fun r => r = v 6)) 0 0 (fun _ => False) := by
  refine Met.ofW (cc := cX5_size) (maxL := 2) (ret := (some .int)) (by decide) rfl ?_
  intro p e s m args below meth c s₁ B hml hv
  obtain ⟨rfl, hP, hK, hN⟩ := hv
  have hx := B.exec
  have hb := B.bytes
  have hr := B.returns
  have hts := atoms_spec (ws := wsX5_size) B.pre
  have hown : s.vm.findClass RX5 = some m.cls := findClass_of_methodNamed B.named
  have hlocks := B.notSynchronized
  have hl := lv_entry ([.ref mo, .int (nI 2)]) (n := 2) (Nat.le_of_ble_eq_true rfl)
  rw [lg_entry_eq]
  generalize (lg_sl ([.ref mo, .int (nI 2)]) ++ List.replicate (2 - (lg_sl ([.ref mo, .int (nI 2)])).length) Slot.unset).toArray = ls at hl ⊢
  have hl : lv_has ls 2 [(0, .ref mo), (1, .int (nI 2))] := hl
  refine lv_iload_n hx hb dX5_size_0 rfl (lv_at hl 1 rfl) ?_
  refine lv_if_ne (tgt := 11) hx hb dX5_size_1 (by decide) (fun c_1 => ?_) (fun c_1 => ?_)
  · clear c_1
    refine lv_iload_n hx hb dX5_size_11 rfl (lv_at hl 1 rfl) ?_
    refine lv_iconst (v := nI 1) hx hb dX5_size_12 (by decide) ?_
    refine lv_icmp_ne (tgt := 23) hx hb dX5_size_13 (by decide) (fun c_13 => ?_) (fun c_13 => ?_)
    · clear c_13
      refine lv_iload_n hx hb dX5_size_23 rfl (lv_at hl 1 rfl) ?_
      refine lv_iconst (v := nI 2) hx hb dX5_size_24 (by decide) ?_
      refine lv_icmp_ne (tgt := 35) hx hb dX5_size_25 (by decide) (fun c_25 => ?_) (fun c_25 => ?_)
      · exact absurd (by decide) c_25
      · clear c_25
        refine lv_aload_n hx hb dX5_size_28 rfl (lv_at hl 0 rfl) ?_
        refine va_get (D := D) (ci := 5) (v := .int (v 6)) (C := RX5) (T := TX5) (N := 18) hx hb hts (by decide +kernel) hown hK hP 0 rfl rfl 16 (by decide) (hts (.fieldLink RX5 131 "BodyTextModel" "members" "I") (by decide +kernel)) (fun _ h9 => h9) rfl dX5_size_29 ?_
        refine lv_goto (tgt := 48) hx hb dX5_size_32 (by decide) ?_
        exact W.iret (v := (v 6)) hx hb hr (fun t9 ht hW => ⟨(v 6), rfl, rfl, ht⟩) (fun _ h => by cases h) dX5_size_48
    · exact absurd c_13 (by decide)
  · exact absurd c_1 (by decide)
set_option maxHeartbeats 4000000 in
set_option maxRecDepth 100000 in
/-- size(3) -/
theorem kX5_size_3 (l : Launch) (D : va_G) (cB cI : ClassId) (mo : Nat) (Z : Nat → Nat) (v : Nat → Int32) (T : Nat) : Met l yX5_size wsX5_size ({ frames := 0, cells := 0, slots := 0, locals := 0 }) (va_Pc [.ref mo, .int (nI 3)] (bt_R D cB cI [(mo, .inr (5, [.ref (Z 0), .int (v 0), .int (v 1), .ref (Z 1), .int (v 2), .ref (Z 2), .ref (Z 3), .int (nI T), .int (v 3), .int (v 4), .ref (Z 4), .ref (Z 5), .ref (Z 6), .ref (Z 7), .ref (Z 8), .int (v 5), .int (v 6), .int (v 7)]))])) (vp_Si (fun r => r = v 7)) 0 0 (fun _ => False) := by
  refine Met.ofW (cc := cX5_size) (maxL := 2) (ret := (some .int)) (by decide) rfl ?_
  intro p e s m args below meth c s₁ B hml hv
  obtain ⟨rfl, hP, hK, hN⟩ := hv
  have hx := B.exec
  have hb := B.bytes
  have hr := B.returns
  have hts := atoms_spec (ws := wsX5_size) B.pre
  have hown : s.vm.findClass RX5 = some m.cls := findClass_of_methodNamed B.named
  have hlocks := B.notSynchronized
  have hl := lv_entry ([.ref mo, .int (nI 3)]) (n := 2) (Nat.le_of_ble_eq_true rfl)
  rw [lg_entry_eq]
  generalize (lg_sl ([.ref mo, .int (nI 3)]) ++ List.replicate (2 - (lg_sl ([.ref mo, .int (nI 3)])).length) Slot.unset).toArray = ls at hl ⊢
  have hl : lv_has ls 2 [(0, .ref mo), (1, .int (nI 3))] := hl
  refine lv_iload_n hx hb dX5_size_0 rfl (lv_at hl 1 rfl) ?_
  refine lv_if_ne (tgt := 11) hx hb dX5_size_1 (by decide) (fun c_1 => ?_) (fun c_1 => ?_)
  · clear c_1
    refine lv_iload_n hx hb dX5_size_11 rfl (lv_at hl 1 rfl) ?_
    refine lv_iconst (v := nI 1) hx hb dX5_size_12 (by decide) ?_
    refine lv_icmp_ne (tgt := 23) hx hb dX5_size_13 (by decide) (fun c_13 => ?_) (fun c_13 => ?_)
    · clear c_13
      refine lv_iload_n hx hb dX5_size_23 rfl (lv_at hl 1 rfl) ?_
      refine lv_iconst (v := nI 2) hx hb dX5_size_24 (by decide) ?_
      refine lv_icmp_ne (tgt := 35) hx hb dX5_size_25 (by decide) (fun c_25 => ?_) (fun c_25 => ?_)
      · clear c_25
        refine lv_iload_n hx hb dX5_size_35 rfl (lv_at hl 1 rfl) ?_
        refine lv_iconst (v := nI 3) hx hb dX5_size_36 (by decide) ?_
        refine lv_icmp_ne (tgt := 47) hx hb dX5_size_37 (by decide) (fun c_37 => ?_) (fun c_37 => ?_)
        · exact absurd (by decide) c_37
        · clear c_37
          refine lv_aload_n hx hb dX5_size_40 rfl (lv_at hl 0 rfl) ?_
          refine va_get (D := D) (ci := 5) (v := .int (v 7)) (C := RX5) (T := TX5) (N := 18) hx hb hts (by decide +kernel) hown hK hP 0 rfl rfl 17 (by decide) (hts (.fieldLink RX5 149 "BodyTextModel" "lines" "I") (by decide +kernel)) (fun _ h9 => h9) rfl dX5_size_41 ?_
          refine lv_goto (tgt := 48) hx hb dX5_size_44 (by decide) ?_
          exact W.iret (v := (v 7)) hx hb hr (fun t9 ht hW => ⟨(v 7), rfl, rfl, ht⟩) (fun _ h => by cases h) dX5_size_48
      · exact absurd c_25 (by decide)
    · exact absurd c_13 (by decide)
  · exact absurd c_1 (by decide)
set_option maxHeartbeats 4000000 in
set_option maxRecDepth 100000 in
/-- size of another number -/
theorem kX5_size_n (l : Launch) (D : va_G) (cB cI : ClassId) (mo : Nat) (Z : Nat → Nat) (v : Nat → Int32) (T : Nat) (x : Int32) (h0 : ¬ x = 0) (h1 : ¬ x = nI 1) (h2 : ¬ x = nI 2) (h3 : ¬ x = nI 3) : Met l yX5_size wsX5_size ({ frames := 0, cells := 0, slots := 0, locals := 0 }) (va_Pc [.ref mo, .int x] (bt_R D cB cI [(mo, .inr (5, [.ref (Z 0), .int (v 0), .int (v 1), .ref (Z 1), .int (v 2), .ref (Z 2), .ref (Z 3), .int (nI T), .int (v 3), .int (v 4), .ref (Z 4), .ref (Z 5), .ref (Z 6), .ref (Z 7), .ref (Z 8), .int (v 5), .int (v 6), .int (v 7)]))])) (vp_Si (fun r => r = -1)) 0 0 (fun _ => False) := by
  refine Met.ofW (cc := cX5_size) (maxL := 2) (ret := (some .int)) (by decide) rfl ?_
  intro p e s m args below meth c s₁ B hml hv
  obtain ⟨rfl, hP, hK, hN⟩ := hv
  have hx := B.exec
  have hb := B.bytes
  have hr := B.returns
  have hts := atoms_spec (ws := wsX5_size) B.pre
  have hown : s.vm.findClass RX5 = some m.cls := findClass_of_methodNamed B.named
  have hlocks := B.notSynchronized
  have hl := lv_entry ([.ref mo, .int x]) (n := 2) (Nat.le_of_ble_eq_true rfl)
  rw [lg_entry_eq]
  generalize (lg_sl ([.ref mo, .int x]) ++ List.replicate (2 - (lg_sl ([.ref mo, .int x])).length) Slot.unset).toArray = ls at hl ⊢
  have hl : lv_has ls 2 [(0, .ref mo), (1, .int x)] := hl
  refine lv_iload_n hx hb dX5_size_0 rfl (lv_at hl 1 rfl) ?_
  refine lv_if_ne (tgt := 11) hx hb dX5_size_1 (by decide) (fun c_1 => ?_) (fun c_1 => ?_)
  · refine lv_iload_n hx hb dX5_size_11 rfl (lv_at hl 1 rfl) ?_
    refine lv_iconst (v := nI 1) hx hb dX5_size_12 (by decide) ?_
    refine lv_icmp_ne (tgt := 23) hx hb dX5_size_13 (by decide) (fun c_13 => ?_) (fun c_13 => ?_)
    · refine lv_iload_n hx hb dX5_size_23 rfl (lv_at hl 1 rfl) ?_
      refine lv_iconst (v := nI 2) hx hb dX5_size_24 (by decide) ?_
      refine lv_icmp_ne (tgt := 35) hx hb dX5_size_25 (by decide) (fun c_25 => ?_) (fun c_25 => ?_)
      · refine lv_iload_n hx hb dX5_size_35 rfl (lv_at hl 1 rfl) ?_
        refine lv_iconst (v := nI 3) hx hb dX5_size_36 (by decide) ?_
        refine lv_icmp_ne (tgt := 47) hx hb dX5_size_37 (by decide) (fun c_37 => ?_) (fun c_37 => ?_)
        · refine lv_iconst (v := -1) hx hb dX5_size_47 (by decide) ?_
          exact W.iret (v := (-1)) hx hb hr (fun t9 ht hW => ⟨(-1), rfl, rfl, ht⟩) (fun _ h => by cases h) dX5_size_48
        · exact absurd c_37 h3
      · exact absurd c_25 h2
    · exact absurd c_13 h1
  · exact absurd c_1 h0
