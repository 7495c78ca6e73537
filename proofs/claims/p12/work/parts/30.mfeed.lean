/-- byte k of an int, from the lowest, as a byte row keeps it -/
def wB (x : Int32) (k : Nat) : Int32 := (x >>> (nI (8 * k) &&& 31)).toInt8.toInt32
theorem wB_n (x : Int32) (k : Nat) : vp_nar .byte (wB x k) = wB x k := pk_vb _
set_option maxHeartbeats 4000000 in
set_option maxRecDepth 100000 in
/-- word -/
theorem kX5_word (l : Launch) (D : va_G) (cB cI : ClassId) (mo : Nat) (Z : Nat → Nat) (v : Nat → Int32) (T l9 : Nat) (gb : Nat → Int32) (x : Int32) (hl9 : l9 + 4 ≤ 16000) (sz : Nat) : Met l yX5_word wsX5_word ({ frames := 0, cells := 0, slots := 0, locals := 0 }) (va_Pc [.ref mo, .int x] (bt_M D cB cI sz [(mo, .inr (5, [.ref (Z 0), .int (nI l9), .int (v 1), .ref (Z 1), .int (v 2), .ref (Z 2), .ref (Z 3), .int (nI T), .int (v 3), .int (v 4), .ref (Z 4), .ref (Z 5), .ref (Z 6), .ref (Z 7), .ref (Z 8), .int (v 5), .int (v 6), .int (v 7)])), ((Z 0), .inl (cB, 16000, .inl gb))])) (va_Qv (S := Nat → Int32) (fun u => (∀ j, j < l9 → u j = gb j) ∧ u l9 = wB x 3 ∧ u (l9 + 1) = wB x 2 ∧ u (l9 + 1 + 1) = wB x 1 ∧ u (l9 + 1 + 1 + 1) = wB x 0) (fun u t9 => bt_L D (va_A [(mo, .inr (5, [.ref (Z 0), .int (nI l9), .int (v 1), .ref (Z 1), .int (v 2), .ref (Z 2), .ref (Z 3), .int (nI T), .int (v 3), .int (v 4), .ref (Z 4), .ref (Z 5), .ref (Z 6), .ref (Z 7), .ref (Z 8), .int (v 5), .int (v 6), .int (v 7)])), ((Z 0), .inl (cB, 16000, .inl gb))] sz) ((fun u => [(mo, .inr (5, [.ref (Z 0), .int (nI (l9 + 4)), .int (v 1), .ref (Z 1), .int (v 2), .ref (Z 2), .ref (Z 3), .int (nI T), .int (v 3), .int (v 4), .ref (Z 4), .ref (Z 5), .ref (Z 6), .ref (Z 7), .ref (Z 8), .int (v 5), .int (v 6), .int (v 7)])), ((Z 0), .inl (cB, 16000, .inl u))]) u) t9) (va_A [(mo, .inr (5, [.ref (Z 0), .int (nI l9), .int (v 1), .ref (Z 1), .int (v 2), .ref (Z 2), .ref (Z 3), .int (nI T), .int (v 3), .int (v 4), .ref (Z 4), .ref (Z 5), .ref (Z 6), .ref (Z 7), .ref (Z 8), .int (v 5), .int (v 6), .int (v 7)])), ((Z 0), .inl (cB, 16000, .inl gb))] sz)) 0 0 (va_A [(mo, .inr (5, [.ref (Z 0), .int (nI l9), .int (v 1), .ref (Z 1), .int (v 2), .ref (Z 2), .ref (Z 3), .int (nI T), .int (v 3), .int (v 4), .ref (Z 4), .ref (Z 5), .ref (Z 6), .ref (Z 7), .ref (Z 8), .int (v 5), .int (v 6), .int (v 7)])), ((Z 0), .inl (cB, 16000, .inl gb))] sz) := by
  refine Met.ofW (cc := cX5_word) (maxL := 3) (ret := none) (by decide) rfl ?_
  intro p e s m args below meth c s₁ B hml hv
  obtain ⟨rfl, hsz, hP, hK, hN, hD0⟩ := hv
  have hx := B.exec
  have hb := B.bytes
  have hr := B.returns
  have hts := atoms_spec (ws := wsX5_word) B.pre
  have hown : s.vm.findClass RX5 = some m.cls := findClass_of_methodNamed B.named
  have hlocks := B.notSynchronized
  subst hsz
  have hD := hD0.self (sz := s.heap.size)
  generalize hAe : va_A [(mo, .inr (5, [.ref (Z 0), .int (nI l9), .int (v 1), .ref (Z 1), .int (v 2), .ref (Z 2), .ref (Z 3), .int (nI T), .int (v 3), .int (v 4), .ref (Z 4), .ref (Z 5), .ref (Z 6), .ref (Z 7), .ref (Z 8), .int (v 5), .int (v 6), .int (v 7)])), ((Z 0), .inl (cB, 16000, .inl gb))] s.heap.size = A at hD ⊢
  have hA : ∀ q : Nat, s.heap.size ≤ q → A q := fun q h => by rw [← hAe]; exact Or.inr h
  have hS : va_S A s.heap s.heap [] := va_S.rf
  have hl := lv_entry ([.ref mo, .int x]) (n := 3) (Nat.le_of_ble_eq_true rfl)
  rw [lg_entry_eq]
  generalize (lg_sl ([.ref mo, .int x]) ++ List.replicate (3 - (lg_sl ([.ref mo, .int x])).length) Slot.unset).toArray = ls at hl ⊢
  have hl : lv_has ls 3 [(0, .ref mo), (1, .int x)] := hl
  refine lv_iconst (v := nI 3) hx hb dX5_word_0 (by decide) ?_
  refine lv_istore_n (lv' := [(2, .int (nI 3)), (0, .ref mo), (1, .int x)]) hx hb dX5_word_1 rfl hl (by decide) rfl (fun ls hl => ?_)
  refine lv_iload_n hx hb dX5_word_2 rfl (lv_at hl 0 rfl) ?_
  refine lv_if_lt (tgt := 38) hx hb dX5_word_3 (by decide) (fun c_3 => ?_) (fun c_3 => ?_)
  · exact absurd c_3 (by decide)
  · clear c_3
    refine lv_aload_n hx hb dX5_word_6 rfl (lv_at hl 1 rfl) ?_
    refine va_get (D := D) (ci := 5) (v := .ref (Z 0)) (C := RX5) (T := TX5) (N := 18) hx hb hts (by decide +kernel) hown hK hP 0 rfl rfl 0 (by decide) (hts (.fieldLink RX5 9 "BodyTextModel" "bytes" "[B") (by decide +kernel)) (fun _ h9 => h9) rfl dX5_word_7 ?_
    refine lv_aload_n hx hb dX5_word_10 rfl (lv_at hl 1 rfl) ?_
    refine va_get (D := D) (ci := 5) (v := .int (nI l9)) (C := RX5) (T := TX5) (N := 18) hx hb hts (by decide +kernel) hown hK hP 0 rfl rfl 1 (by decide) (hts (.fieldLink RX5 42 "BodyTextModel" "fed" "I") (by decide +kernel)) (fun _ h9 => h9) rfl dX5_word_11 ?_
    refine lv_iload_n hx hb dX5_word_14 rfl (lv_at hl 2 rfl) ?_
    refine lv_bipush (v := nI 8) hx hb dX5_word_15 (by decide) ?_
    refine lv_iload_n hx hb dX5_word_17 rfl (lv_at hl 0 rfl) ?_
    refine lv_imul hx hb dX5_word_18 ?_
    refine bt_topi (y := nI (8 * 3)) (pk_mul _ _) ?_
    refine lv_ishr hx hb dX5_word_19 ?_
    refine lv_i2b hx hb dX5_word_20 rfl ?_
    refine va_bast hx hb hK hP hD hS 1 0 rfl rfl (vp_in_nI (by omega) (by omega)) dX5_word_21 (fun H locs hP hD hS => ?_)
    rw [nI_clamp (by omega)] at hP hD
    have hP : va_P D vwCl [(mo, .inr (5, [.ref (Z 0), .int (nI l9), .int (v 1), .ref (Z 1), .int (v 2), .ref (Z 2), .ref (Z 3), .int (nI T), .int (v 3), .int (v 4), .ref (Z 4), .ref (Z 5), .ref (Z 6), .ref (Z 7), .ref (Z 8), .int (v 5), .int (v 6), .int (v 7)])), ((Z 0), .inl (cB, 16000, .inl (upd gb l9 (vp_nar .byte (((x >>> (nI (8 * 3) &&& 31))).toInt8.toInt32)))))] H := hP
    have hD : va_D A [(mo, .inr (5, [.ref (Z 0), .int (nI l9), .int (v 1), .ref (Z 1), .int (v 2), .ref (Z 2), .ref (Z 3), .int (nI T), .int (v 3), .int (v 4), .ref (Z 4), .ref (Z 5), .ref (Z 6), .ref (Z 7), .ref (Z 8), .int (v 5), .int (v 6), .int (v 7)])), ((Z 0), .inl (cB, 16000, .inl (upd gb l9 (vp_nar .byte (((x >>> (nI (8 * 3) &&& 31))).toInt8.toInt32)))))] := hD
    refine lv_aload_n hx hb dX5_word_22 rfl (lv_at hl 1 rfl) ?_
    refine lv_dup hx hb dX5_word_23 rfl ?_
    refine va_get (D := D) (ci := 5) (v := .int (nI l9)) (C := RX5) (T := TX5) (N := 18) hx hb hts (by decide +kernel) hown hK hP 0 rfl rfl 1 (by decide) (hts (.fieldLink RX5 42 "BodyTextModel" "fed" "I") (by decide +kernel)) (fun _ h9 => h9) rfl dX5_word_24 ?_
    refine lv_iconst (v := nI 1) hx hb dX5_word_27 (by decide) ?_
    refine lv_iadd hx hb dX5_word_28 ?_
    refine bt_topi (y := nI (l9 + 1)) (nI_add _ _) ?_
    refine va_put (D := D) (ci := 5) (v := .int (nI (l9 + 1))) (ty := .int) (C := RX5) (T := TX5) (N := 18) hx hb hts (by decide +kernel) tyX5 tyX5_ok nmX5 hown hK hP hD hS 0 rfl rfl 1 (by decide) (hts (.fieldLink RX5 42 "BodyTextModel" "fed" "I") (by decide +kernel)) (fun _ h9 => h9) rfl (by decide +kernel) rfl rfl (Nat.le_of_ble_eq_true rfl) dX5_word_29 (fun H locs hP hD hS => ?_)
    have hP : va_P D vwCl [(mo, .inr (5, [.ref (Z 0), .int (nI (l9 + 1)), .int (v 1), .ref (Z 1), .int (v 2), .ref (Z 2), .ref (Z 3), .int (nI T), .int (v 3), .int (v 4), .ref (Z 4), .ref (Z 5), .ref (Z 6), .ref (Z 7), .ref (Z 8), .int (v 5), .int (v 6), .int (v 7)])), ((Z 0), .inl (cB, 16000, .inl (upd gb l9 (vp_nar .byte (((x >>> (nI (8 * 3) &&& 31))).toInt8.toInt32)))))] H := hP
    have hD : va_D A [(mo, .inr (5, [.ref (Z 0), .int (nI (l9 + 1)), .int (v 1), .ref (Z 1), .int (v 2), .ref (Z 2), .ref (Z 3), .int (nI T), .int (v 3), .int (v 4), .ref (Z 4), .ref (Z 5), .ref (Z 6), .ref (Z 7), .ref (Z 8), .int (v 5), .int (v 6), .int (v 7)])), ((Z 0), .inl (cB, 16000, .inl (upd gb l9 (vp_nar .byte (((x >>> (nI (8 * 3) &&& 31))).toInt8.toInt32)))))] := hD
    refine lv_iinc (v := nI 2) (lv' := [(2, .int (nI 2)), (0, .ref mo), (1, .int x)]) hx hb dX5_word_32 hl (k := 0) rfl (by decide) (by decide) rfl (fun ls hl => ?_)
    refine lv_goto (tgt := 2) hx hb dX5_word_35 (by decide) ?_
    refine lv_iload_n hx hb dX5_word_2 rfl (lv_at hl 0 rfl) ?_
    refine lv_if_lt (tgt := 38) hx hb dX5_word_3 (by decide) (fun c_3 => ?_) (fun c_3 => ?_)
    · exact absurd c_3 (by decide)
    · clear c_3
      refine lv_aload_n hx hb dX5_word_6 rfl (lv_at hl 1 rfl) ?_
      refine va_get (D := D) (ci := 5) (v := .ref (Z 0)) (C := RX5) (T := TX5) (N := 18) hx hb hts (by decide +kernel) hown hK hP 0 rfl rfl 0 (by decide) (hts (.fieldLink RX5 9 "BodyTextModel" "bytes" "[B") (by decide +kernel)) (fun _ h9 => h9) rfl dX5_word_7 ?_
      refine lv_aload_n hx hb dX5_word_10 rfl (lv_at hl 1 rfl) ?_
      refine va_get (D := D) (ci := 5) (v := .int (nI (l9 + 1))) (C := RX5) (T := TX5) (N := 18) hx hb hts (by decide +kernel) hown hK hP 0 rfl rfl 1 (by decide) (hts (.fieldLink RX5 42 "BodyTextModel" "fed" "I") (by decide +kernel)) (fun _ h9 => h9) rfl dX5_word_11 ?_
      refine lv_iload_n hx hb dX5_word_14 rfl (lv_at hl 2 rfl) ?_
      refine lv_bipush (v := nI 8) hx hb dX5_word_15 (by decide) ?_
      refine lv_iload_n hx hb dX5_word_17 rfl (lv_at hl 0 rfl) ?_
      refine lv_imul hx hb dX5_word_18 ?_
      refine bt_topi (y := nI (8 * 2)) (pk_mul _ _) ?_
      refine lv_ishr hx hb dX5_word_19 ?_
      refine lv_i2b hx hb dX5_word_20 rfl ?_
      refine va_bast hx hb hK hP hD hS 1 0 rfl rfl (vp_in_nI (by omega) (by omega)) dX5_word_21 (fun H locs hP hD hS => ?_)
      rw [nI_clamp (by omega)] at hP hD
      have hP : va_P D vwCl [(mo, .inr (5, [.ref (Z 0), .int (nI (l9 + 1)), .int (v 1), .ref (Z 1), .int (v 2), .ref (Z 2), .ref (Z 3), .int (nI T), .int (v 3), .int (v 4), .ref (Z 4), .ref (Z 5), .ref (Z 6), .ref (Z 7), .ref (Z 8), .int (v 5), .int (v 6), .int (v 7)])), ((Z 0), .inl (cB, 16000, .inl (upd (upd gb l9 (vp_nar .byte (((x >>> (nI (8 * 3) &&& 31))).toInt8.toInt32))) (l9 + 1) (vp_nar .byte (((x >>> (nI (8 * 2) &&& 31))).toInt8.toInt32)))))] H := hP
      have hD : va_D A [(mo, .inr (5, [.ref (Z 0), .int (nI (l9 + 1)), .int (v 1), .ref (Z 1), .int (v 2), .ref (Z 2), .ref (Z 3), .int (nI T), .int (v 3), .int (v 4), .ref (Z 4), .ref (Z 5), .ref (Z 6), .ref (Z 7), .ref (Z 8), .int (v 5), .int (v 6), .int (v 7)])), ((Z 0), .inl (cB, 16000, .inl (upd (upd gb l9 (vp_nar .byte (((x >>> (nI (8 * 3) &&& 31))).toInt8.toInt32))) (l9 + 1) (vp_nar .byte (((x >>> (nI (8 * 2) &&& 31))).toInt8.toInt32)))))] := hD
      refine lv_aload_n hx hb dX5_word_22 rfl (lv_at hl 1 rfl) ?_
      refine lv_dup hx hb dX5_word_23 rfl ?_
      refine va_get (D := D) (ci := 5) (v := .int (nI (l9 + 1))) (C := RX5) (T := TX5) (N := 18) hx hb hts (by decide +kernel) hown hK hP 0 rfl rfl 1 (by decide) (hts (.fieldLink RX5 42 "BodyTextModel" "fed" "I") (by decide +kernel)) (fun _ h9 => h9) rfl dX5_word_24 ?_
      refine lv_iconst (v := nI 1) hx hb dX5_word_27 (by decide) ?_
      refine lv_iadd hx hb dX5_word_28 ?_
      refine bt_topi (y := nI (l9 + 1 + 1)) (nI_add _ _) ?_
      refine va_put (D := D) (ci := 5) (v := .int (nI (l9 + 1 + 1))) (ty := .int) (C := RX5) (T := TX5) (N := 18) hx hb hts (by decide +kernel) tyX5 tyX5_ok nmX5 hown hK hP hD hS 0 rfl rfl 1 (by decide) (hts (.fieldLink RX5 42 "BodyTextModel" "fed" "I") (by decide +kernel)) (fun _ h9 => h9) rfl (by decide +kernel) rfl rfl (Nat.le_of_ble_eq_true rfl) dX5_word_29 (fun H locs hP hD hS => ?_)
      have hP : va_P D vwCl [(mo, .inr (5, [.ref (Z 0), .int (nI (l9 + 1 + 1)), .int (v 1), .ref (Z 1), .int (v 2), .ref (Z 2), .ref (Z 3), .int (nI T), .int (v 3), .int (v 4), .ref (Z 4), .ref (Z 5), .ref (Z 6), .ref (Z 7), .ref (Z 8), .int (v 5), .int (v 6), .int (v 7)])), ((Z 0), .inl (cB, 16000, .inl (upd (upd gb l9 (vp_nar .byte (((x >>> (nI (8 * 3) &&& 31))).toInt8.toInt32))) (l9 + 1) (vp_nar .byte (((x >>> (nI (8 * 2) &&& 31))).toInt8.toInt32)))))] H := hP
      have hD : va_D A [(mo, .inr (5, [.ref (Z 0), .int (nI (l9 + 1 + 1)), .int (v 1), .ref (Z 1), .int (v 2), .ref (Z 2), .ref (Z 3), .int (nI T), .int (v 3), .int (v 4), .ref (Z 4), .ref (Z 5), .ref (Z 6), .ref (Z 7), .ref (Z 8), .int (v 5), .int (v 6), .int (v 7)])), ((Z 0), .inl (cB, 16000, .inl (upd (upd gb l9 (vp_nar .byte (((x >>> (nI (8 * 3) &&& 31))).toInt8.toInt32))) (l9 + 1) (vp_nar .byte (((x >>> (nI (8 * 2) &&& 31))).toInt8.toInt32)))))] := hD
      refine lv_iinc (v := nI 1) (lv' := [(2, .int (nI 1)), (0, .ref mo), (1, .int x)]) hx hb dX5_word_32 hl (k := 0) rfl (by decide) (by decide) rfl (fun ls hl => ?_)
      refine lv_goto (tgt := 2) hx hb dX5_word_35 (by decide) ?_
      refine lv_iload_n hx hb dX5_word_2 rfl (lv_at hl 0 rfl) ?_
      refine lv_if_lt (tgt := 38) hx hb dX5_word_3 (by decide) (fun c_3 => ?_) (fun c_3 => ?_)
      · exact absurd c_3 (by decide)
      · clear c_3
        refine lv_aload_n hx hb dX5_word_6 rfl (lv_at hl 1 rfl) ?_
        refine va_get (D := D) (ci := 5) (v := .ref (Z 0)) (C := RX5) (T := TX5) (N := 18) hx hb hts (by decide +kernel) hown hK hP 0 rfl rfl 0 (by decide) (hts (.fieldLink RX5 9 "BodyTextModel" "bytes" "[B") (by decide +kernel)) (fun _ h9 => h9) rfl dX5_word_7 ?_
        refine lv_aload_n hx hb dX5_word_10 rfl (lv_at hl 1 rfl) ?_
        refine va_get (D := D) (ci := 5) (v := .int (nI (l9 + 1 + 1))) (C := RX5) (T := TX5) (N := 18) hx hb hts (by decide +kernel) hown hK hP 0 rfl rfl 1 (by decide) (hts (.fieldLink RX5 42 "BodyTextModel" "fed" "I") (by decide +kernel)) (fun _ h9 => h9) rfl dX5_word_11 ?_
        refine lv_iload_n hx hb dX5_word_14 rfl (lv_at hl 2 rfl) ?_
        refine lv_bipush (v := nI 8) hx hb dX5_word_15 (by decide) ?_
        refine lv_iload_n hx hb dX5_word_17 rfl (lv_at hl 0 rfl) ?_
        refine lv_imul hx hb dX5_word_18 ?_
        refine bt_topi (y := nI (8 * 1)) (pk_mul _ _) ?_
        refine lv_ishr hx hb dX5_word_19 ?_
        refine lv_i2b hx hb dX5_word_20 rfl ?_
        refine va_bast hx hb hK hP hD hS 1 0 rfl rfl (vp_in_nI (by omega) (by omega)) dX5_word_21 (fun H locs hP hD hS => ?_)
        rw [nI_clamp (by omega)] at hP hD
        have hP : va_P D vwCl [(mo, .inr (5, [.ref (Z 0), .int (nI (l9 + 1 + 1)), .int (v 1), .ref (Z 1), .int (v 2), .ref (Z 2), .ref (Z 3), .int (nI T), .int (v 3), .int (v 4), .ref (Z 4), .ref (Z 5), .ref (Z 6), .ref (Z 7), .ref (Z 8), .int (v 5), .int (v 6), .int (v 7)])), ((Z 0), .inl (cB, 16000, .inl (upd (upd (upd gb l9 (vp_nar .byte (((x >>> (nI (8 * 3) &&& 31))).toInt8.toInt32))) (l9 + 1) (vp_nar .byte (((x >>> (nI (8 * 2) &&& 31))).toInt8.toInt32))) (l9 + 1 + 1) (vp_nar .byte (((x >>> (nI (8 * 1) &&& 31))).toInt8.toInt32)))))] H := hP
        have hD : va_D A [(mo, .inr (5, [.ref (Z 0), .int (nI (l9 + 1 + 1)), .int (v 1), .ref (Z 1), .int (v 2), .ref (Z 2), .ref (Z 3), .int (nI T), .int (v 3), .int (v 4), .ref (Z 4), .ref (Z 5), .ref (Z 6), .ref (Z 7), .ref (Z 8), .int (v 5), .int (v 6), .int (v 7)])), ((Z 0), .inl (cB, 16000, .inl (upd (upd (upd gb l9 (vp_nar .byte (((x >>> (nI (8 * 3) &&& 31))).toInt8.toInt32))) (l9 + 1) (vp_nar .byte (((x >>> (nI (8 * 2) &&& 31))).toInt8.toInt32))) (l9 + 1 + 1) (vp_nar .byte (((x >>> (nI (8 * 1) &&& 31))).toInt8.toInt32)))))] := hD
        refine lv_aload_n hx hb dX5_word_22 rfl (lv_at hl 1 rfl) ?_
        refine lv_dup hx hb dX5_word_23 rfl ?_
        refine va_get (D := D) (ci := 5) (v := .int (nI (l9 + 1 + 1))) (C := RX5) (T := TX5) (N := 18) hx hb hts (by decide +kernel) hown hK hP 0 rfl rfl 1 (by decide) (hts (.fieldLink RX5 42 "BodyTextModel" "fed" "I") (by decide +kernel)) (fun _ h9 => h9) rfl dX5_word_24 ?_
        refine lv_iconst (v := nI 1) hx hb dX5_word_27 (by decide) ?_
        refine lv_iadd hx hb dX5_word_28 ?_
        refine bt_topi (y := nI (l9 + 1 + 1 + 1)) (nI_add _ _) ?_
        refine va_put (D := D) (ci := 5) (v := .int (nI (l9 + 1 + 1 + 1))) (ty := .int) (C := RX5) (T := TX5) (N := 18) hx hb hts (by decide +kernel) tyX5 tyX5_ok nmX5 hown hK hP hD hS 0 rfl rfl 1 (by decide) (hts (.fieldLink RX5 42 "BodyTextModel" "fed" "I") (by decide +kernel)) (fun _ h9 => h9) rfl (by decide +kernel) rfl rfl (Nat.le_of_ble_eq_true rfl) dX5_word_29 (fun H locs hP hD hS => ?_)
        have hP : va_P D vwCl [(mo, .inr (5, [.ref (Z 0), .int (nI (l9 + 1 + 1 + 1)), .int (v 1), .ref (Z 1), .int (v 2), .ref (Z 2), .ref (Z 3), .int (nI T), .int (v 3), .int (v 4), .ref (Z 4), .ref (Z 5), .ref (Z 6), .ref (Z 7), .ref (Z 8), .int (v 5), .int (v 6), .int (v 7)])), ((Z 0), .inl (cB, 16000, .inl (upd (upd (upd gb l9 (vp_nar .byte (((x >>> (nI (8 * 3) &&& 31))).toInt8.toInt32))) (l9 + 1) (vp_nar .byte (((x >>> (nI (8 * 2) &&& 31))).toInt8.toInt32))) (l9 + 1 + 1) (vp_nar .byte (((x >>> (nI (8 * 1) &&& 31))).toInt8.toInt32)))))] H := hP
        have hD : va_D A [(mo, .inr (5, [.ref (Z 0), .int (nI (l9 + 1 + 1 + 1)), .int (v 1), .ref (Z 1), .int (v 2), .ref (Z 2), .ref (Z 3), .int (nI T), .int (v 3), .int (v 4), .ref (Z 4), .ref (Z 5), .ref (Z 6), .ref (Z 7), .ref (Z 8), .int (v 5), .int (v 6), .int (v 7)])), ((Z 0), .inl (cB, 16000, .inl (upd (upd (upd gb l9 (vp_nar .byte (((x >>> (nI (8 * 3) &&& 31))).toInt8.toInt32))) (l9 + 1) (vp_nar .byte (((x >>> (nI (8 * 2) &&& 31))).toInt8.toInt32))) (l9 + 1 + 1) (vp_nar .byte (((x >>> (nI (8 * 1) &&& 31))).toInt8.toInt32)))))] := hD
        refine lv_iinc (v := nI 0) (lv' := [(2, .int (nI 0)), (0, .ref mo), (1, .int x)]) hx hb dX5_word_32 hl (k := 0) rfl (by decide) (by decide) rfl (fun ls hl => ?_)
        refine lv_goto (tgt := 2) hx hb dX5_word_35 (by decide) ?_
        refine lv_iload_n hx hb dX5_word_2 rfl (lv_at hl 0 rfl) ?_
        refine lv_if_lt (tgt := 38) hx hb dX5_word_3 (by decide) (fun c_3 => ?_) (fun c_3 => ?_)
        · exact absurd c_3 (by decide)
        · clear c_3
          refine lv_aload_n hx hb dX5_word_6 rfl (lv_at hl 1 rfl) ?_
          refine va_get (D := D) (ci := 5) (v := .ref (Z 0)) (C := RX5) (T := TX5) (N := 18) hx hb hts (by decide +kernel) hown hK hP 0 rfl rfl 0 (by decide) (hts (.fieldLink RX5 9 "BodyTextModel" "bytes" "[B") (by decide +kernel)) (fun _ h9 => h9) rfl dX5_word_7 ?_
          refine lv_aload_n hx hb dX5_word_10 rfl (lv_at hl 1 rfl) ?_
          refine va_get (D := D) (ci := 5) (v := .int (nI (l9 + 1 + 1 + 1))) (C := RX5) (T := TX5) (N := 18) hx hb hts (by decide +kernel) hown hK hP 0 rfl rfl 1 (by decide) (hts (.fieldLink RX5 42 "BodyTextModel" "fed" "I") (by decide +kernel)) (fun _ h9 => h9) rfl dX5_word_11 ?_
          refine lv_iload_n hx hb dX5_word_14 rfl (lv_at hl 2 rfl) ?_
          refine lv_bipush (v := nI 8) hx hb dX5_word_15 (by decide) ?_
          refine lv_iload_n hx hb dX5_word_17 rfl (lv_at hl 0 rfl) ?_
          refine lv_imul hx hb dX5_word_18 ?_
          refine bt_topi (y := nI (8 * 0)) (pk_mul _ _) ?_
          refine lv_ishr hx hb dX5_word_19 ?_
          refine lv_i2b hx hb dX5_word_20 rfl ?_
          refine va_bast hx hb hK hP hD hS 1 0 rfl rfl (vp_in_nI (by omega) (by omega)) dX5_word_21 (fun H locs hP hD hS => ?_)
          rw [nI_clamp (by omega)] at hP hD
          have hP : va_P D vwCl [(mo, .inr (5, [.ref (Z 0), .int (nI (l9 + 1 + 1 + 1)), .int (v 1), .ref (Z 1), .int (v 2), .ref (Z 2), .ref (Z 3), .int (nI T), .int (v 3), .int (v 4), .ref (Z 4), .ref (Z 5), .ref (Z 6), .ref (Z 7), .ref (Z 8), .int (v 5), .int (v 6), .int (v 7)])), ((Z 0), .inl (cB, 16000, .inl (upd (upd (upd (upd gb l9 (vp_nar .byte (((x >>> (nI (8 * 3) &&& 31))).toInt8.toInt32))) (l9 + 1) (vp_nar .byte (((x >>> (nI (8 * 2) &&& 31))).toInt8.toInt32))) (l9 + 1 + 1) (vp_nar .byte (((x >>> (nI (8 * 1) &&& 31))).toInt8.toInt32))) (l9 + 1 + 1 + 1) (vp_nar .byte (((x >>> (nI (8 * 0) &&& 31))).toInt8.toInt32)))))] H := hP
          have hD : va_D A [(mo, .inr (5, [.ref (Z 0), .int (nI (l9 + 1 + 1 + 1)), .int (v 1), .ref (Z 1), .int (v 2), .ref (Z 2), .ref (Z 3), .int (nI T), .int (v 3), .int (v 4), .ref (Z 4), .ref (Z 5), .ref (Z 6), .ref (Z 7), .ref (Z 8), .int (v 5), .int (v 6), .int (v 7)])), ((Z 0), .inl (cB, 16000, .inl (upd (upd (upd (upd gb l9 (vp_nar .byte (((x >>> (nI (8 * 3) &&& 31))).toInt8.toInt32))) (l9 + 1) (vp_nar .byte (((x >>> (nI (8 * 2) &&& 31))).toInt8.toInt32))) (l9 + 1 + 1) (vp_nar .byte (((x >>> (nI (8 * 1) &&& 31))).toInt8.toInt32))) (l9 + 1 + 1 + 1) (vp_nar .byte (((x >>> (nI (8 * 0) &&& 31))).toInt8.toInt32)))))] := hD
          refine lv_aload_n hx hb dX5_word_22 rfl (lv_at hl 1 rfl) ?_
          refine lv_dup hx hb dX5_word_23 rfl ?_
          refine va_get (D := D) (ci := 5) (v := .int (nI (l9 + 1 + 1 + 1))) (C := RX5) (T := TX5) (N := 18) hx hb hts (by decide +kernel) hown hK hP 0 rfl rfl 1 (by decide) (hts (.fieldLink RX5 42 "BodyTextModel" "fed" "I") (by decide +kernel)) (fun _ h9 => h9) rfl dX5_word_24 ?_
          refine lv_iconst (v := nI 1) hx hb dX5_word_27 (by decide) ?_
          refine lv_iadd hx hb dX5_word_28 ?_
          refine bt_topi (y := nI (l9 + 1 + 1 + 1 + 1)) (nI_add _ _) ?_
          refine va_put (D := D) (ci := 5) (v := .int (nI (l9 + 1 + 1 + 1 + 1))) (ty := .int) (C := RX5) (T := TX5) (N := 18) hx hb hts (by decide +kernel) tyX5 tyX5_ok nmX5 hown hK hP hD hS 0 rfl rfl 1 (by decide) (hts (.fieldLink RX5 42 "BodyTextModel" "fed" "I") (by decide +kernel)) (fun _ h9 => h9) rfl (by decide +kernel) rfl rfl (Nat.le_of_ble_eq_true rfl) dX5_word_29 (fun H locs hP hD hS => ?_)
          have hP : va_P D vwCl [(mo, .inr (5, [.ref (Z 0), .int (nI (l9 + 1 + 1 + 1 + 1)), .int (v 1), .ref (Z 1), .int (v 2), .ref (Z 2), .ref (Z 3), .int (nI T), .int (v 3), .int (v 4), .ref (Z 4), .ref (Z 5), .ref (Z 6), .ref (Z 7), .ref (Z 8), .int (v 5), .int (v 6), .int (v 7)])), ((Z 0), .inl (cB, 16000, .inl (upd (upd (upd (upd gb l9 (vp_nar .byte (((x >>> (nI (8 * 3) &&& 31))).toInt8.toInt32))) (l9 + 1) (vp_nar .byte (((x >>> (nI (8 * 2) &&& 31))).toInt8.toInt32))) (l9 + 1 + 1) (vp_nar .byte (((x >>> (nI (8 * 1) &&& 31))).toInt8.toInt32))) (l9 + 1 + 1 + 1) (vp_nar .byte (((x >>> (nI (8 * 0) &&& 31))).toInt8.toInt32)))))] H := hP
          have hD : va_D A [(mo, .inr (5, [.ref (Z 0), .int (nI (l9 + 1 + 1 + 1 + 1)), .int (v 1), .ref (Z 1), .int (v 2), .ref (Z 2), .ref (Z 3), .int (nI T), .int (v 3), .int (v 4), .ref (Z 4), .ref (Z 5), .ref (Z 6), .ref (Z 7), .ref (Z 8), .int (v 5), .int (v 6), .int (v 7)])), ((Z 0), .inl (cB, 16000, .inl (upd (upd (upd (upd gb l9 (vp_nar .byte (((x >>> (nI (8 * 3) &&& 31))).toInt8.toInt32))) (l9 + 1) (vp_nar .byte (((x >>> (nI (8 * 2) &&& 31))).toInt8.toInt32))) (l9 + 1 + 1) (vp_nar .byte (((x >>> (nI (8 * 1) &&& 31))).toInt8.toInt32))) (l9 + 1 + 1 + 1) (vp_nar .byte (((x >>> (nI (8 * 0) &&& 31))).toInt8.toInt32)))))] := hD
          refine lv_iinc (v := (-1)) (lv' := [(2, .int (-1)), (0, .ref mo), (1, .int x)]) hx hb dX5_word_32 hl (k := 0) rfl (by decide) (by decide) rfl (fun ls hl => ?_)
          refine lv_goto (tgt := 2) hx hb dX5_word_35 (by decide) ?_
          refine lv_iload_n hx hb dX5_word_2 rfl (lv_at hl 0 rfl) ?_
          refine lv_if_lt (tgt := 38) hx hb dX5_word_3 (by decide) (fun c_3 => ?_) (fun c_3 => ?_)
          · have hP := hP.sub (ws' := [(mo, .inr (5, [.ref (Z 0), .int (nI (l9 + 1 + 1 + 1 + 1)), .int (v 1), .ref (Z 1), .int (v 2), .ref (Z 2), .ref (Z 3), .int (nI T), .int (v 3), .int (v 4), .ref (Z 4), .ref (Z 5), .ref (Z 6), .ref (Z 7), .ref (Z 8), .int (v 5), .int (v 6), .int (v 7)])), ((Z 0), .inl (cB, 16000, .inl (upd (upd (upd (upd gb l9 (vp_nar .byte (((x >>> (nI (8 * 3) &&& 31))).toInt8.toInt32))) (l9 + 1) (vp_nar .byte (((x >>> (nI (8 * 2) &&& 31))).toInt8.toInt32))) (l9 + 1 + 1) (vp_nar .byte (((x >>> (nI (8 * 1) &&& 31))).toInt8.toInt32))) (l9 + 1 + 1 + 1) (vp_nar .byte (((x >>> (nI (8 * 0) &&& 31))).toInt8.toInt32)))))]) [0, 1] rfl
            have hD := hD.sub (ws' := [(mo, .inr (5, [.ref (Z 0), .int (nI (l9 + 1 + 1 + 1 + 1)), .int (v 1), .ref (Z 1), .int (v 2), .ref (Z 2), .ref (Z 3), .int (nI T), .int (v 3), .int (v 4), .ref (Z 4), .ref (Z 5), .ref (Z 6), .ref (Z 7), .ref (Z 8), .int (v 5), .int (v 6), .int (v 7)])), ((Z 0), .inl (cB, 16000, .inl (upd (upd (upd (upd gb l9 (vp_nar .byte (((x >>> (nI (8 * 3) &&& 31))).toInt8.toInt32))) (l9 + 1) (vp_nar .byte (((x >>> (nI (8 * 2) &&& 31))).toInt8.toInt32))) (l9 + 1 + 1) (vp_nar .byte (((x >>> (nI (8 * 1) &&& 31))).toInt8.toInt32))) (l9 + 1 + 1 + 1) (vp_nar .byte (((x >>> (nI (8 * 0) &&& 31))).toInt8.toInt32)))))]) [0, 1] (by decide) rfl
            have hP : va_P D vwCl [(mo, .inr (5, [.ref (Z 0), .int (nI (l9 + 4)), .int (v 1), .ref (Z 1), .int (v 2), .ref (Z 2), .ref (Z 3), .int (nI T), .int (v 3), .int (v 4), .ref (Z 4), .ref (Z 5), .ref (Z 6), .ref (Z 7), .ref (Z 8), .int (v 5), .int (v 6), .int (v 7)])), ((Z 0), .inl (cB, 16000, .inl (upd (upd (upd (upd gb l9 (vp_nar .byte (wB x 3))) (l9 + 1) (vp_nar .byte (wB x 2))) (l9 + 1 + 1) (vp_nar .byte (wB x 1))) (l9 + 1 + 1 + 1) (vp_nar .byte (wB x 0)))))] H := by exact hP
            have hD : va_D A [(mo, .inr (5, [.ref (Z 0), .int (nI (l9 + 4)), .int (v 1), .ref (Z 1), .int (v 2), .ref (Z 2), .ref (Z 3), .int (nI T), .int (v 3), .int (v 4), .ref (Z 4), .ref (Z 5), .ref (Z 6), .ref (Z 7), .ref (Z 8), .int (v 5), .int (v 6), .int (v 7)])), ((Z 0), .inl (cB, 16000, .inl (upd (upd (upd (upd gb l9 (vp_nar .byte (wB x 3))) (l9 + 1) (vp_nar .byte (wB x 2))) (l9 + 1 + 1) (vp_nar .byte (wB x 1))) (l9 + 1 + 1 + 1) (vp_nar .byte (wB x 0)))))] := by exact hD
            have hP9 := hP.sub (ws' := [(mo, .inr (5, [.ref (Z 0), .int (nI (l9 + 4)), .int (v 1), .ref (Z 1), .int (v 2), .ref (Z 2), .ref (Z 3), .int (nI T), .int (v 3), .int (v 4), .ref (Z 4), .ref (Z 5), .ref (Z 6), .ref (Z 7), .ref (Z 8), .int (v 5), .int (v 6), .int (v 7)])), ((Z 0), .inl (cB, 16000, .inl (upd (upd (upd (upd gb l9 (vp_nar .byte (wB x 3))) (l9 + 1) (vp_nar .byte (wB x 2))) (l9 + 1 + 1) (vp_nar .byte (wB x 1))) (l9 + 1 + 1 + 1) (vp_nar .byte (wB x 0)))))]) [0, 1] rfl
            have hD9 := hD.sub (ws' := [(mo, .inr (5, [.ref (Z 0), .int (nI (l9 + 4)), .int (v 1), .ref (Z 1), .int (v 2), .ref (Z 2), .ref (Z 3), .int (nI T), .int (v 3), .int (v 4), .ref (Z 4), .ref (Z 5), .ref (Z 6), .ref (Z 7), .ref (Z 8), .int (v 5), .int (v 6), .int (v 7)])), ((Z 0), .inl (cB, 16000, .inl (upd (upd (upd (upd gb l9 (vp_nar .byte (wB x 3))) (l9 + 1) (vp_nar .byte (wB x 2))) (l9 + 1 + 1) (vp_nar .byte (wB x 1))) (l9 + 1 + 1 + 1) (vp_nar .byte (wB x 0)))))]) [0, 1] (by decide) rfl
            refine W.widen (k := 0) (n := 0) (show 0 ≤ 0 by omega) (show 0 ≤ 0 by omega) ?_
            exact W.vret hx hb hr (fun t9 ht hW => ⟨⟨(upd (upd (upd (upd gb l9 (vp_nar .byte (wB x 3))) (l9 + 1) (vp_nar .byte (wB x 2))) (l9 + 1 + 1) (vp_nar .byte (wB x 1))) (l9 + 1 + 1 + 1) (vp_nar .byte (wB x 0))), rfl, ⟨fun j hj => by rw [pk_un (by omega), pk_un (by omega), pk_un (by omega), pk_un (by omega)], by rw [pk_un (by omega), pk_un (by omega), pk_un (by omega), pk_us, wB_n], by rw [pk_un (by omega), pk_un (by omega), pk_us, wB_n], by rw [pk_un (by omega), pk_us, wB_n], by rw [pk_us, wB_n]⟩, by rw [ht]; exact hP9, hD9⟩, hS.F ht⟩) hS.2.2 dX5_word_38
          · exact absurd (by decide) c_3
set_option maxHeartbeats 4000000 in
set_option maxRecDepth 100000 in
/-- feed -/
theorem kX5_feed (l : Launch) (D : va_G) (cB cI : ClassId) (mo : Nat) (Z : Nat → Nat) (v : Nat → Int32) (T l9 al : Nat) (gb : Nat → Int32) (x1 x2 x3 x4 x5 : Int32) (hl9 : l9 ≤ 15980) (hal : al ≤ 65516) (sz : Nat) : Met l yX5_feed wsX5_feed ({ frames := 1, cells := 0, slots := 0, locals := 22 }) (va_Pc [.ref mo, .int x1, .int x2, .int x3, .int x4, .int x5] (bt_M D cB cI sz [(mo, .inr (5, [.ref (Z 0), .int (nI l9), .int (nI al), .ref (Z 1), .int (v 2), .ref (Z 2), .ref (Z 3), .int (nI T), .int (v 3), .int (v 4), .ref (Z 4), .ref (Z 5), .ref (Z 6), .ref (Z 7), .ref (Z 8), .int (v 5), .int (v 6), .int (v 7)])), ((Z 0), .inl (cB, 16000, .inl gb))])) (va_Qi (S := Nat → Int32) (fun r u => r = nI (l9 + 20) ∧ (∀ j, j < l9 → u j = gb j) ∧ u l9 = wB x1 3 ∧ u (l9 + 1) = wB x1 2 ∧ u (l9 + 1 + 1) = wB x1 1 ∧ u (l9 + 1 + 1 + 1) = wB x1 0 ∧ u (l9 + 4) = wB x2 3 ∧ u (l9 + 4 + 1) = wB x2 2 ∧ u (l9 + 4 + 1 + 1) = wB x2 1 ∧ u (l9 + 4 + 1 + 1 + 1) = wB x2 0 ∧ u (l9 + 8) = wB x3 3 ∧ u (l9 + 8 + 1) = wB x3 2 ∧ u (l9 + 8 + 1 + 1) = wB x3 1 ∧ u (l9 + 8 + 1 + 1 + 1) = wB x3 0 ∧ u (l9 + 12) = wB x4 3 ∧ u (l9 + 12 + 1) = wB x4 2 ∧ u (l9 + 12 + 1 + 1) = wB x4 1 ∧ u (l9 + 12 + 1 + 1 + 1) = wB x4 0 ∧ u (l9 + 16) = wB x5 3 ∧ u (l9 + 16 + 1) = wB x5 2 ∧ u (l9 + 16 + 1 + 1) = wB x5 1 ∧ u (l9 + 16 + 1 + 1 + 1) = wB x5 0) (fun u t9 => bt_L D (va_A [(mo, .inr (5, [.ref (Z 0), .int (nI l9), .int (nI al), .ref (Z 1), .int (v 2), .ref (Z 2), .ref (Z 3), .int (nI T), .int (v 3), .int (v 4), .ref (Z 4), .ref (Z 5), .ref (Z 6), .ref (Z 7), .ref (Z 8), .int (v 5), .int (v 6), .int (v 7)])), ((Z 0), .inl (cB, 16000, .inl gb))] sz) ((fun u => [(mo, .inr (5, [.ref (Z 0), .int (nI (l9 + 20)), .int (nI (al + 20)), .ref (Z 1), .int (v 2), .ref (Z 2), .ref (Z 3), .int (nI T), .int (v 3), .int (v 4), .ref (Z 4), .ref (Z 5), .ref (Z 6), .ref (Z 7), .ref (Z 8), .int (v 5), .int (v 6), .int (v 7)])), ((Z 0), .inl (cB, 16000, .inl u))]) u) t9) (va_A [(mo, .inr (5, [.ref (Z 0), .int (nI l9), .int (nI al), .ref (Z 1), .int (v 2), .ref (Z 2), .ref (Z 3), .int (nI T), .int (v 3), .int (v 4), .ref (Z 4), .ref (Z 5), .ref (Z 6), .ref (Z 7), .ref (Z 8), .int (v 5), .int (v 6), .int (v 7)])), ((Z 0), .inl (cB, 16000, .inl gb))] sz)) 0 0 (va_A [(mo, .inr (5, [.ref (Z 0), .int (nI l9), .int (nI al), .ref (Z 1), .int (v 2), .ref (Z 2), .ref (Z 3), .int (nI T), .int (v 3), .int (v 4), .ref (Z 4), .ref (Z 5), .ref (Z 6), .ref (Z 7), .ref (Z 8), .int (v 5), .int (v 6), .int (v 7)])), ((Z 0), .inl (cB, 16000, .inl gb))] sz) := by
  refine Met.ofW (cc := cX5_feed) (maxL := 6) (ret := (some .int)) (by decide) rfl ?_
  intro p e s m args below meth c s₁ B hml hv
  obtain ⟨rfl, hsz, hP, hK, hN, hD0⟩ := hv
  have hx := B.exec
  have hb := B.bytes
  have hr := B.returns
  have hts := atoms_spec (ws := wsX5_feed) B.pre
  have hown : s.vm.findClass RX5 = some m.cls := findClass_of_methodNamed B.named
  have hlocks := B.notSynchronized
  subst hsz
  have hD := hD0.self (sz := s.heap.size)
  generalize hAe : va_A [(mo, .inr (5, [.ref (Z 0), .int (nI l9), .int (nI al), .ref (Z 1), .int (v 2), .ref (Z 2), .ref (Z 3), .int (nI T), .int (v 3), .int (v 4), .ref (Z 4), .ref (Z 5), .ref (Z 6), .ref (Z 7), .ref (Z 8), .int (v 5), .int (v 6), .int (v 7)])), ((Z 0), .inl (cB, 16000, .inl gb))] s.heap.size = A at hD ⊢
  have hA : ∀ q : Nat, s.heap.size ≤ q → A q := fun q h => by rw [← hAe]; exact Or.inr h
  have hS : va_S A s.heap s.heap [] := va_S.rf
  have hl := lv_entry ([.ref mo, .int x1, .int x2, .int x3, .int x4, .int x5]) (n := 6) (Nat.le_of_ble_eq_true rfl)
  rw [lg_entry_eq]
  generalize (lg_sl ([.ref mo, .int x1, .int x2, .int x3, .int x4, .int x5]) ++ List.replicate (6 - (lg_sl ([.ref mo, .int x1, .int x2, .int x3, .int x4, .int x5])).length) Slot.unset).toArray = ls at hl ⊢
  have hl : lv_has ls 6 [(0, .ref mo), (1, .int x1), (2, .int x2), (3, .int x3), (4, .int x4), (5, .int x5)] := hl
  refine lv_aload_n hx hb dX5_feed_0 rfl (lv_at hl 0 rfl) ?_
  refine va_get (D := D) (ci := 5) (v := .int (nI l9)) (C := RX5) (T := TX5) (N := 18) hx hb hts (by decide +kernel) hown hK hP 0 rfl rfl 1 (by decide) (hts (.fieldLink RX5 42 "BodyTextModel" "fed" "I") (by decide +kernel)) (fun _ h9 => h9) rfl dX5_feed_1 ?_
  refine lv_bipush (v := nI 20) hx hb dX5_feed_4 (by decide) ?_
  refine lv_iadd hx hb dX5_feed_6 ?_
  refine bt_topi (y := nI (l9 + 20)) (nI_add _ _) ?_
  refine lv_sipush (v := nI 16000) hx hb dX5_feed_7 (by decide) ?_
  refine lv_icmp_gt (tgt := 25) hx hb dX5_feed_10 (by decide) (fun c_10 => ?_) (fun c_10 => ?_)
  · have c_10 : 16000 < l9 + 20 := (nI_ltI (a := 16000) (b := l9 + 20) (by omega) (by omega)).mp c_10
    exfalso; omega
  · have c_10 : ¬ (16000 < l9 + 20) := fun h9 => c_10 ((nI_ltI (a := 16000) (b := l9 + 20) (by omega) (by omega)).mpr h9)
    refine lv_aload_n hx hb dX5_feed_13 rfl (lv_at hl 0 rfl) ?_
    refine va_get (D := D) (ci := 5) (v := .int (nI al)) (C := RX5) (T := TX5) (N := 18) hx hb hts (by decide +kernel) hown hK hP 0 rfl rfl 2 (by decide) (hts (.fieldLink RX5 45 "BodyTextModel" "allFed" "I") (by decide +kernel)) (fun _ h9 => h9) rfl dX5_feed_14 ?_
    refine lv_bipush (v := nI 20) hx hb dX5_feed_17 (by decide) ?_
    refine lv_iadd hx hb dX5_feed_19 ?_
    refine bt_topi (y := nI (al + 20)) (nI_add _ _) ?_
    refine lv_ldc (own := RX5) (v := 65536) hx hb hown (hts (.constant RX5 48 (65536)) (by decide +kernel)) dX5_feed_20 ?_
    refine bt_topi (y := nI 65536) (by decide) ?_
    refine lv_icmp_le (tgt := 27) hx hb dX5_feed_22 (by decide) (fun c_22 => ?_) (fun c_22 => ?_)
    · have c_22 : al + 20 ≤ 65536 := (nI_leI (a := al + 20) (b := 65536) (by omega) (by omega)).mp c_22
      refine lv_aload_n hx hb dX5_feed_27 rfl (lv_at hl 0 rfl) ?_
      refine lv_iload_n hx hb dX5_feed_28 rfl (lv_at hl 1 rfl) ?_
      have hPc := hP.sub (ws' := [(mo, .inr (5, [.ref (Z 0), .int (nI l9), .int (nI al), .ref (Z 1), .int (v 2), .ref (Z 2), .ref (Z 3), .int (nI T), .int (v 3), .int (v 4), .ref (Z 4), .ref (Z 5), .ref (Z 6), .ref (Z 7), .ref (Z 8), .int (v 5), .int (v 6), .int (v 7)])), ((Z 0), .inl (cB, 16000, .inl gb))]) [0, 1] rfl
      have hDc := hD.sub (ws' := [(mo, .inr (5, [.ref (Z 0), .int (nI l9), .int (nI al), .ref (Z 1), .int (v 2), .ref (Z 2), .ref (Z 3), .int (nI T), .int (v 3), .int (v 4), .ref (Z 4), .ref (Z 5), .ref (Z 6), .ref (Z 7), .ref (Z 8), .int (v 5), .int (v 6), .int (v 7)])), ((Z 0), .inl (cB, 16000, .inl gb))]) [0, 1] (by decide) rfl
      have hFc := va_free (wc := [(mo, .inr (5, [.ref (Z 0), .int (nI l9), .int (nI al), .ref (Z 1), .int (v 2), .ref (Z 2), .ref (Z 3), .int (nI T), .int (v 3), .int (v 4), .ref (Z 4), .ref (Z 5), .ref (Z 6), .ref (Z 7), .ref (Z 8), .int (v 5), .int (v 6), .int (v 7)])), ((Z 0), .inl (cB, 16000, .inl gb))]) hD hS hA [0, 1] rfl
      refine va_callv (va_runV (As := [.int x1]) (rest := []) ⟨hx, hb, hml, hown, hts⟩ (kX5_word l D cB cI mo Z (mk8 (nI 0) (nI al) (v 2) (v 3) (v 4) (v 5) (v 6) (v 7)) T l9 gb x1 (by omega) s.heap.size) (cwV 1 hts gX5_feed_X5_word rfl rfl rfl (by decide +kernel) ⟨Nat.le_of_ble_eq_true rfl, Nat.le_of_ble_eq_true rfl⟩) ⟨fun a U g mk q => ⟨q.1, q.2.calling⟩, va_recv hK hPc (ci := 5) (q0 := 0) rfl rfl, fun U hU hW => ⟨rfl, bt_M.of hU hW hPc hK hN hDc⟩⟩ rfl rfl hl.1 rfl (lv_room (Nat.le_of_ble_eq_true rfl)) dX5_feed_29 ⟨(show 0 + 0 ≤ 0 by omega), (show 0 + 0 ≤ 0 by omega)⟩) hS (fun q _ h => hFc q h) hFc (fun u_29 t9 H1 locs ht hvm hw hB hz1 hk1 hS => ?_)
      obtain ⟨hP1, hD1⟩ := hB
      rw [ht] at hP1
      try dsimp only at hw hP1 hD1
      obtain ⟨hP, hD⟩ := va_join (wr := []) (w1 := [(mo, .inr (5, [.ref (Z 0), .int (nI (l9 + 4)), .int (nI al), .ref (Z 1), .int (v 2), .ref (Z 2), .ref (Z 3), .int (nI T), .int (v 3), .int (v 4), .ref (Z 4), .ref (Z 5), .ref (Z 6), .ref (Z 7), .ref (Z 8), .int (v 5), .int (v 6), .int (v 7)])), ((Z 0), .inl (cB, 16000, .inl u_29))]) hP hD [0, 1] [] rfl rfl (by decide) (by decide) hk1 hFc hP1 hD1
      clear hP1 hD1 hPc hDc hFc hk1 hz1 hvm
      generalize H1 = H at hP hS ht ⊢
      have hP : va_P D vwCl [(mo, .inr (5, [.ref (Z 0), .int (nI (l9 + 4)), .int (nI al), .ref (Z 1), .int (v 2), .ref (Z 2), .ref (Z 3), .int (nI T), .int (v 3), .int (v 4), .ref (Z 4), .ref (Z 5), .ref (Z 6), .ref (Z 7), .ref (Z 8), .int (v 5), .int (v 6), .int (v 7)])), ((Z 0), .inl (cB, 16000, .inl u_29))] H := hP
      have hD : va_D A [(mo, .inr (5, [.ref (Z 0), .int (nI (l9 + 4)), .int (nI al), .ref (Z 1), .int (v 2), .ref (Z 2), .ref (Z 3), .int (nI T), .int (v 3), .int (v 4), .ref (Z 4), .ref (Z 5), .ref (Z 6), .ref (Z 7), .ref (Z 8), .int (v 5), .int (v 6), .int (v 7)])), ((Z 0), .inl (cB, 16000, .inl u_29))] := hD
      refine W.widen (k := 0) (n := 0) (Nat.le_refl _) (Nat.le_refl _) ?_
      have hw_29 := hw
      have hP : va_P D vwCl [(mo, .inr (5, [.ref (Z 0), .int (nI (l9 + 4)), .int (nI al), .ref (Z 1), .int (v 2), .ref (Z 2), .ref (Z 3), .int (nI T), .int (v 3), .int (v 4), .ref (Z 4), .ref (Z 5), .ref (Z 6), .ref (Z 7), .ref (Z 8), .int (v 5), .int (v 6), .int (v 7)])), ((Z 0), .inl (cB, 16000, .inl u_29))] H := hP
      have hD : va_D A [(mo, .inr (5, [.ref (Z 0), .int (nI (l9 + 4)), .int (nI al), .ref (Z 1), .int (v 2), .ref (Z 2), .ref (Z 3), .int (nI T), .int (v 3), .int (v 4), .ref (Z 4), .ref (Z 5), .ref (Z 6), .ref (Z 7), .ref (Z 8), .int (v 5), .int (v 6), .int (v 7)])), ((Z 0), .inl (cB, 16000, .inl u_29))] := hD
      refine lv_aload_n hx hb dX5_feed_32 rfl (lv_at hl 0 rfl) ?_
      refine lv_iload_n hx hb dX5_feed_33 rfl (lv_at hl 2 rfl) ?_
      have hPc := hP.sub (ws' := [(mo, .inr (5, [.ref (Z 0), .int (nI (l9 + 4)), .int (nI al), .ref (Z 1), .int (v 2), .ref (Z 2), .ref (Z 3), .int (nI T), .int (v 3), .int (v 4), .ref (Z 4), .ref (Z 5), .ref (Z 6), .ref (Z 7), .ref (Z 8), .int (v 5), .int (v 6), .int (v 7)])), ((Z 0), .inl (cB, 16000, .inl u_29))]) [0, 1] rfl
      have hDc := hD.sub (ws' := [(mo, .inr (5, [.ref (Z 0), .int (nI (l9 + 4)), .int (nI al), .ref (Z 1), .int (v 2), .ref (Z 2), .ref (Z 3), .int (nI T), .int (v 3), .int (v 4), .ref (Z 4), .ref (Z 5), .ref (Z 6), .ref (Z 7), .ref (Z 8), .int (v 5), .int (v 6), .int (v 7)])), ((Z 0), .inl (cB, 16000, .inl u_29))]) [0, 1] (by decide) rfl
      have hFc := va_free (wc := [(mo, .inr (5, [.ref (Z 0), .int (nI (l9 + 4)), .int (nI al), .ref (Z 1), .int (v 2), .ref (Z 2), .ref (Z 3), .int (nI T), .int (v 3), .int (v 4), .ref (Z 4), .ref (Z 5), .ref (Z 6), .ref (Z 7), .ref (Z 8), .int (v 5), .int (v 6), .int (v 7)])), ((Z 0), .inl (cB, 16000, .inl u_29))]) hD hS hA [0, 1] rfl
      refine va_callv (va_runV (As := [.int x2]) (rest := []) ⟨hx, hb, hml, hown, hts⟩ (kX5_word l D cB cI mo Z (mk8 (nI 0) (nI al) (v 2) (v 3) (v 4) (v 5) (v 6) (v 7)) T (l9 + 4) u_29 x2 (by omega) H.size) (cwV 1 hts gX5_feed_X5_word rfl rfl rfl (by decide +kernel) ⟨Nat.le_of_ble_eq_true rfl, Nat.le_of_ble_eq_true rfl⟩) ⟨fun a U g mk q => ⟨q.1, q.2.calling⟩, va_recv hK hPc (ci := 5) (q0 := 0) rfl rfl, fun U hU hW => ⟨rfl, bt_M.of hU hW hPc hK hN hDc⟩⟩ rfl rfl hl.1 rfl (lv_room (Nat.le_of_ble_eq_true rfl)) dX5_feed_34 ⟨(show 0 + 0 ≤ 0 by omega), (show 0 + 0 ≤ 0 by omega)⟩) hS (fun q _ h => hFc q h) hFc (fun u_34 t9 H1 locs ht hvm hw hB hz1 hk1 hS => ?_)
      obtain ⟨hP1, hD1⟩ := hB
      rw [ht] at hP1
      try dsimp only at hw hP1 hD1
      obtain ⟨hP, hD⟩ := va_join (wr := []) (w1 := [(mo, .inr (5, [.ref (Z 0), .int (nI ((l9 + 4) + 4)), .int (nI al), .ref (Z 1), .int (v 2), .ref (Z 2), .ref (Z 3), .int (nI T), .int (v 3), .int (v 4), .ref (Z 4), .ref (Z 5), .ref (Z 6), .ref (Z 7), .ref (Z 8), .int (v 5), .int (v 6), .int (v 7)])), ((Z 0), .inl (cB, 16000, .inl u_34))]) hP hD [0, 1] [] rfl rfl (by decide) (by decide) hk1 hFc hP1 hD1
      clear hP1 hD1 hPc hDc hFc hk1 hz1 hvm
      generalize H1 = H at hP hS ht ⊢
      have hP : va_P D vwCl [(mo, .inr (5, [.ref (Z 0), .int (nI ((l9 + 4) + 4)), .int (nI al), .ref (Z 1), .int (v 2), .ref (Z 2), .ref (Z 3), .int (nI T), .int (v 3), .int (v 4), .ref (Z 4), .ref (Z 5), .ref (Z 6), .ref (Z 7), .ref (Z 8), .int (v 5), .int (v 6), .int (v 7)])), ((Z 0), .inl (cB, 16000, .inl u_34))] H := hP
      have hD : va_D A [(mo, .inr (5, [.ref (Z 0), .int (nI ((l9 + 4) + 4)), .int (nI al), .ref (Z 1), .int (v 2), .ref (Z 2), .ref (Z 3), .int (nI T), .int (v 3), .int (v 4), .ref (Z 4), .ref (Z 5), .ref (Z 6), .ref (Z 7), .ref (Z 8), .int (v 5), .int (v 6), .int (v 7)])), ((Z 0), .inl (cB, 16000, .inl u_34))] := hD
      refine W.widen (k := 0) (n := 0) (Nat.le_refl _) (Nat.le_refl _) ?_
      have hw_34 := hw
      have hP : va_P D vwCl [(mo, .inr (5, [.ref (Z 0), .int (nI (l9 + 8)), .int (nI al), .ref (Z 1), .int (v 2), .ref (Z 2), .ref (Z 3), .int (nI T), .int (v 3), .int (v 4), .ref (Z 4), .ref (Z 5), .ref (Z 6), .ref (Z 7), .ref (Z 8), .int (v 5), .int (v 6), .int (v 7)])), ((Z 0), .inl (cB, 16000, .inl u_34))] H := hP
      have hD : va_D A [(mo, .inr (5, [.ref (Z 0), .int (nI (l9 + 8)), .int (nI al), .ref (Z 1), .int (v 2), .ref (Z 2), .ref (Z 3), .int (nI T), .int (v 3), .int (v 4), .ref (Z 4), .ref (Z 5), .ref (Z 6), .ref (Z 7), .ref (Z 8), .int (v 5), .int (v 6), .int (v 7)])), ((Z 0), .inl (cB, 16000, .inl u_34))] := hD
      refine lv_aload_n hx hb dX5_feed_37 rfl (lv_at hl 0 rfl) ?_
      refine lv_iload_n hx hb dX5_feed_38 rfl (lv_at hl 3 rfl) ?_
      have hPc := hP.sub (ws' := [(mo, .inr (5, [.ref (Z 0), .int (nI (l9 + 8)), .int (nI al), .ref (Z 1), .int (v 2), .ref (Z 2), .ref (Z 3), .int (nI T), .int (v 3), .int (v 4), .ref (Z 4), .ref (Z 5), .ref (Z 6), .ref (Z 7), .ref (Z 8), .int (v 5), .int (v 6), .int (v 7)])), ((Z 0), .inl (cB, 16000, .inl u_34))]) [0, 1] rfl
      have hDc := hD.sub (ws' := [(mo, .inr (5, [.ref (Z 0), .int (nI (l9 + 8)), .int (nI al), .ref (Z 1), .int (v 2), .ref (Z 2), .ref (Z 3), .int (nI T), .int (v 3), .int (v 4), .ref (Z 4), .ref (Z 5), .ref (Z 6), .ref (Z 7), .ref (Z 8), .int (v 5), .int (v 6), .int (v 7)])), ((Z 0), .inl (cB, 16000, .inl u_34))]) [0, 1] (by decide) rfl
      have hFc := va_free (wc := [(mo, .inr (5, [.ref (Z 0), .int (nI (l9 + 8)), .int (nI al), .ref (Z 1), .int (v 2), .ref (Z 2), .ref (Z 3), .int (nI T), .int (v 3), .int (v 4), .ref (Z 4), .ref (Z 5), .ref (Z 6), .ref (Z 7), .ref (Z 8), .int (v 5), .int (v 6), .int (v 7)])), ((Z 0), .inl (cB, 16000, .inl u_34))]) hD hS hA [0, 1] rfl
      refine va_callv (va_runV (As := [.int x3]) (rest := []) ⟨hx, hb, hml, hown, hts⟩ (kX5_word l D cB cI mo Z (mk8 (nI 0) (nI al) (v 2) (v 3) (v 4) (v 5) (v 6) (v 7)) T (l9 + 8) u_34 x3 (by omega) H.size) (cwV 1 hts gX5_feed_X5_word rfl rfl rfl (by decide +kernel) ⟨Nat.le_of_ble_eq_true rfl, Nat.le_of_ble_eq_true rfl⟩) ⟨fun a U g mk q => ⟨q.1, q.2.calling⟩, va_recv hK hPc (ci := 5) (q0 := 0) rfl rfl, fun U hU hW => ⟨rfl, bt_M.of hU hW hPc hK hN hDc⟩⟩ rfl rfl hl.1 rfl (lv_room (Nat.le_of_ble_eq_true rfl)) dX5_feed_39 ⟨(show 0 + 0 ≤ 0 by omega), (show 0 + 0 ≤ 0 by omega)⟩) hS (fun q _ h => hFc q h) hFc (fun u_39 t9 H1 locs ht hvm hw hB hz1 hk1 hS => ?_)
      obtain ⟨hP1, hD1⟩ := hB
      rw [ht] at hP1
      try dsimp only at hw hP1 hD1
      obtain ⟨hP, hD⟩ := va_join (wr := []) (w1 := [(mo, .inr (5, [.ref (Z 0), .int (nI ((l9 + 8) + 4)), .int (nI al), .ref (Z 1), .int (v 2), .ref (Z 2), .ref (Z 3), .int (nI T), .int (v 3), .int (v 4), .ref (Z 4), .ref (Z 5), .ref (Z 6), .ref (Z 7), .ref (Z 8), .int (v 5), .int (v 6), .int (v 7)])), ((Z 0), .inl (cB, 16000, .inl u_39))]) hP hD [0, 1] [] rfl rfl (by decide) (by decide) hk1 hFc hP1 hD1
      clear hP1 hD1 hPc hDc hFc hk1 hz1 hvm
      generalize H1 = H at hP hS ht ⊢
      have hP : va_P D vwCl [(mo, .inr (5, [.ref (Z 0), .int (nI ((l9 + 8) + 4)), .int (nI al), .ref (Z 1), .int (v 2), .ref (Z 2), .ref (Z 3), .int (nI T), .int (v 3), .int (v 4), .ref (Z 4), .ref (Z 5), .ref (Z 6), .ref (Z 7), .ref (Z 8), .int (v 5), .int (v 6), .int (v 7)])), ((Z 0), .inl (cB, 16000, .inl u_39))] H := hP
      have hD : va_D A [(mo, .inr (5, [.ref (Z 0), .int (nI ((l9 + 8) + 4)), .int (nI al), .ref (Z 1), .int (v 2), .ref (Z 2), .ref (Z 3), .int (nI T), .int (v 3), .int (v 4), .ref (Z 4), .ref (Z 5), .ref (Z 6), .ref (Z 7), .ref (Z 8), .int (v 5), .int (v 6), .int (v 7)])), ((Z 0), .inl (cB, 16000, .inl u_39))] := hD
      refine W.widen (k := 0) (n := 0) (Nat.le_refl _) (Nat.le_refl _) ?_
      have hw_39 := hw
      have hP : va_P D vwCl [(mo, .inr (5, [.ref (Z 0), .int (nI (l9 + 12)), .int (nI al), .ref (Z 1), .int (v 2), .ref (Z 2), .ref (Z 3), .int (nI T), .int (v 3), .int (v 4), .ref (Z 4), .ref (Z 5), .ref (Z 6), .ref (Z 7), .ref (Z 8), .int (v 5), .int (v 6), .int (v 7)])), ((Z 0), .inl (cB, 16000, .inl u_39))] H := hP
      have hD : va_D A [(mo, .inr (5, [.ref (Z 0), .int (nI (l9 + 12)), .int (nI al), .ref (Z 1), .int (v 2), .ref (Z 2), .ref (Z 3), .int (nI T), .int (v 3), .int (v 4), .ref (Z 4), .ref (Z 5), .ref (Z 6), .ref (Z 7), .ref (Z 8), .int (v 5), .int (v 6), .int (v 7)])), ((Z 0), .inl (cB, 16000, .inl u_39))] := hD
      refine lv_aload_n hx hb dX5_feed_42 rfl (lv_at hl 0 rfl) ?_
      refine lv_iload hx hb dX5_feed_43 (lv_at hl 4 rfl) ?_
      have hPc := hP.sub (ws' := [(mo, .inr (5, [.ref (Z 0), .int (nI (l9 + 12)), .int (nI al), .ref (Z 1), .int (v 2), .ref (Z 2), .ref (Z 3), .int (nI T), .int (v 3), .int (v 4), .ref (Z 4), .ref (Z 5), .ref (Z 6), .ref (Z 7), .ref (Z 8), .int (v 5), .int (v 6), .int (v 7)])), ((Z 0), .inl (cB, 16000, .inl u_39))]) [0, 1] rfl
      have hDc := hD.sub (ws' := [(mo, .inr (5, [.ref (Z 0), .int (nI (l9 + 12)), .int (nI al), .ref (Z 1), .int (v 2), .ref (Z 2), .ref (Z 3), .int (nI T), .int (v 3), .int (v 4), .ref (Z 4), .ref (Z 5), .ref (Z 6), .ref (Z 7), .ref (Z 8), .int (v 5), .int (v 6), .int (v 7)])), ((Z 0), .inl (cB, 16000, .inl u_39))]) [0, 1] (by decide) rfl
      have hFc := va_free (wc := [(mo, .inr (5, [.ref (Z 0), .int (nI (l9 + 12)), .int (nI al), .ref (Z 1), .int (v 2), .ref (Z 2), .ref (Z 3), .int (nI T), .int (v 3), .int (v 4), .ref (Z 4), .ref (Z 5), .ref (Z 6), .ref (Z 7), .ref (Z 8), .int (v 5), .int (v 6), .int (v 7)])), ((Z 0), .inl (cB, 16000, .inl u_39))]) hD hS hA [0, 1] rfl
      refine va_callv (va_runV (As := [.int x4]) (rest := []) ⟨hx, hb, hml, hown, hts⟩ (kX5_word l D cB cI mo Z (mk8 (nI 0) (nI al) (v 2) (v 3) (v 4) (v 5) (v 6) (v 7)) T (l9 + 12) u_39 x4 (by omega) H.size) (cwV 1 hts gX5_feed_X5_word rfl rfl rfl (by decide +kernel) ⟨Nat.le_of_ble_eq_true rfl, Nat.le_of_ble_eq_true rfl⟩) ⟨fun a U g mk q => ⟨q.1, q.2.calling⟩, va_recv hK hPc (ci := 5) (q0 := 0) rfl rfl, fun U hU hW => ⟨rfl, bt_M.of hU hW hPc hK hN hDc⟩⟩ rfl rfl hl.1 rfl (lv_room (Nat.le_of_ble_eq_true rfl)) dX5_feed_45 ⟨(show 0 + 0 ≤ 0 by omega), (show 0 + 0 ≤ 0 by omega)⟩) hS (fun q _ h => hFc q h) hFc (fun u_45 t9 H1 locs ht hvm hw hB hz1 hk1 hS => ?_)
      obtain ⟨hP1, hD1⟩ := hB
      rw [ht] at hP1
      try dsimp only at hw hP1 hD1
      obtain ⟨hP, hD⟩ := va_join (wr := []) (w1 := [(mo, .inr (5, [.ref (Z 0), .int (nI ((l9 + 12) + 4)), .int (nI al), .ref (Z 1), .int (v 2), .ref (Z 2), .ref (Z 3), .int (nI T), .int (v 3), .int (v 4), .ref (Z 4), .ref (Z 5), .ref (Z 6), .ref (Z 7), .ref (Z 8), .int (v 5), .int (v 6), .int (v 7)])), ((Z 0), .inl (cB, 16000, .inl u_45))]) hP hD [0, 1] [] rfl rfl (by decide) (by decide) hk1 hFc hP1 hD1
      clear hP1 hD1 hPc hDc hFc hk1 hz1 hvm
      generalize H1 = H at hP hS ht ⊢
      have hP : va_P D vwCl [(mo, .inr (5, [.ref (Z 0), .int (nI ((l9 + 12) + 4)), .int (nI al), .ref (Z 1), .int (v 2), .ref (Z 2), .ref (Z 3), .int (nI T), .int (v 3), .int (v 4), .ref (Z 4), .ref (Z 5), .ref (Z 6), .ref (Z 7), .ref (Z 8), .int (v 5), .int (v 6), .int (v 7)])), ((Z 0), .inl (cB, 16000, .inl u_45))] H := hP
      have hD : va_D A [(mo, .inr (5, [.ref (Z 0), .int (nI ((l9 + 12) + 4)), .int (nI al), .ref (Z 1), .int (v 2), .ref (Z 2), .ref (Z 3), .int (nI T), .int (v 3), .int (v 4), .ref (Z 4), .ref (Z 5), .ref (Z 6), .ref (Z 7), .ref (Z 8), .int (v 5), .int (v 6), .int (v 7)])), ((Z 0), .inl (cB, 16000, .inl u_45))] := hD
      refine W.widen (k := 0) (n := 0) (Nat.le_refl _) (Nat.le_refl _) ?_
      have hw_45 := hw
      have hP : va_P D vwCl [(mo, .inr (5, [.ref (Z 0), .int (nI (l9 + 16)), .int (nI al), .ref (Z 1), .int (v 2), .ref (Z 2), .ref (Z 3), .int (nI T), .int (v 3), .int (v 4), .ref (Z 4), .ref (Z 5), .ref (Z 6), .ref (Z 7), .ref (Z 8), .int (v 5), .int (v 6), .int (v 7)])), ((Z 0), .inl (cB, 16000, .inl u_45))] H := hP
      have hD : va_D A [(mo, .inr (5, [.ref (Z 0), .int (nI (l9 + 16)), .int (nI al), .ref (Z 1), .int (v 2), .ref (Z 2), .ref (Z 3), .int (nI T), .int (v 3), .int (v 4), .ref (Z 4), .ref (Z 5), .ref (Z 6), .ref (Z 7), .ref (Z 8), .int (v 5), .int (v 6), .int (v 7)])), ((Z 0), .inl (cB, 16000, .inl u_45))] := hD
      refine lv_aload_n hx hb dX5_feed_48 rfl (lv_at hl 0 rfl) ?_
      refine lv_iload hx hb dX5_feed_49 (lv_at hl 5 rfl) ?_
      have hPc := hP.sub (ws' := [(mo, .inr (5, [.ref (Z 0), .int (nI (l9 + 16)), .int (nI al), .ref (Z 1), .int (v 2), .ref (Z 2), .ref (Z 3), .int (nI T), .int (v 3), .int (v 4), .ref (Z 4), .ref (Z 5), .ref (Z 6), .ref (Z 7), .ref (Z 8), .int (v 5), .int (v 6), .int (v 7)])), ((Z 0), .inl (cB, 16000, .inl u_45))]) [0, 1] rfl
      have hDc := hD.sub (ws' := [(mo, .inr (5, [.ref (Z 0), .int (nI (l9 + 16)), .int (nI al), .ref (Z 1), .int (v 2), .ref (Z 2), .ref (Z 3), .int (nI T), .int (v 3), .int (v 4), .ref (Z 4), .ref (Z 5), .ref (Z 6), .ref (Z 7), .ref (Z 8), .int (v 5), .int (v 6), .int (v 7)])), ((Z 0), .inl (cB, 16000, .inl u_45))]) [0, 1] (by decide) rfl
      have hFc := va_free (wc := [(mo, .inr (5, [.ref (Z 0), .int (nI (l9 + 16)), .int (nI al), .ref (Z 1), .int (v 2), .ref (Z 2), .ref (Z 3), .int (nI T), .int (v 3), .int (v 4), .ref (Z 4), .ref (Z 5), .ref (Z 6), .ref (Z 7), .ref (Z 8), .int (v 5), .int (v 6), .int (v 7)])), ((Z 0), .inl (cB, 16000, .inl u_45))]) hD hS hA [0, 1] rfl
      refine va_callv (va_runV (As := [.int x5]) (rest := []) ⟨hx, hb, hml, hown, hts⟩ (kX5_word l D cB cI mo Z (mk8 (nI 0) (nI al) (v 2) (v 3) (v 4) (v 5) (v 6) (v 7)) T (l9 + 16) u_45 x5 (by omega) H.size) (cwV 1 hts gX5_feed_X5_word rfl rfl rfl (by decide +kernel) ⟨Nat.le_of_ble_eq_true rfl, Nat.le_of_ble_eq_true rfl⟩) ⟨fun a U g mk q => ⟨q.1, q.2.calling⟩, va_recv hK hPc (ci := 5) (q0 := 0) rfl rfl, fun U hU hW => ⟨rfl, bt_M.of hU hW hPc hK hN hDc⟩⟩ rfl rfl hl.1 rfl (lv_room (Nat.le_of_ble_eq_true rfl)) dX5_feed_51 ⟨(show 0 + 0 ≤ 0 by omega), (show 0 + 0 ≤ 0 by omega)⟩) hS (fun q _ h => hFc q h) hFc (fun u_51 t9 H1 locs ht hvm hw hB hz1 hk1 hS => ?_)
      obtain ⟨hP1, hD1⟩ := hB
      rw [ht] at hP1
      try dsimp only at hw hP1 hD1
      obtain ⟨hP, hD⟩ := va_join (wr := []) (w1 := [(mo, .inr (5, [.ref (Z 0), .int (nI ((l9 + 16) + 4)), .int (nI al), .ref (Z 1), .int (v 2), .ref (Z 2), .ref (Z 3), .int (nI T), .int (v 3), .int (v 4), .ref (Z 4), .ref (Z 5), .ref (Z 6), .ref (Z 7), .ref (Z 8), .int (v 5), .int (v 6), .int (v 7)])), ((Z 0), .inl (cB, 16000, .inl u_51))]) hP hD [0, 1] [] rfl rfl (by decide) (by decide) hk1 hFc hP1 hD1
      clear hP1 hD1 hPc hDc hFc hk1 hz1 hvm
      generalize H1 = H at hP hS ht ⊢
      have hP : va_P D vwCl [(mo, .inr (5, [.ref (Z 0), .int (nI ((l9 + 16) + 4)), .int (nI al), .ref (Z 1), .int (v 2), .ref (Z 2), .ref (Z 3), .int (nI T), .int (v 3), .int (v 4), .ref (Z 4), .ref (Z 5), .ref (Z 6), .ref (Z 7), .ref (Z 8), .int (v 5), .int (v 6), .int (v 7)])), ((Z 0), .inl (cB, 16000, .inl u_51))] H := hP
      have hD : va_D A [(mo, .inr (5, [.ref (Z 0), .int (nI ((l9 + 16) + 4)), .int (nI al), .ref (Z 1), .int (v 2), .ref (Z 2), .ref (Z 3), .int (nI T), .int (v 3), .int (v 4), .ref (Z 4), .ref (Z 5), .ref (Z 6), .ref (Z 7), .ref (Z 8), .int (v 5), .int (v 6), .int (v 7)])), ((Z 0), .inl (cB, 16000, .inl u_51))] := hD
      refine W.widen (k := 0) (n := 0) (Nat.le_refl _) (Nat.le_refl _) ?_
      have hw_51 := hw
      have hP : va_P D vwCl [(mo, .inr (5, [.ref (Z 0), .int (nI (l9 + 20)), .int (nI al), .ref (Z 1), .int (v 2), .ref (Z 2), .ref (Z 3), .int (nI T), .int (v 3), .int (v 4), .ref (Z 4), .ref (Z 5), .ref (Z 6), .ref (Z 7), .ref (Z 8), .int (v 5), .int (v 6), .int (v 7)])), ((Z 0), .inl (cB, 16000, .inl u_51))] H := hP
      have hD : va_D A [(mo, .inr (5, [.ref (Z 0), .int (nI (l9 + 20)), .int (nI al), .ref (Z 1), .int (v 2), .ref (Z 2), .ref (Z 3), .int (nI T), .int (v 3), .int (v 4), .ref (Z 4), .ref (Z 5), .ref (Z 6), .ref (Z 7), .ref (Z 8), .int (v 5), .int (v 6), .int (v 7)])), ((Z 0), .inl (cB, 16000, .inl u_51))] := hD
      refine lv_aload_n hx hb dX5_feed_54 rfl (lv_at hl 0 rfl) ?_
      refine lv_dup hx hb dX5_feed_55 rfl ?_
      refine va_get (D := D) (ci := 5) (v := .int (nI al)) (C := RX5) (T := TX5) (N := 18) hx hb hts (by decide +kernel) hown hK hP 0 rfl rfl 2 (by decide) (hts (.fieldLink RX5 45 "BodyTextModel" "allFed" "I") (by decide +kernel)) (fun _ h9 => h9) rfl dX5_feed_56 ?_
      refine lv_bipush (v := nI 20) hx hb dX5_feed_59 (by decide) ?_
      refine lv_iadd hx hb dX5_feed_61 ?_
      refine bt_topi (y := nI (al + 20)) (nI_add _ _) ?_
      refine va_put (D := D) (ci := 5) (v := .int (nI (al + 20))) (ty := .int) (C := RX5) (T := TX5) (N := 18) hx hb hts (by decide +kernel) tyX5 tyX5_ok nmX5 hown hK hP hD hS 0 rfl rfl 2 (by decide) (hts (.fieldLink RX5 45 "BodyTextModel" "allFed" "I") (by decide +kernel)) (fun _ h9 => h9) rfl (by decide +kernel) rfl rfl (Nat.le_of_ble_eq_true rfl) dX5_feed_62 (fun H locs hP hD hS => ?_)
      have hP : va_P D vwCl [(mo, .inr (5, [.ref (Z 0), .int (nI (l9 + 20)), .int (nI (al + 20)), .ref (Z 1), .int (v 2), .ref (Z 2), .ref (Z 3), .int (nI T), .int (v 3), .int (v 4), .ref (Z 4), .ref (Z 5), .ref (Z 6), .ref (Z 7), .ref (Z 8), .int (v 5), .int (v 6), .int (v 7)])), ((Z 0), .inl (cB, 16000, .inl u_51))] H := hP
      have hD : va_D A [(mo, .inr (5, [.ref (Z 0), .int (nI (l9 + 20)), .int (nI (al + 20)), .ref (Z 1), .int (v 2), .ref (Z 2), .ref (Z 3), .int (nI T), .int (v 3), .int (v 4), .ref (Z 4), .ref (Z 5), .ref (Z 6), .ref (Z 7), .ref (Z 8), .int (v 5), .int (v 6), .int (v 7)])), ((Z 0), .inl (cB, 16000, .inl u_51))] := hD
      refine lv_aload_n hx hb dX5_feed_65 rfl (lv_at hl 0 rfl) ?_
      refine va_get (D := D) (ci := 5) (v := .int (nI (l9 + 20))) (C := RX5) (T := TX5) (N := 18) hx hb hts (by decide +kernel) hown hK hP 0 rfl rfl 1 (by decide) (hts (.fieldLink RX5 42 "BodyTextModel" "fed" "I") (by decide +kernel)) (fun _ h9 => h9) rfl dX5_feed_66 ?_
      have hP9 := hP.sub (ws' := [(mo, .inr (5, [.ref (Z 0), .int (nI (l9 + 20)), .int (nI (al + 20)), .ref (Z 1), .int (v 2), .ref (Z 2), .ref (Z 3), .int (nI T), .int (v 3), .int (v 4), .ref (Z 4), .ref (Z 5), .ref (Z 6), .ref (Z 7), .ref (Z 8), .int (v 5), .int (v 6), .int (v 7)])), ((Z 0), .inl (cB, 16000, .inl u_51))]) [0, 1] rfl
      have hD9 := hD.sub (ws' := [(mo, .inr (5, [.ref (Z 0), .int (nI (l9 + 20)), .int (nI (al + 20)), .ref (Z 1), .int (v 2), .ref (Z 2), .ref (Z 3), .int (nI T), .int (v 3), .int (v 4), .ref (Z 4), .ref (Z 5), .ref (Z 6), .ref (Z 7), .ref (Z 8), .int (v 5), .int (v 6), .int (v 7)])), ((Z 0), .inl (cB, 16000, .inl u_51))]) [0, 1] (by decide) rfl
      refine W.widen (k := 0) (n := 0) (show 0 ≤ 0 by omega) (show 0 ≤ 0 by omega) ?_
      exact W.iret (v := nI (l9 + 20)) hx hb hr (fun t9 ht hW => ⟨⟨nI (l9 + 20), u_51, rfl, ⟨rfl, (fun j hj => ((((hw_51.1 j (by omega)).trans (hw_45.1 j (by omega))).trans (hw_39.1 j (by omega))).trans (hw_34.1 j (by omega))).trans (hw_29.1 j hj)), ((hw_51.1 l9 (by omega)).trans ((hw_45.1 l9 (by omega)).trans ((hw_39.1 l9 (by omega)).trans ((hw_34.1 l9 (by omega)).trans hw_29.2.1)))), ((hw_51.1 (l9 + 1) (by omega)).trans ((hw_45.1 (l9 + 1) (by omega)).trans ((hw_39.1 (l9 + 1) (by omega)).trans ((hw_34.1 (l9 + 1) (by omega)).trans hw_29.2.2.1)))), ((hw_51.1 (l9 + 1 + 1) (by omega)).trans ((hw_45.1 (l9 + 1 + 1) (by omega)).trans ((hw_39.1 (l9 + 1 + 1) (by omega)).trans ((hw_34.1 (l9 + 1 + 1) (by omega)).trans hw_29.2.2.2.1)))), ((hw_51.1 (l9 + 1 + 1 + 1) (by omega)).trans ((hw_45.1 (l9 + 1 + 1 + 1) (by omega)).trans ((hw_39.1 (l9 + 1 + 1 + 1) (by omega)).trans ((hw_34.1 (l9 + 1 + 1 + 1) (by omega)).trans hw_29.2.2.2.2)))), ((hw_51.1 (l9 + 4) (by omega)).trans ((hw_45.1 (l9 + 4) (by omega)).trans ((hw_39.1 (l9 + 4) (by omega)).trans hw_34.2.1))), ((hw_51.1 (l9 + 4 + 1) (by omega)).trans ((hw_45.1 (l9 + 4 + 1) (by omega)).trans ((hw_39.1 (l9 + 4 + 1) (by omega)).trans hw_34.2.2.1))), ((hw_51.1 (l9 + 4 + 1 + 1) (by omega)).trans ((hw_45.1 (l9 + 4 + 1 + 1) (by omega)).trans ((hw_39.1 (l9 + 4 + 1 + 1) (by omega)).trans hw_34.2.2.2.1))), ((hw_51.1 (l9 + 4 + 1 + 1 + 1) (by omega)).trans ((hw_45.1 (l9 + 4 + 1 + 1 + 1) (by omega)).trans ((hw_39.1 (l9 + 4 + 1 + 1 + 1) (by omega)).trans hw_34.2.2.2.2))), ((hw_51.1 (l9 + 8) (by omega)).trans ((hw_45.1 (l9 + 8) (by omega)).trans hw_39.2.1)), ((hw_51.1 (l9 + 8 + 1) (by omega)).trans ((hw_45.1 (l9 + 8 + 1) (by omega)).trans hw_39.2.2.1)), ((hw_51.1 (l9 + 8 + 1 + 1) (by omega)).trans ((hw_45.1 (l9 + 8 + 1 + 1) (by omega)).trans hw_39.2.2.2.1)), ((hw_51.1 (l9 + 8 + 1 + 1 + 1) (by omega)).trans ((hw_45.1 (l9 + 8 + 1 + 1 + 1) (by omega)).trans hw_39.2.2.2.2)), ((hw_51.1 (l9 + 12) (by omega)).trans hw_45.2.1), ((hw_51.1 (l9 + 12 + 1) (by omega)).trans hw_45.2.2.1), ((hw_51.1 (l9 + 12 + 1 + 1) (by omega)).trans hw_45.2.2.2.1), ((hw_51.1 (l9 + 12 + 1 + 1 + 1) (by omega)).trans hw_45.2.2.2.2), hw_51.2.1, hw_51.2.2.1, hw_51.2.2.2.1, hw_51.2.2.2.2⟩, by rw [ht]; exact hP9, hD9⟩, hS.F ht⟩) hS.2.2 dX5_feed_69
    · have c_22 : ¬ (al + 20 ≤ 65536) := fun h9 => c_22 ((nI_leI (a := al + 20) (b := 65536) (by omega) (by omega)).mpr h9)
      exfalso; omega
