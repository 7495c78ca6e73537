set_option maxHeartbeats 4000000 in
set_option maxRecDepth 100000 in
/-- isName -/
theorem kX5_isName (l : Launch) (D : va_G) (cB cI : ClassId) (mo : Nat) (Z : Nat → Nat) (v : Nat → Int32) (T len : Nat) (gt gf go : Nat → Int32) (BB fr tt : Nat → Nat) (b0 e0 lo : Nat) (htx : ∀ i, i < len → gt i = nI (BB i) ∧ BB i < 128) (hlen : len ≤ 16000) (hlo : lo = 97 ∨ lo = 65) (hb0 : b0 ≤ len + 1) (he0 : e0 ≤ len) : Met l yX5_isName wsX5_isName ({ frames := 0, cells := 0, slots := 0, locals := 0 }) (va_Pc [.ref mo, .int (nI b0), .int (nI e0), .int (nI lo), .int (nI (lo + 25))] (bt_R D cB cI [(mo, .inr (5, [.ref (Z 0), .int (v 0), .int (v 1), .ref (Z 1), .int (v 2), .ref (Z 2), .ref (Z 3), .int (nI T), .int (v 3), .int (v 4), .ref (Z 4), .ref (Z 5), .ref (Z 6), .ref (Z 7), .ref (Z 8), .int (v 5), .int (v 6), .int (v 7)])), ((Z 1), .inl (cB, 16000, .inl gt)), ((Z 2), .inl (cI, 16002, .inl gf)), ((Z 3), .inl (cI, 16002, .inl go))])) (vp_Si (fun r => r = Bt (NmP BB b0 e0 lo))) 0 0 (fun _ => False) := by
  refine Met.ofW (cc := cX5_isName) (maxL := 7) (ret := (some .boolean)) (by decide) rfl ?_
  intro p e s m args below meth c s₁ B hml hv
  obtain ⟨rfl, hP, hK, hN⟩ := hv
  have hx := B.exec
  have hb := B.bytes
  have hr := B.returns
  have hts := atoms_spec (ws := wsX5_isName) B.pre
  have hown : s.vm.findClass RX5 = some m.cls := findClass_of_methodNamed B.named
  have hlocks := B.notSynchronized
  have hl := lv_entry ([.ref mo, .int (nI b0), .int (nI e0), .int (nI lo), .int (nI (lo + 25))]) (n := 7) (Nat.le_of_ble_eq_true rfl)
  rw [lg_entry_eq]
  generalize (lg_sl ([.ref mo, .int (nI b0), .int (nI e0), .int (nI lo), .int (nI (lo + 25))]) ++ List.replicate (7 - (lg_sl ([.ref mo, .int (nI b0), .int (nI e0), .int (nI lo), .int (nI (lo + 25))])).length) Slot.unset).toArray = ls at hl ⊢
  have hl : lv_has ls 7 [(0, .ref mo), (1, .int (nI b0)), (2, .int (nI e0)), (3, .int (nI lo)), (4, .int (nI (lo + 25)))] := hl
  refine bt_genQ (fun Q hQ => ?_)
  refine lv_iload_n hx hb dX5_isName_0 rfl (lv_at hl 1 rfl) ?_
  refine lv_iload_n hx hb dX5_isName_1 rfl (lv_at hl 2 rfl) ?_
  refine lv_icmp_ge (tgt := 34) hx hb dX5_isName_2 (by decide) (fun c_2 => ?_) (fun c_2 => ?_)
  · have c_2 : e0 ≤ b0 := (nI_leI (a := e0) (b := b0) (by omega) (by omega)).mp c_2
    refine lv_iconst (v := nI 0) hx hb dX5_isName_34 (by decide) ?_
    rw [hQ]
    exact W.zret (v := nI 0) hx hb hr (by decide) (fun t9 ht hW => ⟨nI 0, rfl, (Bt_f (fun h => by obtain ⟨g1, g2, g3, g4, -⟩ := h; omega)).symm, ht⟩) (fun _ h => by cases h) dX5_isName_35
  · have c_2 : ¬ (e0 ≤ b0) := fun h9 => c_2 ((nI_leI (a := e0) (b := b0) (by omega) (by omega)).mpr h9)
    refine lv_iload_n hx hb dX5_isName_5 rfl (lv_at hl 2 rfl) ?_
    refine lv_iload_n hx hb dX5_isName_6 rfl (lv_at hl 1 rfl) ?_
    refine lv_isub hx hb dX5_isName_7 ?_
    refine bt_topi (y := nI (e0 - b0)) (pk_sub (by omega)) ?_
    refine lv_bipush (v := nI 24) hx hb dX5_isName_8 (by decide) ?_
    refine lv_icmp_gt (tgt := 34) hx hb dX5_isName_10 (by decide) (fun c_10 => ?_) (fun c_10 => ?_)
    · have c_10 : 24 < e0 - b0 := (nI_ltI (a := 24) (b := e0 - b0) (by omega) (by omega)).mp c_10
      refine lv_iconst (v := nI 0) hx hb dX5_isName_34 (by decide) ?_
      rw [hQ]
      exact W.zret (v := nI 0) hx hb hr (by decide) (fun t9 ht hW => ⟨nI 0, rfl, (Bt_f (fun h => by obtain ⟨g1, g2, g3, g4, -⟩ := h; omega)).symm, ht⟩) (fun _ h => by cases h) dX5_isName_35
    · have c_10 : ¬ (24 < e0 - b0) := fun h9 => c_10 ((nI_ltI (a := 24) (b := e0 - b0) (by omega) (by omega)).mpr h9)
      refine lv_aload_n hx hb dX5_isName_13 rfl (lv_at hl 0 rfl) ?_
      refine va_get (D := D) (ci := 5) (v := .ref (Z 1)) (C := RX5) (T := TX5) (N := 18) hx hb hts (by decide +kernel) hown hK hP 0 rfl rfl 3 (by decide) (hts (.fieldLink RX5 13 "BodyTextModel" "text" "[B") (by decide +kernel)) (fun _ h9 => h9) rfl dX5_isName_14 ?_
      refine lv_iload_n hx hb dX5_isName_17 rfl (lv_at hl 1 rfl) ?_
      refine va_bald hx hb hK hP 1 0 rfl rfl (vp_in_nI (by omega) (by omega)) dX5_isName_18 ?_
      rw [nI_clamp (by omega)]
      have hb9 := htx b0 (by omega)
      refine bt_topi (y := nI (BB b0)) hb9.1 ?_
      refine lv_iload_n hx hb dX5_isName_19 rfl (lv_at hl 3 rfl) ?_
      refine lv_icmp_lt (tgt := 34) hx hb dX5_isName_20 (by decide) (fun c_20 => ?_) (fun c_20 => ?_)
      · have c_20 : (BB b0) < lo := (nI_ltI (a := (BB b0)) (b := lo) (by omega) (by omega)).mp c_20
        refine lv_iconst (v := nI 0) hx hb dX5_isName_34 (by decide) ?_
        rw [hQ]
        exact W.zret (v := nI 0) hx hb hr (by decide) (fun t9 ht hW => ⟨nI 0, rfl, (Bt_f (fun h => by obtain ⟨g1, g2, g3, g4, -⟩ := h; omega)).symm, ht⟩) (fun _ h => by cases h) dX5_isName_35
      · have c_20 : ¬ ((BB b0) < lo) := fun h9 => c_20 ((nI_ltI (a := (BB b0)) (b := lo) (by omega) (by omega)).mpr h9)
        refine lv_aload_n hx hb dX5_isName_23 rfl (lv_at hl 0 rfl) ?_
        refine va_get (D := D) (ci := 5) (v := .ref (Z 1)) (C := RX5) (T := TX5) (N := 18) hx hb hts (by decide +kernel) hown hK hP 0 rfl rfl 3 (by decide) (hts (.fieldLink RX5 13 "BodyTextModel" "text" "[B") (by decide +kernel)) (fun _ h9 => h9) rfl dX5_isName_24 ?_
        refine lv_iload_n hx hb dX5_isName_27 rfl (lv_at hl 1 rfl) ?_
        refine va_bald hx hb hK hP 1 0 rfl rfl (vp_in_nI (by omega) (by omega)) dX5_isName_28 ?_
        rw [nI_clamp (by omega)]
        have hb9 := htx b0 (by omega)
        refine bt_topi (y := nI (BB b0)) hb9.1 ?_
        refine lv_iload hx hb dX5_isName_29 (lv_at hl 4 rfl) ?_
        refine lv_icmp_le (tgt := 36) hx hb dX5_isName_31 (by decide) (fun c_31 => ?_) (fun c_31 => ?_)
        · have c_31 : (BB b0) ≤ (lo + 25) := (nI_leI (a := (BB b0)) (b := (lo + 25)) (by omega) (by omega)).mp c_31
          refine lv_iload_n hx hb dX5_isName_36 rfl (lv_at hl 1 rfl) ?_
          refine lv_istore (lv' := [(5, .int (nI b0)), (0, .ref mo), (1, .int (nI b0)), (2, .int (nI e0)), (3, .int (nI lo)), (4, .int (nI (lo + 25)))]) hx hb dX5_isName_37 hl (by decide) rfl (fun ls hl => ?_)
          have loop_39 : ∀ (fu : Nat) (i : Nat), (e0 + 1 ≤ i + fu) → (b0 ≤ i) → (i ≤ e0) → (∀ j, b0 ≤ j → j < i → npP (BB j)) → ∀ (ls : Array Slot), lv_has ls 7 [(0, .ref mo), (1, .int (nI b0)), (2, .int (nI e0)), (5, .int (nI i))] → W p l e ({ frames := 0, cells := 0, slots := 0, locals := 0 } : Room) s m ([.ref mo, .int (nI b0), .int (nI e0), .int (nI lo), .int (nI (lo + 25))] : List Value).toArray below meth c s.heap [] 0 0 Q (F0 m 39 ls []) := by
            intro fu
            induction fu with
            | zero => intro i hm hi1 hi2 hnp ls hl; exfalso; omega
            | succ fu ih =>
              intro i hm hi1 hi2 hnp ls hl
              refine lv_iload hx hb dX5_isName_39 (lv_at hl 3 rfl) ?_
              refine lv_iload_n hx hb dX5_isName_41 rfl (lv_at hl 2 rfl) ?_
              refine lv_icmp_ge (tgt := 111) hx hb dX5_isName_42 (by decide) (fun c_42 => ?_) (fun c_42 => ?_)
              · have c_42 : e0 ≤ i := (nI_leI (a := e0) (b := i) (by omega) (by omega)).mp c_42
                refine lv_iconst (v := nI 1) hx hb dX5_isName_111 (by decide) ?_
                rw [hQ]
                exact W.zret (v := nI 1) hx hb hr (by decide) (fun t9 ht hW => ⟨nI 1, rfl, (Bt_t ⟨by omega, by omega, by omega, by omega, fun j h1 h2 => hnp j h1 (by omega)⟩).symm, ht⟩) (fun _ h => by cases h) dX5_isName_112
              · have c_42 : ¬ (e0 ≤ i) := fun h9 => c_42 ((nI_leI (a := e0) (b := i) (by omega) (by omega)).mpr h9)
                refine lv_aload_n hx hb dX5_isName_45 rfl (lv_at hl 0 rfl) ?_
                refine va_get (D := D) (ci := 5) (v := .ref (Z 1)) (C := RX5) (T := TX5) (N := 18) hx hb hts (by decide +kernel) hown hK hP 0 rfl rfl 3 (by decide) (hts (.fieldLink RX5 13 "BodyTextModel" "text" "[B") (by decide +kernel)) (fun _ h9 => h9) rfl dX5_isName_46 ?_
                refine lv_iload hx hb dX5_isName_49 (lv_at hl 3 rfl) ?_
                refine va_bald hx hb hK hP 1 0 rfl rfl (vp_in_nI (by omega) (by omega)) dX5_isName_51 ?_
                rw [nI_clamp (by omega)]
                have hb9 := htx i (by omega)
                refine bt_topi (y := nI (BB i)) hb9.1 ?_
                refine lv_istore (lv' := [(6, .int (nI (BB i))), (0, .ref mo), (1, .int (nI b0)), (2, .int (nI e0)), (5, .int (nI i))]) hx hb dX5_isName_52 hl (by decide) rfl (fun ls hl => ?_)
                refine lv_iload hx hb dX5_isName_54 (lv_at hl 0 rfl) ?_
                refine lv_bipush (v := nI 97) hx hb dX5_isName_56 (by decide) ?_
                refine lv_icmp_lt (tgt := 68) hx hb dX5_isName_58 (by decide) (fun c_58 => ?_) (fun c_58 => ?_)
                · have c_58 : (BB i) < 97 := (nI_ltI (a := (BB i)) (b := 97) (by omega) (by omega)).mp c_58
                  refine lv_iload hx hb dX5_isName_68 (lv_at hl 0 rfl) ?_
                  refine lv_bipush (v := nI 65) hx hb dX5_isName_70 (by decide) ?_
                  refine lv_icmp_lt (tgt := 82) hx hb dX5_isName_72 (by decide) (fun c_72 => ?_) (fun c_72 => ?_)
                  · have c_72 : (BB i) < 65 := (nI_ltI (a := (BB i)) (b := 65) (by omega) (by omega)).mp c_72
                    refine lv_iload hx hb dX5_isName_82 (lv_at hl 0 rfl) ?_
                    refine lv_bipush (v := nI 48) hx hb dX5_isName_84 (by decide) ?_
                    refine lv_icmp_lt (tgt := 96) hx hb dX5_isName_86 (by decide) (fun c_86 => ?_) (fun c_86 => ?_)
                    · have c_86 : (BB i) < 48 := (nI_ltI (a := (BB i)) (b := 48) (by omega) (by omega)).mp c_86
                      refine lv_iload hx hb dX5_isName_96 (lv_at hl 0 rfl) ?_
                      refine lv_bipush (v := nI 95) hx hb dX5_isName_98 (by decide) ?_
                      refine lv_icmp_eq (tgt := 105) hx hb dX5_isName_100 (by decide) (fun c_100 => ?_) (fun c_100 => ?_)
                      · have c_100 : (BB i) = 95 := (nI_eq (a := (BB i)) (b := 95) (by omega) (by omega)).mp c_100
                        refine lv_iinc (v := nI (i + 1)) (lv' := [(5, .int (nI (i + 1))), (6, .int (nI (BB i))), (0, .ref mo), (1, .int (nI b0)), (2, .int (nI e0))]) hx hb dX5_isName_105 hl (k := 4) rfl (nI_add i 1) (by decide) rfl (fun ls hl => ?_)
                        refine lv_goto (tgt := 39) hx hb dX5_isName_108 (by decide) ?_
                        exact ih (i + 1) (by omega) (by omega) (by omega) (fun j h1 h2 => by rcases Nat.lt_or_ge j i with q | q; exact hnp j h1 q; rw [show j = i by omega]; unfold npP; omega) ls (lv_sub hl [2, 3, 4, 0] rfl)
                      · have c_100 : ¬ ((BB i) = 95) := fun h9 => c_100 ((nI_eq (a := (BB i)) (b := 95) (by omega) (by omega)).mpr h9)
                        refine lv_iconst (v := nI 0) hx hb dX5_isName_103 (by decide) ?_
                        rw [hQ]
                        exact W.zret (v := nI 0) hx hb hr (by decide) (fun t9 ht hW => ⟨nI 0, rfl, (Bt_f (fun h => by have h9 := h.2.2.2.2 i (by omega) (by omega); unfold npP at h9; omega)).symm, ht⟩) (fun _ h => by cases h) dX5_isName_104
                    · have c_86 : ¬ ((BB i) < 48) := fun h9 => c_86 ((nI_ltI (a := (BB i)) (b := 48) (by omega) (by omega)).mpr h9)
                      refine lv_iload hx hb dX5_isName_89 (lv_at hl 0 rfl) ?_
                      refine lv_bipush (v := nI 57) hx hb dX5_isName_91 (by decide) ?_
                      refine lv_icmp_le (tgt := 105) hx hb dX5_isName_93 (by decide) (fun c_93 => ?_) (fun c_93 => ?_)
                      · have c_93 : (BB i) ≤ 57 := (nI_leI (a := (BB i)) (b := 57) (by omega) (by omega)).mp c_93
                        refine lv_iinc (v := nI (i + 1)) (lv' := [(5, .int (nI (i + 1))), (6, .int (nI (BB i))), (0, .ref mo), (1, .int (nI b0)), (2, .int (nI e0))]) hx hb dX5_isName_105 hl (k := 4) rfl (nI_add i 1) (by decide) rfl (fun ls hl => ?_)
                        refine lv_goto (tgt := 39) hx hb dX5_isName_108 (by decide) ?_
                        exact ih (i + 1) (by omega) (by omega) (by omega) (fun j h1 h2 => by rcases Nat.lt_or_ge j i with q | q; exact hnp j h1 q; rw [show j = i by omega]; unfold npP; omega) ls (lv_sub hl [2, 3, 4, 0] rfl)
                      · have c_93 : ¬ ((BB i) ≤ 57) := fun h9 => c_93 ((nI_leI (a := (BB i)) (b := 57) (by omega) (by omega)).mpr h9)
                        refine lv_iload hx hb dX5_isName_96 (lv_at hl 0 rfl) ?_
                        refine lv_bipush (v := nI 95) hx hb dX5_isName_98 (by decide) ?_
                        refine lv_icmp_eq (tgt := 105) hx hb dX5_isName_100 (by decide) (fun c_100 => ?_) (fun c_100 => ?_)
                        · have c_100 : (BB i) = 95 := (nI_eq (a := (BB i)) (b := 95) (by omega) (by omega)).mp c_100
                          refine lv_iinc (v := nI (i + 1)) (lv' := [(5, .int (nI (i + 1))), (6, .int (nI (BB i))), (0, .ref mo), (1, .int (nI b0)), (2, .int (nI e0))]) hx hb dX5_isName_105 hl (k := 4) rfl (nI_add i 1) (by decide) rfl (fun ls hl => ?_)
                          refine lv_goto (tgt := 39) hx hb dX5_isName_108 (by decide) ?_
                          exact ih (i + 1) (by omega) (by omega) (by omega) (fun j h1 h2 => by rcases Nat.lt_or_ge j i with q | q; exact hnp j h1 q; rw [show j = i by omega]; unfold npP; omega) ls (lv_sub hl [2, 3, 4, 0] rfl)
                        · have c_100 : ¬ ((BB i) = 95) := fun h9 => c_100 ((nI_eq (a := (BB i)) (b := 95) (by omega) (by omega)).mpr h9)
                          refine lv_iconst (v := nI 0) hx hb dX5_isName_103 (by decide) ?_
                          rw [hQ]
                          exact W.zret (v := nI 0) hx hb hr (by decide) (fun t9 ht hW => ⟨nI 0, rfl, (Bt_f (fun h => by have h9 := h.2.2.2.2 i (by omega) (by omega); unfold npP at h9; omega)).symm, ht⟩) (fun _ h => by cases h) dX5_isName_104
                  · have c_72 : ¬ ((BB i) < 65) := fun h9 => c_72 ((nI_ltI (a := (BB i)) (b := 65) (by omega) (by omega)).mpr h9)
                    refine lv_iload hx hb dX5_isName_75 (lv_at hl 0 rfl) ?_
                    refine lv_bipush (v := nI 90) hx hb dX5_isName_77 (by decide) ?_
                    refine lv_icmp_le (tgt := 105) hx hb dX5_isName_79 (by decide) (fun c_79 => ?_) (fun c_79 => ?_)
                    · have c_79 : (BB i) ≤ 90 := (nI_leI (a := (BB i)) (b := 90) (by omega) (by omega)).mp c_79
                      refine lv_iinc (v := nI (i + 1)) (lv' := [(5, .int (nI (i + 1))), (6, .int (nI (BB i))), (0, .ref mo), (1, .int (nI b0)), (2, .int (nI e0))]) hx hb dX5_isName_105 hl (k := 4) rfl (nI_add i 1) (by decide) rfl (fun ls hl => ?_)
                      refine lv_goto (tgt := 39) hx hb dX5_isName_108 (by decide) ?_
                      exact ih (i + 1) (by omega) (by omega) (by omega) (fun j h1 h2 => by rcases Nat.lt_or_ge j i with q | q; exact hnp j h1 q; rw [show j = i by omega]; unfold npP; omega) ls (lv_sub hl [2, 3, 4, 0] rfl)
                    · have c_79 : ¬ ((BB i) ≤ 90) := fun h9 => c_79 ((nI_leI (a := (BB i)) (b := 90) (by omega) (by omega)).mpr h9)
                      refine lv_iload hx hb dX5_isName_82 (lv_at hl 0 rfl) ?_
                      refine lv_bipush (v := nI 48) hx hb dX5_isName_84 (by decide) ?_
                      refine lv_icmp_lt (tgt := 96) hx hb dX5_isName_86 (by decide) (fun c_86 => ?_) (fun c_86 => ?_)
                      · have c_86 : (BB i) < 48 := (nI_ltI (a := (BB i)) (b := 48) (by omega) (by omega)).mp c_86
                        refine lv_iload hx hb dX5_isName_96 (lv_at hl 0 rfl) ?_
                        refine lv_bipush (v := nI 95) hx hb dX5_isName_98 (by decide) ?_
                        refine lv_icmp_eq (tgt := 105) hx hb dX5_isName_100 (by decide) (fun c_100 => ?_) (fun c_100 => ?_)
                        · have c_100 : (BB i) = 95 := (nI_eq (a := (BB i)) (b := 95) (by omega) (by omega)).mp c_100
                          refine lv_iinc (v := nI (i + 1)) (lv' := [(5, .int (nI (i + 1))), (6, .int (nI (BB i))), (0, .ref mo), (1, .int (nI b0)), (2, .int (nI e0))]) hx hb dX5_isName_105 hl (k := 4) rfl (nI_add i 1) (by decide) rfl (fun ls hl => ?_)
                          refine lv_goto (tgt := 39) hx hb dX5_isName_108 (by decide) ?_
                          exact ih (i + 1) (by omega) (by omega) (by omega) (fun j h1 h2 => by rcases Nat.lt_or_ge j i with q | q; exact hnp j h1 q; rw [show j = i by omega]; unfold npP; omega) ls (lv_sub hl [2, 3, 4, 0] rfl)
                        · have c_100 : ¬ ((BB i) = 95) := fun h9 => c_100 ((nI_eq (a := (BB i)) (b := 95) (by omega) (by omega)).mpr h9)
                          refine lv_iconst (v := nI 0) hx hb dX5_isName_103 (by decide) ?_
                          rw [hQ]
                          exact W.zret (v := nI 0) hx hb hr (by decide) (fun t9 ht hW => ⟨nI 0, rfl, (Bt_f (fun h => by have h9 := h.2.2.2.2 i (by omega) (by omega); unfold npP at h9; omega)).symm, ht⟩) (fun _ h => by cases h) dX5_isName_104
                      · have c_86 : ¬ ((BB i) < 48) := fun h9 => c_86 ((nI_ltI (a := (BB i)) (b := 48) (by omega) (by omega)).mpr h9)
                        refine lv_iload hx hb dX5_isName_89 (lv_at hl 0 rfl) ?_
                        refine lv_bipush (v := nI 57) hx hb dX5_isName_91 (by decide) ?_
                        refine lv_icmp_le (tgt := 105) hx hb dX5_isName_93 (by decide) (fun c_93 => ?_) (fun c_93 => ?_)
                        · have c_93 : (BB i) ≤ 57 := (nI_leI (a := (BB i)) (b := 57) (by omega) (by omega)).mp c_93
                          refine lv_iinc (v := nI (i + 1)) (lv' := [(5, .int (nI (i + 1))), (6, .int (nI (BB i))), (0, .ref mo), (1, .int (nI b0)), (2, .int (nI e0))]) hx hb dX5_isName_105 hl (k := 4) rfl (nI_add i 1) (by decide) rfl (fun ls hl => ?_)
                          refine lv_goto (tgt := 39) hx hb dX5_isName_108 (by decide) ?_
                          exact ih (i + 1) (by omega) (by omega) (by omega) (fun j h1 h2 => by rcases Nat.lt_or_ge j i with q | q; exact hnp j h1 q; rw [show j = i by omega]; unfold npP; omega) ls (lv_sub hl [2, 3, 4, 0] rfl)
                        · have c_93 : ¬ ((BB i) ≤ 57) := fun h9 => c_93 ((nI_leI (a := (BB i)) (b := 57) (by omega) (by omega)).mpr h9)
                          refine lv_iload hx hb dX5_isName_96 (lv_at hl 0 rfl) ?_
                          refine lv_bipush (v := nI 95) hx hb dX5_isName_98 (by decide) ?_
                          refine lv_icmp_eq (tgt := 105) hx hb dX5_isName_100 (by decide) (fun c_100 => ?_) (fun c_100 => ?_)
                          · have c_100 : (BB i) = 95 := (nI_eq (a := (BB i)) (b := 95) (by omega) (by omega)).mp c_100
                            refine lv_iinc (v := nI (i + 1)) (lv' := [(5, .int (nI (i + 1))), (6, .int (nI (BB i))), (0, .ref mo), (1, .int (nI b0)), (2, .int (nI e0))]) hx hb dX5_isName_105 hl (k := 4) rfl (nI_add i 1) (by decide) rfl (fun ls hl => ?_)
                            refine lv_goto (tgt := 39) hx hb dX5_isName_108 (by decide) ?_
                            exact ih (i + 1) (by omega) (by omega) (by omega) (fun j h1 h2 => by rcases Nat.lt_or_ge j i with q | q; exact hnp j h1 q; rw [show j = i by omega]; unfold npP; omega) ls (lv_sub hl [2, 3, 4, 0] rfl)
                          · have c_100 : ¬ ((BB i) = 95) := fun h9 => c_100 ((nI_eq (a := (BB i)) (b := 95) (by omega) (by omega)).mpr h9)
                            refine lv_iconst (v := nI 0) hx hb dX5_isName_103 (by decide) ?_
                            rw [hQ]
                            exact W.zret (v := nI 0) hx hb hr (by decide) (fun t9 ht hW => ⟨nI 0, rfl, (Bt_f (fun h => by have h9 := h.2.2.2.2 i (by omega) (by omega); unfold npP at h9; omega)).symm, ht⟩) (fun _ h => by cases h) dX5_isName_104
                · have c_58 : ¬ ((BB i) < 97) := fun h9 => c_58 ((nI_ltI (a := (BB i)) (b := 97) (by omega) (by omega)).mpr h9)
                  refine lv_iload hx hb dX5_isName_61 (lv_at hl 0 rfl) ?_
                  refine lv_bipush (v := nI 122) hx hb dX5_isName_63 (by decide) ?_
                  refine lv_icmp_le (tgt := 105) hx hb dX5_isName_65 (by decide) (fun c_65 => ?_) (fun c_65 => ?_)
                  · have c_65 : (BB i) ≤ 122 := (nI_leI (a := (BB i)) (b := 122) (by omega) (by omega)).mp c_65
                    refine lv_iinc (v := nI (i + 1)) (lv' := [(5, .int (nI (i + 1))), (6, .int (nI (BB i))), (0, .ref mo), (1, .int (nI b0)), (2, .int (nI e0))]) hx hb dX5_isName_105 hl (k := 4) rfl (nI_add i 1) (by decide) rfl (fun ls hl => ?_)
                    refine lv_goto (tgt := 39) hx hb dX5_isName_108 (by decide) ?_
                    exact ih (i + 1) (by omega) (by omega) (by omega) (fun j h1 h2 => by rcases Nat.lt_or_ge j i with q | q; exact hnp j h1 q; rw [show j = i by omega]; unfold npP; omega) ls (lv_sub hl [2, 3, 4, 0] rfl)
                  · have c_65 : ¬ ((BB i) ≤ 122) := fun h9 => c_65 ((nI_leI (a := (BB i)) (b := 122) (by omega) (by omega)).mpr h9)
                    refine lv_iload hx hb dX5_isName_68 (lv_at hl 0 rfl) ?_
                    refine lv_bipush (v := nI 65) hx hb dX5_isName_70 (by decide) ?_
                    refine lv_icmp_lt (tgt := 82) hx hb dX5_isName_72 (by decide) (fun c_72 => ?_) (fun c_72 => ?_)
                    · have c_72 : (BB i) < 65 := (nI_ltI (a := (BB i)) (b := 65) (by omega) (by omega)).mp c_72
                      refine lv_iload hx hb dX5_isName_82 (lv_at hl 0 rfl) ?_
                      refine lv_bipush (v := nI 48) hx hb dX5_isName_84 (by decide) ?_
                      refine lv_icmp_lt (tgt := 96) hx hb dX5_isName_86 (by decide) (fun c_86 => ?_) (fun c_86 => ?_)
                      · have c_86 : (BB i) < 48 := (nI_ltI (a := (BB i)) (b := 48) (by omega) (by omega)).mp c_86
                        refine lv_iload hx hb dX5_isName_96 (lv_at hl 0 rfl) ?_
                        refine lv_bipush (v := nI 95) hx hb dX5_isName_98 (by decide) ?_
                        refine lv_icmp_eq (tgt := 105) hx hb dX5_isName_100 (by decide) (fun c_100 => ?_) (fun c_100 => ?_)
                        · have c_100 : (BB i) = 95 := (nI_eq (a := (BB i)) (b := 95) (by omega) (by omega)).mp c_100
                          refine lv_iinc (v := nI (i + 1)) (lv' := [(5, .int (nI (i + 1))), (6, .int (nI (BB i))), (0, .ref mo), (1, .int (nI b0)), (2, .int (nI e0))]) hx hb dX5_isName_105 hl (k := 4) rfl (nI_add i 1) (by decide) rfl (fun ls hl => ?_)
                          refine lv_goto (tgt := 39) hx hb dX5_isName_108 (by decide) ?_
                          exact ih (i + 1) (by omega) (by omega) (by omega) (fun j h1 h2 => by rcases Nat.lt_or_ge j i with q | q; exact hnp j h1 q; rw [show j = i by omega]; unfold npP; omega) ls (lv_sub hl [2, 3, 4, 0] rfl)
                        · have c_100 : ¬ ((BB i) = 95) := fun h9 => c_100 ((nI_eq (a := (BB i)) (b := 95) (by omega) (by omega)).mpr h9)
                          refine lv_iconst (v := nI 0) hx hb dX5_isName_103 (by decide) ?_
                          rw [hQ]
                          exact W.zret (v := nI 0) hx hb hr (by decide) (fun t9 ht hW => ⟨nI 0, rfl, (Bt_f (fun h => by have h9 := h.2.2.2.2 i (by omega) (by omega); unfold npP at h9; omega)).symm, ht⟩) (fun _ h => by cases h) dX5_isName_104
                      · have c_86 : ¬ ((BB i) < 48) := fun h9 => c_86 ((nI_ltI (a := (BB i)) (b := 48) (by omega) (by omega)).mpr h9)
                        refine lv_iload hx hb dX5_isName_89 (lv_at hl 0 rfl) ?_
                        refine lv_bipush (v := nI 57) hx hb dX5_isName_91 (by decide) ?_
                        refine lv_icmp_le (tgt := 105) hx hb dX5_isName_93 (by decide) (fun c_93 => ?_) (fun c_93 => ?_)
                        · have c_93 : (BB i) ≤ 57 := (nI_leI (a := (BB i)) (b := 57) (by omega) (by omega)).mp c_93
                          refine lv_iinc (v := nI (i + 1)) (lv' := [(5, .int (nI (i + 1))), (6, .int (nI (BB i))), (0, .ref mo), (1, .int (nI b0)), (2, .int (nI e0))]) hx hb dX5_isName_105 hl (k := 4) rfl (nI_add i 1) (by decide) rfl (fun ls hl => ?_)
                          refine lv_goto (tgt := 39) hx hb dX5_isName_108 (by decide) ?_
                          exact ih (i + 1) (by omega) (by omega) (by omega) (fun j h1 h2 => by rcases Nat.lt_or_ge j i with q | q; exact hnp j h1 q; rw [show j = i by omega]; unfold npP; omega) ls (lv_sub hl [2, 3, 4, 0] rfl)
                        · have c_93 : ¬ ((BB i) ≤ 57) := fun h9 => c_93 ((nI_leI (a := (BB i)) (b := 57) (by omega) (by omega)).mpr h9)
                          refine lv_iload hx hb dX5_isName_96 (lv_at hl 0 rfl) ?_
                          refine lv_bipush (v := nI 95) hx hb dX5_isName_98 (by decide) ?_
                          refine lv_icmp_eq (tgt := 105) hx hb dX5_isName_100 (by decide) (fun c_100 => ?_) (fun c_100 => ?_)
                          · have c_100 : (BB i) = 95 := (nI_eq (a := (BB i)) (b := 95) (by omega) (by omega)).mp c_100
                            refine lv_iinc (v := nI (i + 1)) (lv' := [(5, .int (nI (i + 1))), (6, .int (nI (BB i))), (0, .ref mo), (1, .int (nI b0)), (2, .int (nI e0))]) hx hb dX5_isName_105 hl (k := 4) rfl (nI_add i 1) (by decide) rfl (fun ls hl => ?_)
                            refine lv_goto (tgt := 39) hx hb dX5_isName_108 (by decide) ?_
                            exact ih (i + 1) (by omega) (by omega) (by omega) (fun j h1 h2 => by rcases Nat.lt_or_ge j i with q | q; exact hnp j h1 q; rw [show j = i by omega]; unfold npP; omega) ls (lv_sub hl [2, 3, 4, 0] rfl)
                          · have c_100 : ¬ ((BB i) = 95) := fun h9 => c_100 ((nI_eq (a := (BB i)) (b := 95) (by omega) (by omega)).mpr h9)
                            refine lv_iconst (v := nI 0) hx hb dX5_isName_103 (by decide) ?_
                            rw [hQ]
                            exact W.zret (v := nI 0) hx hb hr (by decide) (fun t9 ht hW => ⟨nI 0, rfl, (Bt_f (fun h => by have h9 := h.2.2.2.2 i (by omega) (by omega); unfold npP at h9; omega)).symm, ht⟩) (fun _ h => by cases h) dX5_isName_104
                    · have c_72 : ¬ ((BB i) < 65) := fun h9 => c_72 ((nI_ltI (a := (BB i)) (b := 65) (by omega) (by omega)).mpr h9)
                      refine lv_iload hx hb dX5_isName_75 (lv_at hl 0 rfl) ?_
                      refine lv_bipush (v := nI 90) hx hb dX5_isName_77 (by decide) ?_
                      refine lv_icmp_le (tgt := 105) hx hb dX5_isName_79 (by decide) (fun c_79 => ?_) (fun c_79 => ?_)
                      · have c_79 : (BB i) ≤ 90 := (nI_leI (a := (BB i)) (b := 90) (by omega) (by omega)).mp c_79
                        refine lv_iinc (v := nI (i + 1)) (lv' := [(5, .int (nI (i + 1))), (6, .int (nI (BB i))), (0, .ref mo), (1, .int (nI b0)), (2, .int (nI e0))]) hx hb dX5_isName_105 hl (k := 4) rfl (nI_add i 1) (by decide) rfl (fun ls hl => ?_)
                        refine lv_goto (tgt := 39) hx hb dX5_isName_108 (by decide) ?_
                        exact ih (i + 1) (by omega) (by omega) (by omega) (fun j h1 h2 => by rcases Nat.lt_or_ge j i with q | q; exact hnp j h1 q; rw [show j = i by omega]; unfold npP; omega) ls (lv_sub hl [2, 3, 4, 0] rfl)
                      · have c_79 : ¬ ((BB i) ≤ 90) := fun h9 => c_79 ((nI_leI (a := (BB i)) (b := 90) (by omega) (by omega)).mpr h9)
                        refine lv_iload hx hb dX5_isName_82 (lv_at hl 0 rfl) ?_
                        refine lv_bipush (v := nI 48) hx hb dX5_isName_84 (by decide) ?_
                        refine lv_icmp_lt (tgt := 96) hx hb dX5_isName_86 (by decide) (fun c_86 => ?_) (fun c_86 => ?_)
                        · have c_86 : (BB i) < 48 := (nI_ltI (a := (BB i)) (b := 48) (by omega) (by omega)).mp c_86
                          refine lv_iload hx hb dX5_isName_96 (lv_at hl 0 rfl) ?_
                          refine lv_bipush (v := nI 95) hx hb dX5_isName_98 (by decide) ?_
                          refine lv_icmp_eq (tgt := 105) hx hb dX5_isName_100 (by decide) (fun c_100 => ?_) (fun c_100 => ?_)
                          · have c_100 : (BB i) = 95 := (nI_eq (a := (BB i)) (b := 95) (by omega) (by omega)).mp c_100
                            refine lv_iinc (v := nI (i + 1)) (lv' := [(5, .int (nI (i + 1))), (6, .int (nI (BB i))), (0, .ref mo), (1, .int (nI b0)), (2, .int (nI e0))]) hx hb dX5_isName_105 hl (k := 4) rfl (nI_add i 1) (by decide) rfl (fun ls hl => ?_)
                            refine lv_goto (tgt := 39) hx hb dX5_isName_108 (by decide) ?_
                            exact ih (i + 1) (by omega) (by omega) (by omega) (fun j h1 h2 => by rcases Nat.lt_or_ge j i with q | q; exact hnp j h1 q; rw [show j = i by omega]; unfold npP; omega) ls (lv_sub hl [2, 3, 4, 0] rfl)
                          · have c_100 : ¬ ((BB i) = 95) := fun h9 => c_100 ((nI_eq (a := (BB i)) (b := 95) (by omega) (by omega)).mpr h9)
                            refine lv_iconst (v := nI 0) hx hb dX5_isName_103 (by decide) ?_
                            rw [hQ]
                            exact W.zret (v := nI 0) hx hb hr (by decide) (fun t9 ht hW => ⟨nI 0, rfl, (Bt_f (fun h => by have h9 := h.2.2.2.2 i (by omega) (by omega); unfold npP at h9; omega)).symm, ht⟩) (fun _ h => by cases h) dX5_isName_104
                        · have c_86 : ¬ ((BB i) < 48) := fun h9 => c_86 ((nI_ltI (a := (BB i)) (b := 48) (by omega) (by omega)).mpr h9)
                          refine lv_iload hx hb dX5_isName_89 (lv_at hl 0 rfl) ?_
                          refine lv_bipush (v := nI 57) hx hb dX5_isName_91 (by decide) ?_
                          refine lv_icmp_le (tgt := 105) hx hb dX5_isName_93 (by decide) (fun c_93 => ?_) (fun c_93 => ?_)
                          · have c_93 : (BB i) ≤ 57 := (nI_leI (a := (BB i)) (b := 57) (by omega) (by omega)).mp c_93
                            refine lv_iinc (v := nI (i + 1)) (lv' := [(5, .int (nI (i + 1))), (6, .int (nI (BB i))), (0, .ref mo), (1, .int (nI b0)), (2, .int (nI e0))]) hx hb dX5_isName_105 hl (k := 4) rfl (nI_add i 1) (by decide) rfl (fun ls hl => ?_)
                            refine lv_goto (tgt := 39) hx hb dX5_isName_108 (by decide) ?_
                            exact ih (i + 1) (by omega) (by omega) (by omega) (fun j h1 h2 => by rcases Nat.lt_or_ge j i with q | q; exact hnp j h1 q; rw [show j = i by omega]; unfold npP; omega) ls (lv_sub hl [2, 3, 4, 0] rfl)
                          · have c_93 : ¬ ((BB i) ≤ 57) := fun h9 => c_93 ((nI_leI (a := (BB i)) (b := 57) (by omega) (by omega)).mpr h9)
                            refine lv_iload hx hb dX5_isName_96 (lv_at hl 0 rfl) ?_
                            refine lv_bipush (v := nI 95) hx hb dX5_isName_98 (by decide) ?_
                            refine lv_icmp_eq (tgt := 105) hx hb dX5_isName_100 (by decide) (fun c_100 => ?_) (fun c_100 => ?_)
                            · have c_100 : (BB i) = 95 := (nI_eq (a := (BB i)) (b := 95) (by omega) (by omega)).mp c_100
                              refine lv_iinc (v := nI (i + 1)) (lv' := [(5, .int (nI (i + 1))), (6, .int (nI (BB i))), (0, .ref mo), (1, .int (nI b0)), (2, .int (nI e0))]) hx hb dX5_isName_105 hl (k := 4) rfl (nI_add i 1) (by decide) rfl (fun ls hl => ?_)
                              refine lv_goto (tgt := 39) hx hb dX5_isName_108 (by decide) ?_
                              exact ih (i + 1) (by omega) (by omega) (by omega) (fun j h1 h2 => by rcases Nat.lt_or_ge j i with q | q; exact hnp j h1 q; rw [show j = i by omega]; unfold npP; omega) ls (lv_sub hl [2, 3, 4, 0] rfl)
                            · have c_100 : ¬ ((BB i) = 95) := fun h9 => c_100 ((nI_eq (a := (BB i)) (b := 95) (by omega) (by omega)).mpr h9)
                              refine lv_iconst (v := nI 0) hx hb dX5_isName_103 (by decide) ?_
                              rw [hQ]
                              exact W.zret (v := nI 0) hx hb hr (by decide) (fun t9 ht hW => ⟨nI 0, rfl, (Bt_f (fun h => by have h9 := h.2.2.2.2 i (by omega) (by omega); unfold npP at h9; omega)).symm, ht⟩) (fun _ h => by cases h) dX5_isName_104
          exact loop_39 (e0 + 1) b0 (by omega) (by omega) (by omega) (fun j h1 h2 => by omega) ls (lv_sub hl [1, 2, 3, 0] rfl)
        · have c_31 : ¬ ((BB b0) ≤ (lo + 25)) := fun h9 => c_31 ((nI_leI (a := (BB b0)) (b := (lo + 25)) (by omega) (by omega)).mpr h9)
          refine lv_iconst (v := nI 0) hx hb dX5_isName_34 (by decide) ?_
          rw [hQ]
          exact W.zret (v := nI 0) hx hb hr (by decide) (fun t9 ht hW => ⟨nI 0, rfl, (Bt_f (fun h => by obtain ⟨g1, g2, g3, g4, -⟩ := h; omega)).symm, ht⟩) (fun _ h => by cases h) dX5_isName_35
set_option maxHeartbeats 4000000 in
set_option maxRecDepth 100000 in
/-- is(t, s) -/
theorem kX5_is (l : Launch) (D : va_G) (cB cI : ClassId) (mo : Nat) (Z : Nat → Nat) (v : Nat → Int32) (T len : Nat) (gt gf go : Nat → Int32) (BB fr tt : Nat → Nat) (cs : List Nat) (aK aV t : Nat) (htx : ∀ i, i < len → gt i = nI (BB i) ∧ BB i < 128) (hlen : len ≤ 16000) (hT : T ≤ 16000) (htk : ∀ t, t < T → gf t = nI (fr t) ∧ go t = nI (tt t) ∧ fr t < tt t ∧ tt t ≤ len) (hok : bt_ok cs) (hcl : cs.length ≤ 10000) (ht : t < 2 ^ 30) : Met l yX5_is wsX5_is ({ frames := 4, cells := 0, slots := 0, locals := 85 }) (va_Pc [.ref mo, .int (nI t), .ref aK] (bt_RT D cB cI [(mo, .inr (5, [.ref (Z 0), .int (v 0), .int (v 1), .ref (Z 1), .int (v 2), .ref (Z 2), .ref (Z 3), .int (nI T), .int (v 3), .int (v 4), .ref (Z 4), .ref (Z 5), .ref (Z 6), .ref (Z 7), .ref (Z 8), .int (v 5), .int (v 6), .int (v 7)])), ((Z 1), .inl (cB, 16000, .inl gt)), ((Z 2), .inl (cI, 16002, .inl gf)), ((Z 3), .inl (cI, 16002, .inl go))] cs aK aV)) (vp_Si (fun r => r = Bt (t < T ∧ WdP BB (fr t) (tt t) cs))) 0 0 (fun _ => False) := by
  refine Met.ofW (cc := cX5_is) (maxL := 4) (ret := (some .boolean)) (by decide) rfl ?_
  intro p e s m args below meth c s₁ B hml hv
  obtain ⟨rfl, ⟨hP, hK, hN⟩, hT9, hJ⟩ := hv
  have hx := B.exec
  have hb := B.bytes
  have hr := B.returns
  have hts := atoms_spec (ws := wsX5_is) B.pre
  have hown : s.vm.findClass RX5 = some m.cls := findClass_of_methodNamed B.named
  have hlocks := B.notSynchronized
  have hl := lv_entry ([.ref mo, .int (nI t), .ref aK]) (n := 4) (Nat.le_of_ble_eq_true rfl)
  rw [lg_entry_eq]
  generalize (lg_sl ([.ref mo, .int (nI t), .ref aK]) ++ List.replicate (4 - (lg_sl ([.ref mo, .int (nI t), .ref aK])).length) Slot.unset).toArray = ls at hl ⊢
  have hl : lv_has ls 4 [(0, .ref mo), (1, .int (nI t)), (2, .ref aK)] := hl
  have hS : va_S (fun _ => False) s.heap s.heap [] := va_S.rf
  refine bt_genQ (fun Q hQ => ?_)
  refine lv_iload_n hx hb dX5_is_0 rfl (lv_at hl 1 rfl) ?_
  refine lv_aload_n hx hb dX5_is_1 rfl (lv_at hl 0 rfl) ?_
  refine va_get (D := D) (ci := 5) (v := .int (nI T)) (C := RX5) (T := TX5) (N := 18) hx hb hts (by decide +kernel) hown hK hP 0 rfl rfl 7 (by decide) (hts (.fieldLink RX5 56 "BodyTextModel" "tokens" "I") (by decide +kernel)) (fun _ h9 => h9) rfl dX5_is_2 ?_
  refine lv_icmp_ge (tgt := 28) hx hb dX5_is_5 (by decide) (fun c_5 => ?_) (fun c_5 => ?_)
  · have c_5 : T ≤ t := (nI_leI (a := T) (b := t) (by omega) (by omega)).mp c_5
    refine lv_iconst (v := nI 0) hx hb dX5_is_28 (by decide) ?_
    rw [hQ]
    exact W.zret (v := nI 0) hx hb hr (by decide) (fun t9 ht hW => ⟨nI 0, rfl, (Bt_f (fun h => by have := h.1; omega)).symm, ht⟩) (fun _ h => by cases h) dX5_is_29
  · have c_5 : ¬ (T ≤ t) := fun h9 => c_5 ((nI_leI (a := T) (b := t) (by omega) (by omega)).mpr h9)
    obtain ⟨-, -, hf1, hf2⟩ := htk t (by omega)
    refine lv_aload_n hx hb dX5_is_8 rfl (lv_at hl 0 rfl) ?_
    refine va_get (D := D) (ci := 5) (v := .ref (Z 3)) (C := RX5) (T := TX5) (N := 18) hx hb hts (by decide +kernel) hown hK hP 0 rfl rfl 6 (by decide) (hts (.fieldLink RX5 20 "BodyTextModel" "tokenTo" "[I") (by decide +kernel)) (fun _ h9 => h9) rfl dX5_is_9 ?_
    refine lv_iload_n hx hb dX5_is_12 rfl (lv_at hl 1 rfl) ?_
    refine va_iald hx hb hK hP 3 1 rfl rfl (vp_in_nI (by omega) (by omega)) dX5_is_13 ?_
    rw [nI_clamp (by omega)]
    refine bt_topi (y := nI (tt t)) (htk t (by omega)).2.1 ?_
    refine lv_aload_n hx hb dX5_is_14 rfl (lv_at hl 0 rfl) ?_
    refine va_get (D := D) (ci := 5) (v := .ref (Z 2)) (C := RX5) (T := TX5) (N := 18) hx hb hts (by decide +kernel) hown hK hP 0 rfl rfl 5 (by decide) (hts (.fieldLink RX5 16 "BodyTextModel" "tokenFrom" "[I") (by decide +kernel)) (fun _ h9 => h9) rfl dX5_is_15 ?_
    refine lv_iload_n hx hb dX5_is_18 rfl (lv_at hl 1 rfl) ?_
    refine va_iald hx hb hK hP 2 1 rfl rfl (vp_in_nI (by omega) (by omega)) dX5_is_19 ?_
    rw [nI_clamp (by omega)]
    refine bt_topi (y := nI (fr t)) (htk t (by omega)).1 ?_
    refine lv_isub hx hb dX5_is_20 ?_
    refine bt_topi (y := nI ((tt t) - (fr t))) (pk_sub (by omega)) ?_
    refine lv_aload_n hx hb dX5_is_21 rfl (lv_at hl 2 rfl) ?_
    refine vp_callSi (va_runV (As := []) (rest := [.int (nI ((tt t) - (fr t)))]) ⟨hx, hb, hml, hown, hts⟩ (kJ0_length_8abf5 l cs aK aV hok.1) (cwV 0 hts gX5_is_J0_length_8abf5 rfl rfl rfl (by decide +kernel) ⟨Nat.le_of_ble_eq_true rfl, Nat.le_of_ble_eq_true rfl⟩) ⟨fun a U g mk q => ⟨q.1, q.2.calling⟩, bt_Tr hT9, fun U hU hW => ⟨rfl, bt_TJ.of hU hW hT9 hJ⟩⟩ rfl rfl hl.1 rfl (lv_room (Nat.le_of_ble_eq_true rfl)) dX5_is_22 ⟨Nat.zero_le _, Nat.zero_le _⟩).run (fun r_22 hr_22 => ?_)
    subst hr_22
    refine lv_icmp_eq (tgt := 30) hx hb dX5_is_25 (by decide) (fun c_25 => ?_) (fun c_25 => ?_)
    · have c_25 : (tt t) - (fr t) = cs.length := (nI_eq (a := (tt t) - (fr t)) (b := cs.length) (by omega) (by omega)).mp c_25
      refine lv_iconst (v := nI 0) hx hb dX5_is_30 (by decide) ?_
      refine lv_istore_n (lv' := [(3, .int (nI 0)), (0, .ref mo), (1, .int (nI t)), (2, .ref aK)]) hx hb dX5_is_31 rfl hl (by decide) rfl (fun ls hl => ?_)
      have loop_32 : ∀ (fu : Nat) (k : Nat), (cs.length + 1 ≤ k + fu) → (k ≤ cs.length) → (∀ j, j < k → BB (fr t + j) = cs.getD j 0) → ∀ (ls : Array Slot), lv_has ls 4 [(0, .ref mo), (1, .int (nI t)), (2, .ref aK), (3, .int (nI k))] → W p l e ({ frames := 4, cells := 0, slots := 0, locals := 85 } : Room) s m ([.ref mo, .int (nI t), .ref aK] : List Value).toArray below meth c s.heap [] 0 0 Q (F0 m 32 ls []) := by
        intro fu
        induction fu with
        | zero => intro k hm hk hin ls hl; exfalso; omega
        | succ fu ih =>
          intro k hm hk hin ls hl
          have hch := hok.2 k
          refine lv_iload_n hx hb dX5_is_32 rfl (lv_at hl 3 rfl) ?_
          refine lv_aload_n hx hb dX5_is_33 rfl (lv_at hl 2 rfl) ?_
          refine vp_callSi (va_runV (As := []) (rest := [.int (nI k)]) ⟨hx, hb, hml, hown, hts⟩ (kJ0_length_8abf5 l cs aK aV hok.1) (cwV 0 hts gX5_is_J0_length_8abf5 rfl rfl rfl (by decide +kernel) ⟨Nat.le_of_ble_eq_true rfl, Nat.le_of_ble_eq_true rfl⟩) ⟨fun a U g mk q => ⟨q.1, q.2.calling⟩, bt_Tr hT9, fun U hU hW => ⟨rfl, bt_TJ.of hU hW hT9 hJ⟩⟩ rfl rfl hl.1 rfl (lv_room (Nat.le_of_ble_eq_true rfl)) dX5_is_34 ⟨Nat.zero_le _, Nat.zero_le _⟩).run (fun r_34 hr_34 => ?_)
          subst hr_34
          refine lv_icmp_ge (tgt := 69) hx hb dX5_is_37 (by decide) (fun c_37 => ?_) (fun c_37 => ?_)
          · have c_37 : cs.length ≤ k := (nI_leI (a := cs.length) (b := k) (by omega) (by omega)).mp c_37
            refine lv_iconst (v := nI 1) hx hb dX5_is_69 (by decide) ?_
            rw [hQ]
            exact W.zret (v := nI 1) hx hb hr (by decide) (fun t9 ht hW => ⟨nI 1, rfl, (Bt_t ⟨by omega, by omega, fun j hj => hin j (by omega)⟩).symm, ht⟩) (fun _ h => by cases h) dX5_is_70
          · have c_37 : ¬ (cs.length ≤ k) := fun h9 => c_37 ((nI_leI (a := cs.length) (b := k) (by omega) (by omega)).mpr h9)
            refine lv_aload_n hx hb dX5_is_40 rfl (lv_at hl 0 rfl) ?_
            refine va_get (D := D) (ci := 5) (v := .ref (Z 1)) (C := RX5) (T := TX5) (N := 18) hx hb hts (by decide +kernel) hown hK hP 0 rfl rfl 3 (by decide) (hts (.fieldLink RX5 13 "BodyTextModel" "text" "[B") (by decide +kernel)) (fun _ h9 => h9) rfl dX5_is_41 ?_
            refine lv_aload_n hx hb dX5_is_44 rfl (lv_at hl 0 rfl) ?_
            refine va_get (D := D) (ci := 5) (v := .ref (Z 2)) (C := RX5) (T := TX5) (N := 18) hx hb hts (by decide +kernel) hown hK hP 0 rfl rfl 5 (by decide) (hts (.fieldLink RX5 16 "BodyTextModel" "tokenFrom" "[I") (by decide +kernel)) (fun _ h9 => h9) rfl dX5_is_45 ?_
            refine lv_iload_n hx hb dX5_is_48 rfl (lv_at hl 1 rfl) ?_
            refine va_iald hx hb hK hP 2 1 rfl rfl (vp_in_nI (by omega) (by omega)) dX5_is_49 ?_
            rw [nI_clamp (by omega)]
            refine bt_topi (y := nI (fr t)) (htk t (by omega)).1 ?_
            refine lv_iload_n hx hb dX5_is_50 rfl (lv_at hl 3 rfl) ?_
            refine lv_iadd hx hb dX5_is_51 ?_
            refine bt_topi (y := nI ((fr t) + k)) (nI_add _ _) ?_
            refine va_bald hx hb hK hP 1 0 rfl rfl (vp_in_nI (by omega) (by omega)) dX5_is_52 ?_
            rw [nI_clamp (by omega)]
            have hb9 := htx ((fr t) + k) (by omega)
            refine bt_topi (y := nI (BB ((fr t) + k))) hb9.1 ?_
            refine lv_aload_n hx hb dX5_is_53 rfl (lv_at hl 2 rfl) ?_
            refine lv_iload_n hx hb dX5_is_54 rfl (lv_at hl 3 rfl) ?_
            refine vp_callSi (va_runV (As := [.int (nI k)]) (rest := [.int (nI (BB ((fr t) + k)))]) ⟨hx, hb, hml, hown, hts⟩ (kJ0_charAt_5068e l cs aK aV k (by omega) hok) (cwV 1 hts gX5_is_J0_charAt_5068e rfl rfl rfl (by decide +kernel) ⟨Nat.le_of_ble_eq_true rfl, Nat.le_of_ble_eq_true rfl⟩) ⟨fun a U g mk q => ⟨q.1, q.2.calling⟩, bt_Tr hT9, fun U hU hW => ⟨rfl, bt_TJ.of hU hW hT9 hJ⟩⟩ rfl rfl hl.1 rfl (lv_room (Nat.le_of_ble_eq_true rfl)) dX5_is_55 ⟨Nat.zero_le _, Nat.zero_le _⟩).run (fun r_55 hr_55 => ?_)
            subst hr_55
            refine lv_icmp_eq (tgt := 63) hx hb dX5_is_58 (by decide) (fun c_58 => ?_) (fun c_58 => ?_)
            · have c_58 : (BB ((fr t) + k)) = (cs.getD k 0) := (nI_eq (a := (BB ((fr t) + k))) (b := (cs.getD k 0)) (by omega) (by omega)).mp c_58
              refine lv_iinc (v := nI (k + 1)) (lv' := [(3, .int (nI (k + 1))), (0, .ref mo), (1, .int (nI t)), (2, .ref aK)]) hx hb dX5_is_63 hl (k := 3) rfl (nI_add k 1) (by decide) rfl (fun ls hl => ?_)
              refine lv_goto (tgt := 32) hx hb dX5_is_66 (by decide) ?_
              exact ih (k + 1) (by omega) (by omega) (fun j hj => by rcases Nat.lt_or_ge j k with q | q; exact hin j q; rw [show j = k by omega]; exact c_58) ls (lv_sub hl [1, 2, 3, 0] rfl)
            · have c_58 : ¬ ((BB ((fr t) + k)) = (cs.getD k 0)) := fun h9 => c_58 ((nI_eq (a := (BB ((fr t) + k))) (b := (cs.getD k 0)) (by omega) (by omega)).mpr h9)
              refine lv_iconst (v := nI 0) hx hb dX5_is_61 (by decide) ?_
              rw [hQ]
              exact W.zret (v := nI 0) hx hb hr (by decide) (fun t9 ht hW => ⟨nI 0, rfl, (Bt_f (fun h => c_58 (h.2.2 k (by omega)))).symm, ht⟩) (fun _ h => by cases h) dX5_is_62
      exact loop_32 (cs.length + 1) 0 (by omega) (by omega) (fun j hj => by omega) ls (lv_sub hl [1, 2, 3, 0] rfl)
    · have c_25 : ¬ ((tt t) - (fr t) = cs.length) := fun h9 => c_25 ((nI_eq (a := (tt t) - (fr t)) (b := cs.length) (by omega) (by omega)).mpr h9)
      refine lv_iconst (v := nI 0) hx hb dX5_is_28 (by decide) ?_
      rw [hQ]
      exact W.zret (v := nI 0) hx hb hr (by decide) (fun t9 ht hW => ⟨nI 0, rfl, (Bt_f (fun h => by have := h.2.1; omega)).symm, ht⟩) (fun _ h => by cases h) dX5_is_29
set_option maxHeartbeats 4000000 in
set_option maxRecDepth 100000 in
/-- X5_isSmallName -/
theorem kX5_isSmallName (l : Launch) (D : va_G) (cB cI : ClassId) (mo : Nat) (Z : Nat → Nat) (v : Nat → Int32) (T len : Nat) (gt gf go : Nat → Int32) (BB fr tt : Nat → Nat) (t : Nat) (htx : ∀ i, i < len → gt i = nI (BB i) ∧ BB i < 128) (hlen : len ≤ 16000) (hT : T ≤ 16000) (htk : ∀ t, t < T → gf t = nI (fr t) ∧ go t = nI (tt t) ∧ fr t < tt t ∧ tt t ≤ len) (ht : t < 2 ^ 30) : Met l yX5_isSmallName wsX5_isSmallName ({ frames := 1, cells := 0, slots := 0, locals := 26 }) (va_Pc [.ref mo, .int (nI t)] (bt_R D cB cI [(mo, .inr (5, [.ref (Z 0), .int (v 0), .int (v 1), .ref (Z 1), .int (v 2), .ref (Z 2), .ref (Z 3), .int (nI T), .int (v 3), .int (v 4), .ref (Z 4), .ref (Z 5), .ref (Z 6), .ref (Z 7), .ref (Z 8), .int (v 5), .int (v 6), .int (v 7)])), ((Z 1), .inl (cB, 16000, .inl gt)), ((Z 2), .inl (cI, 16002, .inl gf)), ((Z 3), .inl (cI, 16002, .inl go))])) (vp_Si (fun r => r = Bt (t < T ∧ NmP BB (fr t) (tt t) 97))) 0 0 (fun _ => False) := by
  refine Met.ofW (cc := cX5_isSmallName) (maxL := 2) (ret := (some .boolean)) (by decide) rfl ?_
  intro p e s m args below meth c s₁ B hml hv
  obtain ⟨rfl, hP, hK, hN⟩ := hv
  have hx := B.exec
  have hb := B.bytes
  have hr := B.returns
  have hts := atoms_spec (ws := wsX5_isSmallName) B.pre
  have hown : s.vm.findClass RX5 = some m.cls := findClass_of_methodNamed B.named
  have hlocks := B.notSynchronized
  have hl := lv_entry ([.ref mo, .int (nI t)]) (n := 2) (Nat.le_of_ble_eq_true rfl)
  rw [lg_entry_eq]
  generalize (lg_sl ([.ref mo, .int (nI t)]) ++ List.replicate (2 - (lg_sl ([.ref mo, .int (nI t)])).length) Slot.unset).toArray = ls at hl ⊢
  have hl : lv_has ls 2 [(0, .ref mo), (1, .int (nI t))] := hl
  refine lv_iload_n hx hb dX5_isSmallName_0 rfl (lv_at hl 1 rfl) ?_
  refine lv_aload_n hx hb dX5_isSmallName_1 rfl (lv_at hl 0 rfl) ?_
  refine va_get (D := D) (ci := 5) (v := .int (nI T)) (C := RX5) (T := TX5) (N := 18) hx hb hts (by decide +kernel) hown hK hP 0 rfl rfl 7 (by decide) (hts (.fieldLink RX5 56 "BodyTextModel" "tokens" "I") (by decide +kernel)) (fun _ h9 => h9) rfl dX5_isSmallName_2 ?_
  refine lv_icmp_ge (tgt := 35) hx hb dX5_isSmallName_5 (by decide) (fun c_5 => ?_) (fun c_5 => ?_)
  · have c_5 : T ≤ t := (nI_leI (a := T) (b := t) (by omega) (by omega)).mp c_5
    refine lv_iconst (v := nI 0) hx hb dX5_isSmallName_35 (by decide) ?_
    exact W.zret (v := nI 0) hx hb hr (by decide) (fun t9 ht hW => ⟨nI 0, rfl, (Bt_f (fun h => by have := h.1; omega)).symm, ht⟩) (fun _ h => by cases h) dX5_isSmallName_36
  · have c_5 : ¬ (T ≤ t) := fun h9 => c_5 ((nI_leI (a := T) (b := t) (by omega) (by omega)).mpr h9)
    obtain ⟨-, -, hf1, hf2⟩ := htk t (by omega)
    refine lv_aload_n hx hb dX5_isSmallName_8 rfl (lv_at hl 0 rfl) ?_
    refine lv_aload_n hx hb dX5_isSmallName_9 rfl (lv_at hl 0 rfl) ?_
    refine va_get (D := D) (ci := 5) (v := .ref (Z 2)) (C := RX5) (T := TX5) (N := 18) hx hb hts (by decide +kernel) hown hK hP 0 rfl rfl 5 (by decide) (hts (.fieldLink RX5 16 "BodyTextModel" "tokenFrom" "[I") (by decide +kernel)) (fun _ h9 => h9) rfl dX5_isSmallName_10 ?_
    refine lv_iload_n hx hb dX5_isSmallName_13 rfl (lv_at hl 1 rfl) ?_
    refine va_iald hx hb hK hP 2 1 rfl rfl (vp_in_nI (by omega) (by omega)) dX5_isSmallName_14 ?_
    rw [nI_clamp (by omega)]
    refine bt_topi (y := nI (fr t)) (htk t (by omega)).1 ?_
    refine lv_aload_n hx hb dX5_isSmallName_15 rfl (lv_at hl 0 rfl) ?_
    refine va_get (D := D) (ci := 5) (v := .ref (Z 3)) (C := RX5) (T := TX5) (N := 18) hx hb hts (by decide +kernel) hown hK hP 0 rfl rfl 6 (by decide) (hts (.fieldLink RX5 20 "BodyTextModel" "tokenTo" "[I") (by decide +kernel)) (fun _ h9 => h9) rfl dX5_isSmallName_16 ?_
    refine lv_iload_n hx hb dX5_isSmallName_19 rfl (lv_at hl 1 rfl) ?_
    refine va_iald hx hb hK hP 3 1 rfl rfl (vp_in_nI (by omega) (by omega)) dX5_isSmallName_20 ?_
    rw [nI_clamp (by omega)]
    refine bt_topi (y := nI (tt t)) (htk t (by omega)).2.1 ?_
    refine lv_bipush (v := nI 97) hx hb dX5_isSmallName_21 (by decide) ?_
    refine lv_bipush (v := nI 122) hx hb dX5_isSmallName_23 (by decide) ?_
    have hPc := hP.sub (ws' := [(mo, .inr (5, [.ref (Z 0), .int (v 0), .int (v 1), .ref (Z 1), .int (v 2), .ref (Z 2), .ref (Z 3), .int (nI T), .int (v 3), .int (v 4), .ref (Z 4), .ref (Z 5), .ref (Z 6), .ref (Z 7), .ref (Z 8), .int (v 5), .int (v 6), .int (v 7)])), ((Z 1), .inl (cB, 16000, .inl gt)), ((Z 2), .inl (cI, 16002, .inl gf)), ((Z 3), .inl (cI, 16002, .inl go))]) [0, 1, 2, 3] rfl
    refine vp_callSi (va_runV (As := [.int (nI (fr t)), .int (nI (tt t)), .int (nI 97), .int (nI 122)]) (rest := []) ⟨hx, hb, hml, hown, hts⟩ (kX5_isName l D cB cI mo Z v T len gt gf go BB fr tt (fr t) (tt t) 97 htx hlen (by decide) (by omega) (by omega)) (cwV 4 hts gX5_isSmallName_X5_isName rfl rfl rfl (by decide +kernel) ⟨Nat.le_of_ble_eq_true rfl, Nat.le_of_ble_eq_true rfl⟩) ⟨fun a U g mk q => ⟨q.1, q.2.calling⟩, va_recv hK hPc (ci := 5) (q0 := 0) rfl rfl, fun U hU hW => ⟨rfl, bt_R.of hU hW hPc hK hN⟩⟩ rfl rfl hl.1 rfl (lv_room (Nat.le_of_ble_eq_true rfl)) dX5_isSmallName_25 ⟨Nat.zero_le _, Nat.zero_le _⟩).run (fun r_25 hr_25 => ?_)
    subst hr_25
    refine lv_if_eq (tgt := 35) hx hb dX5_isSmallName_28 (by decide) (fun c_28 => ?_) (fun c_28 => ?_)
    · have h_28 : ¬ (NmP BB (fr t) (tt t) 97) := Bt_eq0.mp c_28
      refine lv_iconst (v := nI 0) hx hb dX5_isSmallName_35 (by decide) ?_
      exact W.zret (v := nI 0) hx hb hr (by decide) (fun t9 ht hW => ⟨nI 0, rfl, (Bt_f (fun h => h_28 h.2)).symm, ht⟩) (fun _ h => by cases h) dX5_isSmallName_36
    · have h_28 : NmP BB (fr t) (tt t) 97 := Bt_ne0.mp c_28
      refine lv_iconst (v := nI 1) hx hb dX5_isSmallName_31 (by decide) ?_
      refine lv_goto (tgt := 36) hx hb dX5_isSmallName_32 (by decide) ?_
      exact W.zret (v := nI 1) hx hb hr (by decide) (fun t9 ht hW => ⟨nI 1, rfl, (Bt_t ⟨by omega, h_28⟩).symm, ht⟩) (fun _ h => by cases h) dX5_isSmallName_36
set_option maxHeartbeats 4000000 in
set_option maxRecDepth 100000 in
/-- X5_isClassName -/
theorem kX5_isClassName (l : Launch) (D : va_G) (cB cI : ClassId) (mo : Nat) (Z : Nat → Nat) (v : Nat → Int32) (T len : Nat) (gt gf go : Nat → Int32) (BB fr tt : Nat → Nat) (t : Nat) (htx : ∀ i, i < len → gt i = nI (BB i) ∧ BB i < 128) (hlen : len ≤ 16000) (hT : T ≤ 16000) (htk : ∀ t, t < T → gf t = nI (fr t) ∧ go t = nI (tt t) ∧ fr t < tt t ∧ tt t ≤ len) (ht : t < 2 ^ 30) : Met l yX5_isClassName wsX5_isClassName ({ frames := 1, cells := 0, slots := 0, locals := 26 }) (va_Pc [.ref mo, .int (nI t)] (bt_R D cB cI [(mo, .inr (5, [.ref (Z 0), .int (v 0), .int (v 1), .ref (Z 1), .int (v 2), .ref (Z 2), .ref (Z 3), .int (nI T), .int (v 3), .int (v 4), .ref (Z 4), .ref (Z 5), .ref (Z 6), .ref (Z 7), .ref (Z 8), .int (v 5), .int (v 6), .int (v 7)])), ((Z 1), .inl (cB, 16000, .inl gt)), ((Z 2), .inl (cI, 16002, .inl gf)), ((Z 3), .inl (cI, 16002, .inl go))])) (vp_Si (fun r => r = Bt (t < T ∧ NmP BB (fr t) (tt t) 65))) 0 0 (fun _ => False) := by
  refine Met.ofW (cc := cX5_isClassName) (maxL := 2) (ret := (some .boolean)) (by decide) rfl ?_
  intro p e s m args below meth c s₁ B hml hv
  obtain ⟨rfl, hP, hK, hN⟩ := hv
  have hx := B.exec
  have hb := B.bytes
  have hr := B.returns
  have hts := atoms_spec (ws := wsX5_isClassName) B.pre
  have hown : s.vm.findClass RX5 = some m.cls := findClass_of_methodNamed B.named
  have hlocks := B.notSynchronized
  have hl := lv_entry ([.ref mo, .int (nI t)]) (n := 2) (Nat.le_of_ble_eq_true rfl)
  rw [lg_entry_eq]
  generalize (lg_sl ([.ref mo, .int (nI t)]) ++ List.replicate (2 - (lg_sl ([.ref mo, .int (nI t)])).length) Slot.unset).toArray = ls at hl ⊢
  have hl : lv_has ls 2 [(0, .ref mo), (1, .int (nI t))] := hl
  refine lv_iload_n hx hb dX5_isClassName_0 rfl (lv_at hl 1 rfl) ?_
  refine lv_aload_n hx hb dX5_isClassName_1 rfl (lv_at hl 0 rfl) ?_
  refine va_get (D := D) (ci := 5) (v := .int (nI T)) (C := RX5) (T := TX5) (N := 18) hx hb hts (by decide +kernel) hown hK hP 0 rfl rfl 7 (by decide) (hts (.fieldLink RX5 56 "BodyTextModel" "tokens" "I") (by decide +kernel)) (fun _ h9 => h9) rfl dX5_isClassName_2 ?_
  refine lv_icmp_ge (tgt := 35) hx hb dX5_isClassName_5 (by decide) (fun c_5 => ?_) (fun c_5 => ?_)
  · have c_5 : T ≤ t := (nI_leI (a := T) (b := t) (by omega) (by omega)).mp c_5
    refine lv_iconst (v := nI 0) hx hb dX5_isClassName_35 (by decide) ?_
    exact W.zret (v := nI 0) hx hb hr (by decide) (fun t9 ht hW => ⟨nI 0, rfl, (Bt_f (fun h => by have := h.1; omega)).symm, ht⟩) (fun _ h => by cases h) dX5_isClassName_36
  · have c_5 : ¬ (T ≤ t) := fun h9 => c_5 ((nI_leI (a := T) (b := t) (by omega) (by omega)).mpr h9)
    obtain ⟨-, -, hf1, hf2⟩ := htk t (by omega)
    refine lv_aload_n hx hb dX5_isClassName_8 rfl (lv_at hl 0 rfl) ?_
    refine lv_aload_n hx hb dX5_isClassName_9 rfl (lv_at hl 0 rfl) ?_
    refine va_get (D := D) (ci := 5) (v := .ref (Z 2)) (C := RX5) (T := TX5) (N := 18) hx hb hts (by decide +kernel) hown hK hP 0 rfl rfl 5 (by decide) (hts (.fieldLink RX5 16 "BodyTextModel" "tokenFrom" "[I") (by decide +kernel)) (fun _ h9 => h9) rfl dX5_isClassName_10 ?_
    refine lv_iload_n hx hb dX5_isClassName_13 rfl (lv_at hl 1 rfl) ?_
    refine va_iald hx hb hK hP 2 1 rfl rfl (vp_in_nI (by omega) (by omega)) dX5_isClassName_14 ?_
    rw [nI_clamp (by omega)]
    refine bt_topi (y := nI (fr t)) (htk t (by omega)).1 ?_
    refine lv_aload_n hx hb dX5_isClassName_15 rfl (lv_at hl 0 rfl) ?_
    refine va_get (D := D) (ci := 5) (v := .ref (Z 3)) (C := RX5) (T := TX5) (N := 18) hx hb hts (by decide +kernel) hown hK hP 0 rfl rfl 6 (by decide) (hts (.fieldLink RX5 20 "BodyTextModel" "tokenTo" "[I") (by decide +kernel)) (fun _ h9 => h9) rfl dX5_isClassName_16 ?_
    refine lv_iload_n hx hb dX5_isClassName_19 rfl (lv_at hl 1 rfl) ?_
    refine va_iald hx hb hK hP 3 1 rfl rfl (vp_in_nI (by omega) (by omega)) dX5_isClassName_20 ?_
    rw [nI_clamp (by omega)]
    refine bt_topi (y := nI (tt t)) (htk t (by omega)).2.1 ?_
    refine lv_bipush (v := nI 65) hx hb dX5_isClassName_21 (by decide) ?_
    refine lv_bipush (v := nI 90) hx hb dX5_isClassName_23 (by decide) ?_
    have hPc := hP.sub (ws' := [(mo, .inr (5, [.ref (Z 0), .int (v 0), .int (v 1), .ref (Z 1), .int (v 2), .ref (Z 2), .ref (Z 3), .int (nI T), .int (v 3), .int (v 4), .ref (Z 4), .ref (Z 5), .ref (Z 6), .ref (Z 7), .ref (Z 8), .int (v 5), .int (v 6), .int (v 7)])), ((Z 1), .inl (cB, 16000, .inl gt)), ((Z 2), .inl (cI, 16002, .inl gf)), ((Z 3), .inl (cI, 16002, .inl go))]) [0, 1, 2, 3] rfl
    refine vp_callSi (va_runV (As := [.int (nI (fr t)), .int (nI (tt t)), .int (nI 65), .int (nI 90)]) (rest := []) ⟨hx, hb, hml, hown, hts⟩ (kX5_isName l D cB cI mo Z v T len gt gf go BB fr tt (fr t) (tt t) 65 htx hlen (by decide) (by omega) (by omega)) (cwV 4 hts gX5_isClassName_X5_isName rfl rfl rfl (by decide +kernel) ⟨Nat.le_of_ble_eq_true rfl, Nat.le_of_ble_eq_true rfl⟩) ⟨fun a U g mk q => ⟨q.1, q.2.calling⟩, va_recv hK hPc (ci := 5) (q0 := 0) rfl rfl, fun U hU hW => ⟨rfl, bt_R.of hU hW hPc hK hN⟩⟩ rfl rfl hl.1 rfl (lv_room (Nat.le_of_ble_eq_true rfl)) dX5_isClassName_25 ⟨Nat.zero_le _, Nat.zero_le _⟩).run (fun r_25 hr_25 => ?_)
    subst hr_25
    refine lv_if_eq (tgt := 35) hx hb dX5_isClassName_28 (by decide) (fun c_28 => ?_) (fun c_28 => ?_)
    · have h_28 : ¬ (NmP BB (fr t) (tt t) 65) := Bt_eq0.mp c_28
      refine lv_iconst (v := nI 0) hx hb dX5_isClassName_35 (by decide) ?_
      exact W.zret (v := nI 0) hx hb hr (by decide) (fun t9 ht hW => ⟨nI 0, rfl, (Bt_f (fun h => h_28 h.2)).symm, ht⟩) (fun _ h => by cases h) dX5_isClassName_36
    · have h_28 : NmP BB (fr t) (tt t) 65 := Bt_ne0.mp c_28
      refine lv_iconst (v := nI 1) hx hb dX5_isClassName_31 (by decide) ?_
      refine lv_goto (tgt := 36) hx hb dX5_isClassName_32 (by decide) ?_
      exact W.zret (v := nI 1) hx hb hr (by decide) (fun t9 ht hW => ⟨nI 1, rfl, (Bt_t ⟨by omega, h_28⟩).symm, ht⟩) (fun _ h => by cases h) dX5_isClassName_36
def ArP (BB : Nat → Nat) (s e : Nat) : Prop := s + 2 < e ∧ BB (e - 2) = 91 ∧ BB (e - 1) = 93
def TyP (BB : Nat → Nat) (s e : Nat) : Prop := (ArP BB s e ∧ (WdP BB s (e - 2) [105, 110, 116] ∨ NmP BB s (e - 2) 65)) ∨ (¬ ArP BB s e ∧ (WdP BB s e [105, 110, 116] ∨ NmP BB s e 65))
set_option maxHeartbeats 4000000 in
set_option maxRecDepth 100000 in
/-- isArray -/
theorem kX5_isArray (l : Launch) (D : va_G) (cB cI : ClassId) (mo : Nat) (Z : Nat → Nat) (v : Nat → Int32) (T len : Nat) (gt gf go : Nat → Int32) (BB fr tt : Nat → Nat) (t : Nat) (htx : ∀ i, i < len → gt i = nI (BB i) ∧ BB i < 128) (hlen : len ≤ 16000) (hT : T ≤ 16000) (htk : ∀ t, t < T → gf t = nI (fr t) ∧ go t = nI (tt t) ∧ fr t < tt t ∧ tt t ≤ len) (ht : t < T) : Met l yX5_isArray wsX5_isArray ({ frames := 0, cells := 0, slots := 0, locals := 0 }) (va_Pc [.ref mo, .int (nI t)] (bt_R D cB cI [(mo, .inr (5, [.ref (Z 0), .int (v 0), .int (v 1), .ref (Z 1), .int (v 2), .ref (Z 2), .ref (Z 3), .int (nI T), .int (v 3), .int (v 4), .ref (Z 4), .ref (Z 5), .ref (Z 6), .ref (Z 7), .ref (Z 8), .int (v 5), .int (v 6), .int (v 7)])), ((Z 1), .inl (cB, 16000, .inl gt)), ((Z 2), .inl (cI, 16002, .inl gf)), ((Z 3), .inl (cI, 16002, .inl go))])) (vp_Si (fun r => r = Bt (ArP BB (fr t) (tt t)))) 0 0 (fun _ => False) := by
  refine Met.ofW (cc := cX5_isArray) (maxL := 2) (ret := (some .boolean)) (by decide) rfl ?_
  intro p e s m args below meth c s₁ B hml hv
  obtain ⟨rfl, hP, hK, hN⟩ := hv
  have hx := B.exec
  have hb := B.bytes
  have hr := B.returns
  have hts := atoms_spec (ws := wsX5_isArray) B.pre
  have hown : s.vm.findClass RX5 = some m.cls := findClass_of_methodNamed B.named
  have hlocks := B.notSynchronized
  have hl := lv_entry ([.ref mo, .int (nI t)]) (n := 2) (Nat.le_of_ble_eq_true rfl)
  rw [lg_entry_eq]
  generalize (lg_sl ([.ref mo, .int (nI t)]) ++ List.replicate (2 - (lg_sl ([.ref mo, .int (nI t)])).length) Slot.unset).toArray = ls at hl ⊢
  have hl : lv_has ls 2 [(0, .ref mo), (1, .int (nI t))] := hl
  obtain ⟨-, -, hf1, hf2⟩ := htk t ht
  refine lv_aload_n hx hb dX5_isArray_0 rfl (lv_at hl 0 rfl) ?_
  refine va_get (D := D) (ci := 5) (v := .ref (Z 3)) (C := RX5) (T := TX5) (N := 18) hx hb hts (by decide +kernel) hown hK hP 0 rfl rfl 6 (by decide) (hts (.fieldLink RX5 20 "BodyTextModel" "tokenTo" "[I") (by decide +kernel)) (fun _ h9 => h9) rfl dX5_isArray_1 ?_
  refine lv_iload_n hx hb dX5_isArray_4 rfl (lv_at hl 1 rfl) ?_
  refine va_iald hx hb hK hP 3 1 rfl rfl (vp_in_nI (by omega) (by omega)) dX5_isArray_5 ?_
  rw [nI_clamp (by omega)]
  refine bt_topi (y := nI (tt t)) (htk t (by omega)).2.1 ?_
  refine lv_aload_n hx hb dX5_isArray_6 rfl (lv_at hl 0 rfl) ?_
  refine va_get (D := D) (ci := 5) (v := .ref (Z 2)) (C := RX5) (T := TX5) (N := 18) hx hb hts (by decide +kernel) hown hK hP 0 rfl rfl 5 (by decide) (hts (.fieldLink RX5 16 "BodyTextModel" "tokenFrom" "[I") (by decide +kernel)) (fun _ h9 => h9) rfl dX5_isArray_7 ?_
  refine lv_iload_n hx hb dX5_isArray_10 rfl (lv_at hl 1 rfl) ?_
  refine va_iald hx hb hK hP 2 1 rfl rfl (vp_in_nI (by omega) (by omega)) dX5_isArray_11 ?_
  rw [nI_clamp (by omega)]
  refine bt_topi (y := nI (fr t)) (htk t (by omega)).1 ?_
  refine lv_isub hx hb dX5_isArray_12 ?_
  refine bt_topi (y := nI ((tt t) - (fr t))) (pk_sub (by omega)) ?_
  refine lv_iconst (v := nI 2) hx hb dX5_isArray_13 (by decide) ?_
  refine lv_icmp_le (tgt := 57) hx hb dX5_isArray_14 (by decide) (fun c_14 => ?_) (fun c_14 => ?_)
  · have c_14 : (tt t) - (fr t) ≤ 2 := (nI_leI (a := (tt t) - (fr t)) (b := 2) (by omega) (by omega)).mp c_14
    refine lv_iconst (v := nI 0) hx hb dX5_isArray_57 (by decide) ?_
    exact W.zret (v := nI 0) hx hb hr (by decide) (fun t9 ht hW => ⟨nI 0, rfl, (Bt_f (fun h => by obtain ⟨g1, g2, g3⟩ := h; omega)).symm, ht⟩) (fun _ h => by cases h) dX5_isArray_58
  · have c_14 : ¬ ((tt t) - (fr t) ≤ 2) := fun h9 => c_14 ((nI_leI (a := (tt t) - (fr t)) (b := 2) (by omega) (by omega)).mpr h9)
    refine lv_aload_n hx hb dX5_isArray_17 rfl (lv_at hl 0 rfl) ?_
    refine va_get (D := D) (ci := 5) (v := .ref (Z 1)) (C := RX5) (T := TX5) (N := 18) hx hb hts (by decide +kernel) hown hK hP 0 rfl rfl 3 (by decide) (hts (.fieldLink RX5 13 "BodyTextModel" "text" "[B") (by decide +kernel)) (fun _ h9 => h9) rfl dX5_isArray_18 ?_
    refine lv_aload_n hx hb dX5_isArray_21 rfl (lv_at hl 0 rfl) ?_
    refine va_get (D := D) (ci := 5) (v := .ref (Z 3)) (C := RX5) (T := TX5) (N := 18) hx hb hts (by decide +kernel) hown hK hP 0 rfl rfl 6 (by decide) (hts (.fieldLink RX5 20 "BodyTextModel" "tokenTo" "[I") (by decide +kernel)) (fun _ h9 => h9) rfl dX5_isArray_22 ?_
    refine lv_iload_n hx hb dX5_isArray_25 rfl (lv_at hl 1 rfl) ?_
    refine va_iald hx hb hK hP 3 1 rfl rfl (vp_in_nI (by omega) (by omega)) dX5_isArray_26 ?_
    rw [nI_clamp (by omega)]
    refine bt_topi (y := nI (tt t)) (htk t (by omega)).2.1 ?_
    refine lv_iconst (v := nI 2) hx hb dX5_isArray_27 (by decide) ?_
    refine lv_isub hx hb dX5_isArray_28 ?_
    refine bt_topi (y := nI ((tt t) - 2)) (pk_sub (by omega)) ?_
    refine va_bald hx hb hK hP 1 0 rfl rfl (vp_in_nI (by omega) (by omega)) dX5_isArray_29 ?_
    rw [nI_clamp (by omega)]
    have hb9 := htx ((tt t) - 2) (by omega)
    refine bt_topi (y := nI (BB ((tt t) - 2))) hb9.1 ?_
    refine lv_bipush (v := nI 91) hx hb dX5_isArray_30 (by decide) ?_
    refine lv_icmp_ne (tgt := 57) hx hb dX5_isArray_32 (by decide) (fun c_32 => ?_) (fun c_32 => ?_)
    · have c_32 : ¬ ((BB ((tt t) - 2)) = 91) := fun h9 => c_32 ((nI_eq (a := (BB ((tt t) - 2))) (b := 91) (by omega) (by omega)).mpr h9)
      refine lv_iconst (v := nI 0) hx hb dX5_isArray_57 (by decide) ?_
      exact W.zret (v := nI 0) hx hb hr (by decide) (fun t9 ht hW => ⟨nI 0, rfl, (Bt_f (fun h => by obtain ⟨g1, g2, g3⟩ := h; omega)).symm, ht⟩) (fun _ h => by cases h) dX5_isArray_58
    · have c_32 : (BB ((tt t) - 2)) = 91 := (nI_eq (a := (BB ((tt t) - 2))) (b := 91) (by omega) (by omega)).mp c_32
      refine lv_aload_n hx hb dX5_isArray_35 rfl (lv_at hl 0 rfl) ?_
      refine va_get (D := D) (ci := 5) (v := .ref (Z 1)) (C := RX5) (T := TX5) (N := 18) hx hb hts (by decide +kernel) hown hK hP 0 rfl rfl 3 (by decide) (hts (.fieldLink RX5 13 "BodyTextModel" "text" "[B") (by decide +kernel)) (fun _ h9 => h9) rfl dX5_isArray_36 ?_
      refine lv_aload_n hx hb dX5_isArray_39 rfl (lv_at hl 0 rfl) ?_
      refine va_get (D := D) (ci := 5) (v := .ref (Z 3)) (C := RX5) (T := TX5) (N := 18) hx hb hts (by decide +kernel) hown hK hP 0 rfl rfl 6 (by decide) (hts (.fieldLink RX5 20 "BodyTextModel" "tokenTo" "[I") (by decide +kernel)) (fun _ h9 => h9) rfl dX5_isArray_40 ?_
      refine lv_iload_n hx hb dX5_isArray_43 rfl (lv_at hl 1 rfl) ?_
      refine va_iald hx hb hK hP 3 1 rfl rfl (vp_in_nI (by omega) (by omega)) dX5_isArray_44 ?_
      rw [nI_clamp (by omega)]
      refine bt_topi (y := nI (tt t)) (htk t (by omega)).2.1 ?_
      refine lv_iconst (v := nI 1) hx hb dX5_isArray_45 (by decide) ?_
      refine lv_isub hx hb dX5_isArray_46 ?_
      refine bt_topi (y := nI ((tt t) - 1)) (pk_sub (by omega)) ?_
      refine va_bald hx hb hK hP 1 0 rfl rfl (vp_in_nI (by omega) (by omega)) dX5_isArray_47 ?_
      rw [nI_clamp (by omega)]
      have hb9 := htx ((tt t) - 1) (by omega)
      refine bt_topi (y := nI (BB ((tt t) - 1))) hb9.1 ?_
      refine lv_bipush (v := nI 93) hx hb dX5_isArray_48 (by decide) ?_
      refine lv_icmp_ne (tgt := 57) hx hb dX5_isArray_50 (by decide) (fun c_50 => ?_) (fun c_50 => ?_)
      · have c_50 : ¬ ((BB ((tt t) - 1)) = 93) := fun h9 => c_50 ((nI_eq (a := (BB ((tt t) - 1))) (b := 93) (by omega) (by omega)).mpr h9)
        refine lv_iconst (v := nI 0) hx hb dX5_isArray_57 (by decide) ?_
        exact W.zret (v := nI 0) hx hb hr (by decide) (fun t9 ht hW => ⟨nI 0, rfl, (Bt_f (fun h => by obtain ⟨g1, g2, g3⟩ := h; omega)).symm, ht⟩) (fun _ h => by cases h) dX5_isArray_58
      · have c_50 : (BB ((tt t) - 1)) = 93 := (nI_eq (a := (BB ((tt t) - 1))) (b := 93) (by omega) (by omega)).mp c_50
        refine lv_iconst (v := nI 1) hx hb dX5_isArray_53 (by decide) ?_
        refine lv_goto (tgt := 58) hx hb dX5_isArray_54 (by decide) ?_
        exact W.zret (v := nI 1) hx hb hr (by decide) (fun t9 ht hW => ⟨nI 1, rfl, (Bt_t ⟨by omega, by omega, by omega⟩).symm, ht⟩) (fun _ h => by cases h) dX5_isArray_58
set_option maxHeartbeats 4000000 in
set_option maxRecDepth 100000 in
/-- isType -/
theorem kX5_isType (l : Launch) (D : va_G) (cB cI : ClassId) (mo : Nat) (Z : Nat → Nat) (v : Nat → Int32) (T len : Nat) (gt gf go : Nat → Int32) (BB fr tt : Nat → Nat) (t : Nat) (htx : ∀ i, i < len → gt i = nI (BB i) ∧ BB i < 128) (hlen : len ≤ 16000) (hT : T ≤ 16000) (htk : ∀ t, t < T → gf t = nI (fr t) ∧ go t = nI (tt t) ∧ fr t < tt t ∧ tt t ≤ len) (ht : t < 2 ^ 30) : Met l yX5_isType wsX5_isType ({ frames := 1, cells := 0, slots := 0, locals := 26 }) (va_Pc [.ref mo, .int (nI t)] (bt_R D cB cI [(mo, .inr (5, [.ref (Z 0), .int (v 0), .int (v 1), .ref (Z 1), .int (v 2), .ref (Z 2), .ref (Z 3), .int (nI T), .int (v 3), .int (v 4), .ref (Z 4), .ref (Z 5), .ref (Z 6), .ref (Z 7), .ref (Z 8), .int (v 5), .int (v 6), .int (v 7)])), ((Z 1), .inl (cB, 16000, .inl gt)), ((Z 2), .inl (cI, 16002, .inl gf)), ((Z 3), .inl (cI, 16002, .inl go))])) (vp_Si (fun r => r = Bt (t < T ∧ TyP BB (fr t) (tt t)))) 0 0 (fun _ => False) := by
  refine Met.ofW (cc := cX5_isType) (maxL := 4) (ret := (some .boolean)) (by decide) rfl ?_
  intro p e s m args below meth c s₁ B hml hv
  obtain ⟨rfl, hP, hK, hN⟩ := hv
  have hx := B.exec
  have hb := B.bytes
  have hr := B.returns
  have hts := atoms_spec (ws := wsX5_isType) B.pre
  have hown : s.vm.findClass RX5 = some m.cls := findClass_of_methodNamed B.named
  have hlocks := B.notSynchronized
  have hl := lv_entry ([.ref mo, .int (nI t)]) (n := 4) (Nat.le_of_ble_eq_true rfl)
  rw [lg_entry_eq]
  generalize (lg_sl ([.ref mo, .int (nI t)]) ++ List.replicate (4 - (lg_sl ([.ref mo, .int (nI t)])).length) Slot.unset).toArray = ls at hl ⊢
  have hl : lv_has ls 4 [(0, .ref mo), (1, .int (nI t))] := hl
  refine lv_iload_n hx hb dX5_isType_0 rfl (lv_at hl 1 rfl) ?_
  refine lv_aload_n hx hb dX5_isType_1 rfl (lv_at hl 0 rfl) ?_
  refine va_get (D := D) (ci := 5) (v := .int (nI T)) (C := RX5) (T := TX5) (N := 18) hx hb hts (by decide +kernel) hown hK hP 0 rfl rfl 7 (by decide) (hts (.fieldLink RX5 56 "BodyTextModel" "tokens" "I") (by decide +kernel)) (fun _ h9 => h9) rfl dX5_isType_2 ?_
  refine lv_icmp_lt (tgt := 10) hx hb dX5_isType_5 (by decide) (fun c_5 => ?_) (fun c_5 => ?_)
  · have c_5 : t < T := (nI_ltI (a := t) (b := T) (by omega) (by omega)).mp c_5
    obtain ⟨-, -, hf1, hf2⟩ := htk t (by omega)
    refine lv_aload_n hx hb dX5_isType_10 rfl (lv_at hl 0 rfl) ?_
    refine lv_iload_n hx hb dX5_isType_11 rfl (lv_at hl 1 rfl) ?_
    have hPc := hP.sub (ws' := [(mo, .inr (5, [.ref (Z 0), .int (v 0), .int (v 1), .ref (Z 1), .int (v 2), .ref (Z 2), .ref (Z 3), .int (nI T), .int (v 3), .int (v 4), .ref (Z 4), .ref (Z 5), .ref (Z 6), .ref (Z 7), .ref (Z 8), .int (v 5), .int (v 6), .int (v 7)])), ((Z 1), .inl (cB, 16000, .inl gt)), ((Z 2), .inl (cI, 16002, .inl gf)), ((Z 3), .inl (cI, 16002, .inl go))]) [0, 1, 2, 3] rfl
    refine vp_callSi (va_runV (As := [.int (nI t)]) (rest := []) ⟨hx, hb, hml, hown, hts⟩ (kX5_isArray l D cB cI mo Z v T len gt gf go BB fr tt t htx hlen hT htk (by omega)) (cwV 1 hts gX5_isType_X5_isArray rfl rfl rfl (by decide +kernel) ⟨Nat.le_of_ble_eq_true rfl, Nat.le_of_ble_eq_true rfl⟩) ⟨fun a U g mk q => ⟨q.1, q.2.calling⟩, va_recv hK hPc (ci := 5) (q0 := 0) rfl rfl, fun U hU hW => ⟨rfl, bt_R.of hU hW hPc hK hN⟩⟩ rfl rfl hl.1 rfl (lv_room (Nat.le_of_ble_eq_true rfl)) dX5_isType_12 ⟨Nat.zero_le _, Nat.zero_le _⟩).run (fun r_12 hr_12 => ?_)
    subst hr_12
    refine lv_if_eq (tgt := 29) hx hb dX5_isType_15 (by decide) (fun c_15 => ?_) (fun c_15 => ?_)
    · have h_15 : ¬ ArP BB (fr t) (tt t) := Bt_eq0.mp c_15
      refine lv_aload_n hx hb dX5_isType_29 rfl (lv_at hl 0 rfl) ?_
      refine va_get (D := D) (ci := 5) (v := .ref (Z 3)) (C := RX5) (T := TX5) (N := 18) hx hb hts (by decide +kernel) hown hK hP 0 rfl rfl 6 (by decide) (hts (.fieldLink RX5 20 "BodyTextModel" "tokenTo" "[I") (by decide +kernel)) (fun _ h9 => h9) rfl dX5_isType_30 ?_
      refine lv_iload_n hx hb dX5_isType_33 rfl (lv_at hl 1 rfl) ?_
      refine va_iald hx hb hK hP 3 1 rfl rfl (vp_in_nI (by omega) (by omega)) dX5_isType_34 ?_
      rw [nI_clamp (by omega)]
      refine bt_topi (y := nI (tt t)) (htk t (by omega)).2.1 ?_
      refine lv_istore_n (lv' := [(2, .int (nI (tt t))), (0, .ref mo), (1, .int (nI t))]) hx hb dX5_isType_35 rfl hl (by decide) rfl (fun ls hl => ?_)
      refine lv_iload_n hx hb dX5_isType_36 rfl (lv_at hl 0 rfl) ?_
      refine lv_aload_n hx hb dX5_isType_37 rfl (lv_at hl 1 rfl) ?_
      refine va_get (D := D) (ci := 5) (v := .ref (Z 2)) (C := RX5) (T := TX5) (N := 18) hx hb hts (by decide +kernel) hown hK hP 0 rfl rfl 5 (by decide) (hts (.fieldLink RX5 16 "BodyTextModel" "tokenFrom" "[I") (by decide +kernel)) (fun _ h9 => h9) rfl dX5_isType_38 ?_
      refine lv_iload_n hx hb dX5_isType_41 rfl (lv_at hl 2 rfl) ?_
      refine va_iald hx hb hK hP 2 1 rfl rfl (vp_in_nI (by omega) (by omega)) dX5_isType_42 ?_
      rw [nI_clamp (by omega)]
      refine bt_topi (y := nI (fr t)) (htk t (by omega)).1 ?_
      refine lv_isub hx hb dX5_isType_43 ?_
      refine bt_topi (y := nI ((tt t) - (fr t))) (pk_sub (by omega)) ?_
      refine lv_iconst (v := nI 3) hx hb dX5_isType_44 (by decide) ?_
      refine lv_icmp_ne (tgt := 91) hx hb dX5_isType_45 (by decide) (fun c_45 => ?_) (fun c_45 => ?_)
      · have c_45 : ¬ ((tt t) - (fr t) = 3) := fun h9 => c_45 ((nI_eq (a := (tt t) - (fr t)) (b := 3) (by omega) (by omega)).mpr h9)
        refine lv_iconst (v := nI 0) hx hb dX5_isType_91 (by decide) ?_
        refine lv_istore_n (lv' := [(3, .int (nI 0)), (2, .int (nI (tt t))), (0, .ref mo), (1, .int (nI t))]) hx hb dX5_isType_92 rfl hl (by decide) rfl (fun ls hl => ?_)
        refine lv_iload_n hx hb dX5_isType_93 rfl (lv_at hl 0 rfl) ?_
        refine lv_if_ne (tgt := 115) hx hb dX5_isType_94 (by decide) (fun c_94 => ?_) (fun c_94 => ?_)
        · exact absurd (by decide) c_94
        · clear c_94
          refine lv_aload_n hx hb dX5_isType_97 rfl (lv_at hl 2 rfl) ?_
          refine lv_aload_n hx hb dX5_isType_98 rfl (lv_at hl 2 rfl) ?_
          refine va_get (D := D) (ci := 5) (v := .ref (Z 2)) (C := RX5) (T := TX5) (N := 18) hx hb hts (by decide +kernel) hown hK hP 0 rfl rfl 5 (by decide) (hts (.fieldLink RX5 16 "BodyTextModel" "tokenFrom" "[I") (by decide +kernel)) (fun _ h9 => h9) rfl dX5_isType_99 ?_
          refine lv_iload_n hx hb dX5_isType_102 rfl (lv_at hl 3 rfl) ?_
          refine va_iald hx hb hK hP 2 1 rfl rfl (vp_in_nI (by omega) (by omega)) dX5_isType_103 ?_
          rw [nI_clamp (by omega)]
          refine bt_topi (y := nI (fr t)) (htk t (by omega)).1 ?_
          refine lv_iload_n hx hb dX5_isType_104 rfl (lv_at hl 1 rfl) ?_
          refine lv_bipush (v := nI 65) hx hb dX5_isType_105 (by decide) ?_
          refine lv_bipush (v := nI 90) hx hb dX5_isType_107 (by decide) ?_
          have hPc := hP.sub (ws' := [(mo, .inr (5, [.ref (Z 0), .int (v 0), .int (v 1), .ref (Z 1), .int (v 2), .ref (Z 2), .ref (Z 3), .int (nI T), .int (v 3), .int (v 4), .ref (Z 4), .ref (Z 5), .ref (Z 6), .ref (Z 7), .ref (Z 8), .int (v 5), .int (v 6), .int (v 7)])), ((Z 1), .inl (cB, 16000, .inl gt)), ((Z 2), .inl (cI, 16002, .inl gf)), ((Z 3), .inl (cI, 16002, .inl go))]) [0, 1, 2, 3] rfl
          refine vp_callSi (va_runV (As := [.int (nI (fr t)), .int (nI (tt t)), .int (nI 65), .int (nI 90)]) (rest := []) ⟨hx, hb, hml, hown, hts⟩ (kX5_isName l D cB cI mo Z v T len gt gf go BB fr tt (fr t) (tt t) 65 htx hlen (by decide) (by omega) (by omega)) (cwV 4 hts gX5_isType_X5_isName rfl rfl rfl (by decide +kernel) ⟨Nat.le_of_ble_eq_true rfl, Nat.le_of_ble_eq_true rfl⟩) ⟨fun a U g mk q => ⟨q.1, q.2.calling⟩, va_recv hK hPc (ci := 5) (q0 := 0) rfl rfl, fun U hU hW => ⟨rfl, bt_R.of hU hW hPc hK hN⟩⟩ rfl rfl hl.1 rfl (lv_room (Nat.le_of_ble_eq_true rfl)) dX5_isType_109 ⟨Nat.zero_le _, Nat.zero_le _⟩).run (fun r_109 hr_109 => ?_)
          subst hr_109
          refine lv_if_eq (tgt := 119) hx hb dX5_isType_112 (by decide) (fun c_112 => ?_) (fun c_112 => ?_)
          · have h_112 : ¬ NmP BB (fr t) (tt t) 65 := Bt_eq0.mp c_112
            refine lv_iconst (v := nI 0) hx hb dX5_isType_119 (by decide) ?_
            exact W.zret (v := nI 0) hx hb hr (by decide) (fun t9 ht hW => ⟨nI 0, rfl, (Bt_f (fun h => h.2.elim (fun q => h_15 q.1) (fun q => q.2.elim (fun hw9 => by have h9 := hw9.1; simp only [List.length_cons, List.length_nil] at h9; omega) h_112))).symm, ht⟩) (fun _ h => by cases h) dX5_isType_120
          · have h_112 : NmP BB (fr t) (tt t) 65 := Bt_ne0.mp c_112
            refine lv_iconst (v := nI 1) hx hb dX5_isType_115 (by decide) ?_
            refine lv_goto (tgt := 120) hx hb dX5_isType_116 (by decide) ?_
            exact W.zret (v := nI 1) hx hb hr (by decide) (fun t9 ht hW => ⟨nI 1, rfl, (Bt_t ⟨by omega, Or.inr ⟨h_15, Or.inr h_112⟩⟩).symm, ht⟩) (fun _ h => by cases h) dX5_isType_120
      · have c_45 : (tt t) - (fr t) = 3 := (nI_eq (a := (tt t) - (fr t)) (b := 3) (by omega) (by omega)).mp c_45
        refine lv_aload_n hx hb dX5_isType_48 rfl (lv_at hl 1 rfl) ?_
        refine va_get (D := D) (ci := 5) (v := .ref (Z 1)) (C := RX5) (T := TX5) (N := 18) hx hb hts (by decide +kernel) hown hK hP 0 rfl rfl 3 (by decide) (hts (.fieldLink RX5 13 "BodyTextModel" "text" "[B") (by decide +kernel)) (fun _ h9 => h9) rfl dX5_isType_49 ?_
        refine lv_iload_n hx hb dX5_isType_52 rfl (lv_at hl 0 rfl) ?_
        refine lv_iconst (v := nI 3) hx hb dX5_isType_53 (by decide) ?_
        refine lv_isub hx hb dX5_isType_54 ?_
        refine bt_topi (y := nI ((tt t) - 3)) (pk_sub (by omega)) ?_
        refine va_bald hx hb hK hP 1 0 rfl rfl (vp_in_nI (by omega) (by omega)) dX5_isType_55 ?_
        rw [nI_clamp (by omega)]
        have hb9 := htx ((tt t) - 3) (by omega)
        refine bt_topi (y := nI (BB ((tt t) - 3))) hb9.1 ?_
        refine lv_bipush (v := nI 105) hx hb dX5_isType_56 (by decide) ?_
        refine lv_icmp_ne (tgt := 91) hx hb dX5_isType_58 (by decide) (fun c_58 => ?_) (fun c_58 => ?_)
        · have c_58 : ¬ ((BB ((tt t) - 3)) = 105) := fun h9 => c_58 ((nI_eq (a := (BB ((tt t) - 3))) (b := 105) (by omega) (by omega)).mpr h9)
          refine lv_iconst (v := nI 0) hx hb dX5_isType_91 (by decide) ?_
          refine lv_istore_n (lv' := [(3, .int (nI 0)), (2, .int (nI (tt t))), (0, .ref mo), (1, .int (nI t))]) hx hb dX5_isType_92 rfl hl (by decide) rfl (fun ls hl => ?_)
          refine lv_iload_n hx hb dX5_isType_93 rfl (lv_at hl 0 rfl) ?_
          refine lv_if_ne (tgt := 115) hx hb dX5_isType_94 (by decide) (fun c_94 => ?_) (fun c_94 => ?_)
          · exact absurd (by decide) c_94
          · clear c_94
            refine lv_aload_n hx hb dX5_isType_97 rfl (lv_at hl 2 rfl) ?_
            refine lv_aload_n hx hb dX5_isType_98 rfl (lv_at hl 2 rfl) ?_
            refine va_get (D := D) (ci := 5) (v := .ref (Z 2)) (C := RX5) (T := TX5) (N := 18) hx hb hts (by decide +kernel) hown hK hP 0 rfl rfl 5 (by decide) (hts (.fieldLink RX5 16 "BodyTextModel" "tokenFrom" "[I") (by decide +kernel)) (fun _ h9 => h9) rfl dX5_isType_99 ?_
            refine lv_iload_n hx hb dX5_isType_102 rfl (lv_at hl 3 rfl) ?_
            refine va_iald hx hb hK hP 2 1 rfl rfl (vp_in_nI (by omega) (by omega)) dX5_isType_103 ?_
            rw [nI_clamp (by omega)]
            refine bt_topi (y := nI (fr t)) (htk t (by omega)).1 ?_
            refine lv_iload_n hx hb dX5_isType_104 rfl (lv_at hl 1 rfl) ?_
            refine lv_bipush (v := nI 65) hx hb dX5_isType_105 (by decide) ?_
            refine lv_bipush (v := nI 90) hx hb dX5_isType_107 (by decide) ?_
            have hPc := hP.sub (ws' := [(mo, .inr (5, [.ref (Z 0), .int (v 0), .int (v 1), .ref (Z 1), .int (v 2), .ref (Z 2), .ref (Z 3), .int (nI T), .int (v 3), .int (v 4), .ref (Z 4), .ref (Z 5), .ref (Z 6), .ref (Z 7), .ref (Z 8), .int (v 5), .int (v 6), .int (v 7)])), ((Z 1), .inl (cB, 16000, .inl gt)), ((Z 2), .inl (cI, 16002, .inl gf)), ((Z 3), .inl (cI, 16002, .inl go))]) [0, 1, 2, 3] rfl
            refine vp_callSi (va_runV (As := [.int (nI (fr t)), .int (nI (tt t)), .int (nI 65), .int (nI 90)]) (rest := []) ⟨hx, hb, hml, hown, hts⟩ (kX5_isName l D cB cI mo Z v T len gt gf go BB fr tt (fr t) (tt t) 65 htx hlen (by decide) (by omega) (by omega)) (cwV 4 hts gX5_isType_X5_isName rfl rfl rfl (by decide +kernel) ⟨Nat.le_of_ble_eq_true rfl, Nat.le_of_ble_eq_true rfl⟩) ⟨fun a U g mk q => ⟨q.1, q.2.calling⟩, va_recv hK hPc (ci := 5) (q0 := 0) rfl rfl, fun U hU hW => ⟨rfl, bt_R.of hU hW hPc hK hN⟩⟩ rfl rfl hl.1 rfl (lv_room (Nat.le_of_ble_eq_true rfl)) dX5_isType_109 ⟨Nat.zero_le _, Nat.zero_le _⟩).run (fun r_109 hr_109 => ?_)
            subst hr_109
            refine lv_if_eq (tgt := 119) hx hb dX5_isType_112 (by decide) (fun c_112 => ?_) (fun c_112 => ?_)
            · have h_112 : ¬ NmP BB (fr t) (tt t) 65 := Bt_eq0.mp c_112
              refine lv_iconst (v := nI 0) hx hb dX5_isType_119 (by decide) ?_
              exact W.zret (v := nI 0) hx hb hr (by decide) (fun t9 ht hW => ⟨nI 0, rfl, (Bt_f (fun h => h.2.elim (fun q => h_15 q.1) (fun q => q.2.elim (fun hw9 => by have h9 := hw9.1; have h8 := hw9.2 0 (by decide); simp only [List.length_cons, List.length_nil] at h9; exact c_58 (by rw [show (tt t) - 3 = fr t + 0 by omega]; exact h8)) h_112))).symm, ht⟩) (fun _ h => by cases h) dX5_isType_120
            · have h_112 : NmP BB (fr t) (tt t) 65 := Bt_ne0.mp c_112
              refine lv_iconst (v := nI 1) hx hb dX5_isType_115 (by decide) ?_
              refine lv_goto (tgt := 120) hx hb dX5_isType_116 (by decide) ?_
              exact W.zret (v := nI 1) hx hb hr (by decide) (fun t9 ht hW => ⟨nI 1, rfl, (Bt_t ⟨by omega, Or.inr ⟨h_15, Or.inr h_112⟩⟩).symm, ht⟩) (fun _ h => by cases h) dX5_isType_120
        · have c_58 : (BB ((tt t) - 3)) = 105 := (nI_eq (a := (BB ((tt t) - 3))) (b := 105) (by omega) (by omega)).mp c_58
          refine lv_aload_n hx hb dX5_isType_61 rfl (lv_at hl 1 rfl) ?_
          refine va_get (D := D) (ci := 5) (v := .ref (Z 1)) (C := RX5) (T := TX5) (N := 18) hx hb hts (by decide +kernel) hown hK hP 0 rfl rfl 3 (by decide) (hts (.fieldLink RX5 13 "BodyTextModel" "text" "[B") (by decide +kernel)) (fun _ h9 => h9) rfl dX5_isType_62 ?_
          refine lv_iload_n hx hb dX5_isType_65 rfl (lv_at hl 0 rfl) ?_
          refine lv_iconst (v := nI 2) hx hb dX5_isType_66 (by decide) ?_
          refine lv_isub hx hb dX5_isType_67 ?_
          refine bt_topi (y := nI ((tt t) - 2)) (pk_sub (by omega)) ?_
          refine va_bald hx hb hK hP 1 0 rfl rfl (vp_in_nI (by omega) (by omega)) dX5_isType_68 ?_
          rw [nI_clamp (by omega)]
          have hb9 := htx ((tt t) - 2) (by omega)
          refine bt_topi (y := nI (BB ((tt t) - 2))) hb9.1 ?_
          refine lv_bipush (v := nI 110) hx hb dX5_isType_69 (by decide) ?_
          refine lv_icmp_ne (tgt := 91) hx hb dX5_isType_71 (by decide) (fun c_71 => ?_) (fun c_71 => ?_)
          · have c_71 : ¬ ((BB ((tt t) - 2)) = 110) := fun h9 => c_71 ((nI_eq (a := (BB ((tt t) - 2))) (b := 110) (by omega) (by omega)).mpr h9)
            refine lv_iconst (v := nI 0) hx hb dX5_isType_91 (by decide) ?_
            refine lv_istore_n (lv' := [(3, .int (nI 0)), (2, .int (nI (tt t))), (0, .ref mo), (1, .int (nI t))]) hx hb dX5_isType_92 rfl hl (by decide) rfl (fun ls hl => ?_)
            refine lv_iload_n hx hb dX5_isType_93 rfl (lv_at hl 0 rfl) ?_
            refine lv_if_ne (tgt := 115) hx hb dX5_isType_94 (by decide) (fun c_94 => ?_) (fun c_94 => ?_)
            · exact absurd (by decide) c_94
            · clear c_94
              refine lv_aload_n hx hb dX5_isType_97 rfl (lv_at hl 2 rfl) ?_
              refine lv_aload_n hx hb dX5_isType_98 rfl (lv_at hl 2 rfl) ?_
              refine va_get (D := D) (ci := 5) (v := .ref (Z 2)) (C := RX5) (T := TX5) (N := 18) hx hb hts (by decide +kernel) hown hK hP 0 rfl rfl 5 (by decide) (hts (.fieldLink RX5 16 "BodyTextModel" "tokenFrom" "[I") (by decide +kernel)) (fun _ h9 => h9) rfl dX5_isType_99 ?_
              refine lv_iload_n hx hb dX5_isType_102 rfl (lv_at hl 3 rfl) ?_
              refine va_iald hx hb hK hP 2 1 rfl rfl (vp_in_nI (by omega) (by omega)) dX5_isType_103 ?_
              rw [nI_clamp (by omega)]
              refine bt_topi (y := nI (fr t)) (htk t (by omega)).1 ?_
              refine lv_iload_n hx hb dX5_isType_104 rfl (lv_at hl 1 rfl) ?_
              refine lv_bipush (v := nI 65) hx hb dX5_isType_105 (by decide) ?_
              refine lv_bipush (v := nI 90) hx hb dX5_isType_107 (by decide) ?_
              have hPc := hP.sub (ws' := [(mo, .inr (5, [.ref (Z 0), .int (v 0), .int (v 1), .ref (Z 1), .int (v 2), .ref (Z 2), .ref (Z 3), .int (nI T), .int (v 3), .int (v 4), .ref (Z 4), .ref (Z 5), .ref (Z 6), .ref (Z 7), .ref (Z 8), .int (v 5), .int (v 6), .int (v 7)])), ((Z 1), .inl (cB, 16000, .inl gt)), ((Z 2), .inl (cI, 16002, .inl gf)), ((Z 3), .inl (cI, 16002, .inl go))]) [0, 1, 2, 3] rfl
              refine vp_callSi (va_runV (As := [.int (nI (fr t)), .int (nI (tt t)), .int (nI 65), .int (nI 90)]) (rest := []) ⟨hx, hb, hml, hown, hts⟩ (kX5_isName l D cB cI mo Z v T len gt gf go BB fr tt (fr t) (tt t) 65 htx hlen (by decide) (by omega) (by omega)) (cwV 4 hts gX5_isType_X5_isName rfl rfl rfl (by decide +kernel) ⟨Nat.le_of_ble_eq_true rfl, Nat.le_of_ble_eq_true rfl⟩) ⟨fun a U g mk q => ⟨q.1, q.2.calling⟩, va_recv hK hPc (ci := 5) (q0 := 0) rfl rfl, fun U hU hW => ⟨rfl, bt_R.of hU hW hPc hK hN⟩⟩ rfl rfl hl.1 rfl (lv_room (Nat.le_of_ble_eq_true rfl)) dX5_isType_109 ⟨Nat.zero_le _, Nat.zero_le _⟩).run (fun r_109 hr_109 => ?_)
              subst hr_109
              refine lv_if_eq (tgt := 119) hx hb dX5_isType_112 (by decide) (fun c_112 => ?_) (fun c_112 => ?_)
              · have h_112 : ¬ NmP BB (fr t) (tt t) 65 := Bt_eq0.mp c_112
                refine lv_iconst (v := nI 0) hx hb dX5_isType_119 (by decide) ?_
                exact W.zret (v := nI 0) hx hb hr (by decide) (fun t9 ht hW => ⟨nI 0, rfl, (Bt_f (fun h => h.2.elim (fun q => h_15 q.1) (fun q => q.2.elim (fun hw9 => by have h9 := hw9.1; have h8 := hw9.2 1 (by decide); simp only [List.length_cons, List.length_nil] at h9; exact c_71 (by rw [show (tt t) - 2 = fr t + 1 by omega]; exact h8)) h_112))).symm, ht⟩) (fun _ h => by cases h) dX5_isType_120
              · have h_112 : NmP BB (fr t) (tt t) 65 := Bt_ne0.mp c_112
                refine lv_iconst (v := nI 1) hx hb dX5_isType_115 (by decide) ?_
                refine lv_goto (tgt := 120) hx hb dX5_isType_116 (by decide) ?_
                exact W.zret (v := nI 1) hx hb hr (by decide) (fun t9 ht hW => ⟨nI 1, rfl, (Bt_t ⟨by omega, Or.inr ⟨h_15, Or.inr h_112⟩⟩).symm, ht⟩) (fun _ h => by cases h) dX5_isType_120
          · have c_71 : (BB ((tt t) - 2)) = 110 := (nI_eq (a := (BB ((tt t) - 2))) (b := 110) (by omega) (by omega)).mp c_71
            refine lv_aload_n hx hb dX5_isType_74 rfl (lv_at hl 1 rfl) ?_
            refine va_get (D := D) (ci := 5) (v := .ref (Z 1)) (C := RX5) (T := TX5) (N := 18) hx hb hts (by decide +kernel) hown hK hP 0 rfl rfl 3 (by decide) (hts (.fieldLink RX5 13 "BodyTextModel" "text" "[B") (by decide +kernel)) (fun _ h9 => h9) rfl dX5_isType_75 ?_
            refine lv_iload_n hx hb dX5_isType_78 rfl (lv_at hl 0 rfl) ?_
            refine lv_iconst (v := nI 1) hx hb dX5_isType_79 (by decide) ?_
            refine lv_isub hx hb dX5_isType_80 ?_
            refine bt_topi (y := nI ((tt t) - 1)) (pk_sub (by omega)) ?_
            refine va_bald hx hb hK hP 1 0 rfl rfl (vp_in_nI (by omega) (by omega)) dX5_isType_81 ?_
            rw [nI_clamp (by omega)]
            have hb9 := htx ((tt t) - 1) (by omega)
            refine bt_topi (y := nI (BB ((tt t) - 1))) hb9.1 ?_
            refine lv_bipush (v := nI 116) hx hb dX5_isType_82 (by decide) ?_
            refine lv_icmp_ne (tgt := 91) hx hb dX5_isType_84 (by decide) (fun c_84 => ?_) (fun c_84 => ?_)
            · have c_84 : ¬ ((BB ((tt t) - 1)) = 116) := fun h9 => c_84 ((nI_eq (a := (BB ((tt t) - 1))) (b := 116) (by omega) (by omega)).mpr h9)
              refine lv_iconst (v := nI 0) hx hb dX5_isType_91 (by decide) ?_
              refine lv_istore_n (lv' := [(3, .int (nI 0)), (2, .int (nI (tt t))), (0, .ref mo), (1, .int (nI t))]) hx hb dX5_isType_92 rfl hl (by decide) rfl (fun ls hl => ?_)
              refine lv_iload_n hx hb dX5_isType_93 rfl (lv_at hl 0 rfl) ?_
              refine lv_if_ne (tgt := 115) hx hb dX5_isType_94 (by decide) (fun c_94 => ?_) (fun c_94 => ?_)
              · exact absurd (by decide) c_94
              · clear c_94
                refine lv_aload_n hx hb dX5_isType_97 rfl (lv_at hl 2 rfl) ?_
                refine lv_aload_n hx hb dX5_isType_98 rfl (lv_at hl 2 rfl) ?_
                refine va_get (D := D) (ci := 5) (v := .ref (Z 2)) (C := RX5) (T := TX5) (N := 18) hx hb hts (by decide +kernel) hown hK hP 0 rfl rfl 5 (by decide) (hts (.fieldLink RX5 16 "BodyTextModel" "tokenFrom" "[I") (by decide +kernel)) (fun _ h9 => h9) rfl dX5_isType_99 ?_
                refine lv_iload_n hx hb dX5_isType_102 rfl (lv_at hl 3 rfl) ?_
                refine va_iald hx hb hK hP 2 1 rfl rfl (vp_in_nI (by omega) (by omega)) dX5_isType_103 ?_
                rw [nI_clamp (by omega)]
                refine bt_topi (y := nI (fr t)) (htk t (by omega)).1 ?_
                refine lv_iload_n hx hb dX5_isType_104 rfl (lv_at hl 1 rfl) ?_
                refine lv_bipush (v := nI 65) hx hb dX5_isType_105 (by decide) ?_
                refine lv_bipush (v := nI 90) hx hb dX5_isType_107 (by decide) ?_
                have hPc := hP.sub (ws' := [(mo, .inr (5, [.ref (Z 0), .int (v 0), .int (v 1), .ref (Z 1), .int (v 2), .ref (Z 2), .ref (Z 3), .int (nI T), .int (v 3), .int (v 4), .ref (Z 4), .ref (Z 5), .ref (Z 6), .ref (Z 7), .ref (Z 8), .int (v 5), .int (v 6), .int (v 7)])), ((Z 1), .inl (cB, 16000, .inl gt)), ((Z 2), .inl (cI, 16002, .inl gf)), ((Z 3), .inl (cI, 16002, .inl go))]) [0, 1, 2, 3] rfl
                refine vp_callSi (va_runV (As := [.int (nI (fr t)), .int (nI (tt t)), .int (nI 65), .int (nI 90)]) (rest := []) ⟨hx, hb, hml, hown, hts⟩ (kX5_isName l D cB cI mo Z v T len gt gf go BB fr tt (fr t) (tt t) 65 htx hlen (by decide) (by omega) (by omega)) (cwV 4 hts gX5_isType_X5_isName rfl rfl rfl (by decide +kernel) ⟨Nat.le_of_ble_eq_true rfl, Nat.le_of_ble_eq_true rfl⟩) ⟨fun a U g mk q => ⟨q.1, q.2.calling⟩, va_recv hK hPc (ci := 5) (q0 := 0) rfl rfl, fun U hU hW => ⟨rfl, bt_R.of hU hW hPc hK hN⟩⟩ rfl rfl hl.1 rfl (lv_room (Nat.le_of_ble_eq_true rfl)) dX5_isType_109 ⟨Nat.zero_le _, Nat.zero_le _⟩).run (fun r_109 hr_109 => ?_)
                subst hr_109
                refine lv_if_eq (tgt := 119) hx hb dX5_isType_112 (by decide) (fun c_112 => ?_) (fun c_112 => ?_)
                · have h_112 : ¬ NmP BB (fr t) (tt t) 65 := Bt_eq0.mp c_112
                  refine lv_iconst (v := nI 0) hx hb dX5_isType_119 (by decide) ?_
                  exact W.zret (v := nI 0) hx hb hr (by decide) (fun t9 ht hW => ⟨nI 0, rfl, (Bt_f (fun h => h.2.elim (fun q => h_15 q.1) (fun q => q.2.elim (fun hw9 => by have h9 := hw9.1; have h8 := hw9.2 2 (by decide); simp only [List.length_cons, List.length_nil] at h9; exact c_84 (by rw [show (tt t) - 1 = fr t + 2 by omega]; exact h8)) h_112))).symm, ht⟩) (fun _ h => by cases h) dX5_isType_120
                · have h_112 : NmP BB (fr t) (tt t) 65 := Bt_ne0.mp c_112
                  refine lv_iconst (v := nI 1) hx hb dX5_isType_115 (by decide) ?_
                  refine lv_goto (tgt := 120) hx hb dX5_isType_116 (by decide) ?_
                  exact W.zret (v := nI 1) hx hb hr (by decide) (fun t9 ht hW => ⟨nI 1, rfl, (Bt_t ⟨by omega, Or.inr ⟨h_15, Or.inr h_112⟩⟩).symm, ht⟩) (fun _ h => by cases h) dX5_isType_120
            · have c_84 : (BB ((tt t) - 1)) = 116 := (nI_eq (a := (BB ((tt t) - 1))) (b := 116) (by omega) (by omega)).mp c_84
              refine lv_iconst (v := nI 1) hx hb dX5_isType_87 (by decide) ?_
              refine lv_goto (tgt := 92) hx hb dX5_isType_88 (by decide) ?_
              refine lv_istore_n (lv' := [(3, .int (nI 1)), (2, .int (nI (tt t))), (0, .ref mo), (1, .int (nI t))]) hx hb dX5_isType_92 rfl hl (by decide) rfl (fun ls hl => ?_)
              refine lv_iload_n hx hb dX5_isType_93 rfl (lv_at hl 0 rfl) ?_
              refine lv_if_ne (tgt := 115) hx hb dX5_isType_94 (by decide) (fun c_94 => ?_) (fun c_94 => ?_)
              · clear c_94
                refine lv_iconst (v := nI 1) hx hb dX5_isType_115 (by decide) ?_
                refine lv_goto (tgt := 120) hx hb dX5_isType_116 (by decide) ?_
                exact W.zret (v := nI 1) hx hb hr (by decide) (fun t9 ht hW => ⟨nI 1, rfl, (Bt_t ⟨by omega, Or.inr ⟨h_15, Or.inl ⟨by simp only [List.length_cons, List.length_nil]; omega, fun j hj => by rcases (show j = 0 ∨ j = 1 ∨ j = 2 by simp only [List.length_cons, List.length_nil] at hj; omega) with rfl | rfl | rfl; rw [show fr t + 0 = (tt t) - 3 by omega]; exact c_58; rw [show fr t + 1 = (tt t) - 2 by omega]; exact c_71; rw [show fr t + 2 = (tt t) - 1 by omega]; exact c_84⟩⟩⟩).symm, ht⟩) (fun _ h => by cases h) dX5_isType_120
              · exact absurd c_94 (by decide)
    · have h_15 : ArP BB (fr t) (tt t) := Bt_ne0.mp c_15
      have h15a := h_15.1
      refine lv_aload_n hx hb dX5_isType_18 rfl (lv_at hl 0 rfl) ?_
      refine va_get (D := D) (ci := 5) (v := .ref (Z 3)) (C := RX5) (T := TX5) (N := 18) hx hb hts (by decide +kernel) hown hK hP 0 rfl rfl 6 (by decide) (hts (.fieldLink RX5 20 "BodyTextModel" "tokenTo" "[I") (by decide +kernel)) (fun _ h9 => h9) rfl dX5_isType_19 ?_
      refine lv_iload_n hx hb dX5_isType_22 rfl (lv_at hl 1 rfl) ?_
      refine va_iald hx hb hK hP 3 1 rfl rfl (vp_in_nI (by omega) (by omega)) dX5_isType_23 ?_
      rw [nI_clamp (by omega)]
      refine bt_topi (y := nI (tt t)) (htk t (by omega)).2.1 ?_
      refine lv_iconst (v := nI 2) hx hb dX5_isType_24 (by decide) ?_
      refine lv_isub hx hb dX5_isType_25 ?_
      refine bt_topi (y := nI ((tt t) - 2)) (pk_sub (by omega)) ?_
      refine lv_goto (tgt := 35) hx hb dX5_isType_26 (by decide) ?_
      refine lv_istore_n (lv' := [(2, .int (nI ((tt t) - 2))), (0, .ref mo), (1, .int (nI t))]) hx hb dX5_isType_35 rfl hl (by decide) rfl (fun ls hl => ?_)
      refine lv_iload_n hx hb dX5_isType_36 rfl (lv_at hl 0 rfl) ?_
      refine lv_aload_n hx hb dX5_isType_37 rfl (lv_at hl 1 rfl) ?_
      refine va_get (D := D) (ci := 5) (v := .ref (Z 2)) (C := RX5) (T := TX5) (N := 18) hx hb hts (by decide +kernel) hown hK hP 0 rfl rfl 5 (by decide) (hts (.fieldLink RX5 16 "BodyTextModel" "tokenFrom" "[I") (by decide +kernel)) (fun _ h9 => h9) rfl dX5_isType_38 ?_
      refine lv_iload_n hx hb dX5_isType_41 rfl (lv_at hl 2 rfl) ?_
      refine va_iald hx hb hK hP 2 1 rfl rfl (vp_in_nI (by omega) (by omega)) dX5_isType_42 ?_
      rw [nI_clamp (by omega)]
      refine bt_topi (y := nI (fr t)) (htk t (by omega)).1 ?_
      refine lv_isub hx hb dX5_isType_43 ?_
      refine bt_topi (y := nI (((tt t) - 2) - (fr t))) (pk_sub (by omega)) ?_
      refine lv_iconst (v := nI 3) hx hb dX5_isType_44 (by decide) ?_
      refine lv_icmp_ne (tgt := 91) hx hb dX5_isType_45 (by decide) (fun c_45 => ?_) (fun c_45 => ?_)
      · have c_45 : ¬ (((tt t) - 2) - (fr t) = 3) := fun h9 => c_45 ((nI_eq (a := ((tt t) - 2) - (fr t)) (b := 3) (by omega) (by omega)).mpr h9)
        refine lv_iconst (v := nI 0) hx hb dX5_isType_91 (by decide) ?_
        refine lv_istore_n (lv' := [(3, .int (nI 0)), (2, .int (nI ((tt t) - 2))), (0, .ref mo), (1, .int (nI t))]) hx hb dX5_isType_92 rfl hl (by decide) rfl (fun ls hl => ?_)
        refine lv_iload_n hx hb dX5_isType_93 rfl (lv_at hl 0 rfl) ?_
        refine lv_if_ne (tgt := 115) hx hb dX5_isType_94 (by decide) (fun c_94 => ?_) (fun c_94 => ?_)
        · exact absurd (by decide) c_94
        · clear c_94
          refine lv_aload_n hx hb dX5_isType_97 rfl (lv_at hl 2 rfl) ?_
          refine lv_aload_n hx hb dX5_isType_98 rfl (lv_at hl 2 rfl) ?_
          refine va_get (D := D) (ci := 5) (v := .ref (Z 2)) (C := RX5) (T := TX5) (N := 18) hx hb hts (by decide +kernel) hown hK hP 0 rfl rfl 5 (by decide) (hts (.fieldLink RX5 16 "BodyTextModel" "tokenFrom" "[I") (by decide +kernel)) (fun _ h9 => h9) rfl dX5_isType_99 ?_
          refine lv_iload_n hx hb dX5_isType_102 rfl (lv_at hl 3 rfl) ?_
          refine va_iald hx hb hK hP 2 1 rfl rfl (vp_in_nI (by omega) (by omega)) dX5_isType_103 ?_
          rw [nI_clamp (by omega)]
          refine bt_topi (y := nI (fr t)) (htk t (by omega)).1 ?_
          refine lv_iload_n hx hb dX5_isType_104 rfl (lv_at hl 1 rfl) ?_
          refine lv_bipush (v := nI 65) hx hb dX5_isType_105 (by decide) ?_
          refine lv_bipush (v := nI 90) hx hb dX5_isType_107 (by decide) ?_
          have hPc := hP.sub (ws' := [(mo, .inr (5, [.ref (Z 0), .int (v 0), .int (v 1), .ref (Z 1), .int (v 2), .ref (Z 2), .ref (Z 3), .int (nI T), .int (v 3), .int (v 4), .ref (Z 4), .ref (Z 5), .ref (Z 6), .ref (Z 7), .ref (Z 8), .int (v 5), .int (v 6), .int (v 7)])), ((Z 1), .inl (cB, 16000, .inl gt)), ((Z 2), .inl (cI, 16002, .inl gf)), ((Z 3), .inl (cI, 16002, .inl go))]) [0, 1, 2, 3] rfl
          refine vp_callSi (va_runV (As := [.int (nI (fr t)), .int (nI ((tt t) - 2)), .int (nI 65), .int (nI 90)]) (rest := []) ⟨hx, hb, hml, hown, hts⟩ (kX5_isName l D cB cI mo Z v T len gt gf go BB fr tt (fr t) ((tt t) - 2) 65 htx hlen (by decide) (by omega) (by omega)) (cwV 4 hts gX5_isType_X5_isName rfl rfl rfl (by decide +kernel) ⟨Nat.le_of_ble_eq_true rfl, Nat.le_of_ble_eq_true rfl⟩) ⟨fun a U g mk q => ⟨q.1, q.2.calling⟩, va_recv hK hPc (ci := 5) (q0 := 0) rfl rfl, fun U hU hW => ⟨rfl, bt_R.of hU hW hPc hK hN⟩⟩ rfl rfl hl.1 rfl (lv_room (Nat.le_of_ble_eq_true rfl)) dX5_isType_109 ⟨Nat.zero_le _, Nat.zero_le _⟩).run (fun r_109 hr_109 => ?_)
          subst hr_109
          refine lv_if_eq (tgt := 119) hx hb dX5_isType_112 (by decide) (fun c_112 => ?_) (fun c_112 => ?_)
          · have h_112 : ¬ NmP BB (fr t) (tt t - 2) 65 := Bt_eq0.mp c_112
            refine lv_iconst (v := nI 0) hx hb dX5_isType_119 (by decide) ?_
            exact W.zret (v := nI 0) hx hb hr (by decide) (fun t9 ht hW => ⟨nI 0, rfl, (Bt_f (fun h => h.2.elim (fun q => q.2.elim (fun hw9 => by have h9 := hw9.1; simp only [List.length_cons, List.length_nil] at h9; omega) h_112) (fun q => q.1 h_15))).symm, ht⟩) (fun _ h => by cases h) dX5_isType_120
          · have h_112 : NmP BB (fr t) (tt t - 2) 65 := Bt_ne0.mp c_112
            refine lv_iconst (v := nI 1) hx hb dX5_isType_115 (by decide) ?_
            refine lv_goto (tgt := 120) hx hb dX5_isType_116 (by decide) ?_
            exact W.zret (v := nI 1) hx hb hr (by decide) (fun t9 ht hW => ⟨nI 1, rfl, (Bt_t ⟨by omega, Or.inl ⟨h_15, Or.inr h_112⟩⟩).symm, ht⟩) (fun _ h => by cases h) dX5_isType_120
      · have c_45 : ((tt t) - 2) - (fr t) = 3 := (nI_eq (a := ((tt t) - 2) - (fr t)) (b := 3) (by omega) (by omega)).mp c_45
        refine lv_aload_n hx hb dX5_isType_48 rfl (lv_at hl 1 rfl) ?_
        refine va_get (D := D) (ci := 5) (v := .ref (Z 1)) (C := RX5) (T := TX5) (N := 18) hx hb hts (by decide +kernel) hown hK hP 0 rfl rfl 3 (by decide) (hts (.fieldLink RX5 13 "BodyTextModel" "text" "[B") (by decide +kernel)) (fun _ h9 => h9) rfl dX5_isType_49 ?_
        refine lv_iload_n hx hb dX5_isType_52 rfl (lv_at hl 0 rfl) ?_
        refine lv_iconst (v := nI 3) hx hb dX5_isType_53 (by decide) ?_
        refine lv_isub hx hb dX5_isType_54 ?_
        refine bt_topi (y := nI (((tt t) - 2) - 3)) (pk_sub (by omega)) ?_
        refine va_bald hx hb hK hP 1 0 rfl rfl (vp_in_nI (by omega) (by omega)) dX5_isType_55 ?_
        rw [nI_clamp (by omega)]
        have hb9 := htx (((tt t) - 2) - 3) (by omega)
        refine bt_topi (y := nI (BB (((tt t) - 2) - 3))) hb9.1 ?_
        refine lv_bipush (v := nI 105) hx hb dX5_isType_56 (by decide) ?_
        refine lv_icmp_ne (tgt := 91) hx hb dX5_isType_58 (by decide) (fun c_58 => ?_) (fun c_58 => ?_)
        · have c_58 : ¬ ((BB (((tt t) - 2) - 3)) = 105) := fun h9 => c_58 ((nI_eq (a := (BB (((tt t) - 2) - 3))) (b := 105) (by omega) (by omega)).mpr h9)
          refine lv_iconst (v := nI 0) hx hb dX5_isType_91 (by decide) ?_
          refine lv_istore_n (lv' := [(3, .int (nI 0)), (2, .int (nI ((tt t) - 2))), (0, .ref mo), (1, .int (nI t))]) hx hb dX5_isType_92 rfl hl (by decide) rfl (fun ls hl => ?_)
          refine lv_iload_n hx hb dX5_isType_93 rfl (lv_at hl 0 rfl) ?_
          refine lv_if_ne (tgt := 115) hx hb dX5_isType_94 (by decide) (fun c_94 => ?_) (fun c_94 => ?_)
          · exact absurd (by decide) c_94
          · clear c_94
            refine lv_aload_n hx hb dX5_isType_97 rfl (lv_at hl 2 rfl) ?_
            refine lv_aload_n hx hb dX5_isType_98 rfl (lv_at hl 2 rfl) ?_
            refine va_get (D := D) (ci := 5) (v := .ref (Z 2)) (C := RX5) (T := TX5) (N := 18) hx hb hts (by decide +kernel) hown hK hP 0 rfl rfl 5 (by decide) (hts (.fieldLink RX5 16 "BodyTextModel" "tokenFrom" "[I") (by decide +kernel)) (fun _ h9 => h9) rfl dX5_isType_99 ?_
            refine lv_iload_n hx hb dX5_isType_102 rfl (lv_at hl 3 rfl) ?_
            refine va_iald hx hb hK hP 2 1 rfl rfl (vp_in_nI (by omega) (by omega)) dX5_isType_103 ?_
            rw [nI_clamp (by omega)]
            refine bt_topi (y := nI (fr t)) (htk t (by omega)).1 ?_
            refine lv_iload_n hx hb dX5_isType_104 rfl (lv_at hl 1 rfl) ?_
            refine lv_bipush (v := nI 65) hx hb dX5_isType_105 (by decide) ?_
            refine lv_bipush (v := nI 90) hx hb dX5_isType_107 (by decide) ?_
            have hPc := hP.sub (ws' := [(mo, .inr (5, [.ref (Z 0), .int (v 0), .int (v 1), .ref (Z 1), .int (v 2), .ref (Z 2), .ref (Z 3), .int (nI T), .int (v 3), .int (v 4), .ref (Z 4), .ref (Z 5), .ref (Z 6), .ref (Z 7), .ref (Z 8), .int (v 5), .int (v 6), .int (v 7)])), ((Z 1), .inl (cB, 16000, .inl gt)), ((Z 2), .inl (cI, 16002, .inl gf)), ((Z 3), .inl (cI, 16002, .inl go))]) [0, 1, 2, 3] rfl
            refine vp_callSi (va_runV (As := [.int (nI (fr t)), .int (nI ((tt t) - 2)), .int (nI 65), .int (nI 90)]) (rest := []) ⟨hx, hb, hml, hown, hts⟩ (kX5_isName l D cB cI mo Z v T len gt gf go BB fr tt (fr t) ((tt t) - 2) 65 htx hlen (by decide) (by omega) (by omega)) (cwV 4 hts gX5_isType_X5_isName rfl rfl rfl (by decide +kernel) ⟨Nat.le_of_ble_eq_true rfl, Nat.le_of_ble_eq_true rfl⟩) ⟨fun a U g mk q => ⟨q.1, q.2.calling⟩, va_recv hK hPc (ci := 5) (q0 := 0) rfl rfl, fun U hU hW => ⟨rfl, bt_R.of hU hW hPc hK hN⟩⟩ rfl rfl hl.1 rfl (lv_room (Nat.le_of_ble_eq_true rfl)) dX5_isType_109 ⟨Nat.zero_le _, Nat.zero_le _⟩).run (fun r_109 hr_109 => ?_)
            subst hr_109
            refine lv_if_eq (tgt := 119) hx hb dX5_isType_112 (by decide) (fun c_112 => ?_) (fun c_112 => ?_)
            · have h_112 : ¬ NmP BB (fr t) (tt t - 2) 65 := Bt_eq0.mp c_112
              refine lv_iconst (v := nI 0) hx hb dX5_isType_119 (by decide) ?_
              exact W.zret (v := nI 0) hx hb hr (by decide) (fun t9 ht hW => ⟨nI 0, rfl, (Bt_f (fun h => h.2.elim (fun q => q.2.elim (fun hw9 => by have h9 := hw9.1; have h8 := hw9.2 0 (by decide); simp only [List.length_cons, List.length_nil] at h9; exact c_58 (by rw [show (tt t - 2) - 3 = fr t + 0 by omega]; exact h8)) h_112) (fun q => q.1 h_15))).symm, ht⟩) (fun _ h => by cases h) dX5_isType_120
            · have h_112 : NmP BB (fr t) (tt t - 2) 65 := Bt_ne0.mp c_112
              refine lv_iconst (v := nI 1) hx hb dX5_isType_115 (by decide) ?_
              refine lv_goto (tgt := 120) hx hb dX5_isType_116 (by decide) ?_
              exact W.zret (v := nI 1) hx hb hr (by decide) (fun t9 ht hW => ⟨nI 1, rfl, (Bt_t ⟨by omega, Or.inl ⟨h_15, Or.inr h_112⟩⟩).symm, ht⟩) (fun _ h => by cases h) dX5_isType_120
        · have c_58 : (BB (((tt t) - 2) - 3)) = 105 := (nI_eq (a := (BB (((tt t) - 2) - 3))) (b := 105) (by omega) (by omega)).mp c_58
          refine lv_aload_n hx hb dX5_isType_61 rfl (lv_at hl 1 rfl) ?_
          refine va_get (D := D) (ci := 5) (v := .ref (Z 1)) (C := RX5) (T := TX5) (N := 18) hx hb hts (by decide +kernel) hown hK hP 0 rfl rfl 3 (by decide) (hts (.fieldLink RX5 13 "BodyTextModel" "text" "[B") (by decide +kernel)) (fun _ h9 => h9) rfl dX5_isType_62 ?_
          refine lv_iload_n hx hb dX5_isType_65 rfl (lv_at hl 0 rfl) ?_
          refine lv_iconst (v := nI 2) hx hb dX5_isType_66 (by decide) ?_
          refine lv_isub hx hb dX5_isType_67 ?_
          refine bt_topi (y := nI (((tt t) - 2) - 2)) (pk_sub (by omega)) ?_
          refine va_bald hx hb hK hP 1 0 rfl rfl (vp_in_nI (by omega) (by omega)) dX5_isType_68 ?_
          rw [nI_clamp (by omega)]
          have hb9 := htx (((tt t) - 2) - 2) (by omega)
          refine bt_topi (y := nI (BB (((tt t) - 2) - 2))) hb9.1 ?_
          refine lv_bipush (v := nI 110) hx hb dX5_isType_69 (by decide) ?_
          refine lv_icmp_ne (tgt := 91) hx hb dX5_isType_71 (by decide) (fun c_71 => ?_) (fun c_71 => ?_)
          · have c_71 : ¬ ((BB (((tt t) - 2) - 2)) = 110) := fun h9 => c_71 ((nI_eq (a := (BB (((tt t) - 2) - 2))) (b := 110) (by omega) (by omega)).mpr h9)
            refine lv_iconst (v := nI 0) hx hb dX5_isType_91 (by decide) ?_
            refine lv_istore_n (lv' := [(3, .int (nI 0)), (2, .int (nI ((tt t) - 2))), (0, .ref mo), (1, .int (nI t))]) hx hb dX5_isType_92 rfl hl (by decide) rfl (fun ls hl => ?_)
            refine lv_iload_n hx hb dX5_isType_93 rfl (lv_at hl 0 rfl) ?_
            refine lv_if_ne (tgt := 115) hx hb dX5_isType_94 (by decide) (fun c_94 => ?_) (fun c_94 => ?_)
            · exact absurd (by decide) c_94
            · clear c_94
              refine lv_aload_n hx hb dX5_isType_97 rfl (lv_at hl 2 rfl) ?_
              refine lv_aload_n hx hb dX5_isType_98 rfl (lv_at hl 2 rfl) ?_
              refine va_get (D := D) (ci := 5) (v := .ref (Z 2)) (C := RX5) (T := TX5) (N := 18) hx hb hts (by decide +kernel) hown hK hP 0 rfl rfl 5 (by decide) (hts (.fieldLink RX5 16 "BodyTextModel" "tokenFrom" "[I") (by decide +kernel)) (fun _ h9 => h9) rfl dX5_isType_99 ?_
              refine lv_iload_n hx hb dX5_isType_102 rfl (lv_at hl 3 rfl) ?_
              refine va_iald hx hb hK hP 2 1 rfl rfl (vp_in_nI (by omega) (by omega)) dX5_isType_103 ?_
              rw [nI_clamp (by omega)]
              refine bt_topi (y := nI (fr t)) (htk t (by omega)).1 ?_
              refine lv_iload_n hx hb dX5_isType_104 rfl (lv_at hl 1 rfl) ?_
              refine lv_bipush (v := nI 65) hx hb dX5_isType_105 (by decide) ?_
              refine lv_bipush (v := nI 90) hx hb dX5_isType_107 (by decide) ?_
              have hPc := hP.sub (ws' := [(mo, .inr (5, [.ref (Z 0), .int (v 0), .int (v 1), .ref (Z 1), .int (v 2), .ref (Z 2), .ref (Z 3), .int (nI T), .int (v 3), .int (v 4), .ref (Z 4), .ref (Z 5), .ref (Z 6), .ref (Z 7), .ref (Z 8), .int (v 5), .int (v 6), .int (v 7)])), ((Z 1), .inl (cB, 16000, .inl gt)), ((Z 2), .inl (cI, 16002, .inl gf)), ((Z 3), .inl (cI, 16002, .inl go))]) [0, 1, 2, 3] rfl
              refine vp_callSi (va_runV (As := [.int (nI (fr t)), .int (nI ((tt t) - 2)), .int (nI 65), .int (nI 90)]) (rest := []) ⟨hx, hb, hml, hown, hts⟩ (kX5_isName l D cB cI mo Z v T len gt gf go BB fr tt (fr t) ((tt t) - 2) 65 htx hlen (by decide) (by omega) (by omega)) (cwV 4 hts gX5_isType_X5_isName rfl rfl rfl (by decide +kernel) ⟨Nat.le_of_ble_eq_true rfl, Nat.le_of_ble_eq_true rfl⟩) ⟨fun a U g mk q => ⟨q.1, q.2.calling⟩, va_recv hK hPc (ci := 5) (q0 := 0) rfl rfl, fun U hU hW => ⟨rfl, bt_R.of hU hW hPc hK hN⟩⟩ rfl rfl hl.1 rfl (lv_room (Nat.le_of_ble_eq_true rfl)) dX5_isType_109 ⟨Nat.zero_le _, Nat.zero_le _⟩).run (fun r_109 hr_109 => ?_)
              subst hr_109
              refine lv_if_eq (tgt := 119) hx hb dX5_isType_112 (by decide) (fun c_112 => ?_) (fun c_112 => ?_)
              · have h_112 : ¬ NmP BB (fr t) (tt t - 2) 65 := Bt_eq0.mp c_112
                refine lv_iconst (v := nI 0) hx hb dX5_isType_119 (by decide) ?_
                exact W.zret (v := nI 0) hx hb hr (by decide) (fun t9 ht hW => ⟨nI 0, rfl, (Bt_f (fun h => h.2.elim (fun q => q.2.elim (fun hw9 => by have h9 := hw9.1; have h8 := hw9.2 1 (by decide); simp only [List.length_cons, List.length_nil] at h9; exact c_71 (by rw [show (tt t - 2) - 2 = fr t + 1 by omega]; exact h8)) h_112) (fun q => q.1 h_15))).symm, ht⟩) (fun _ h => by cases h) dX5_isType_120
              · have h_112 : NmP BB (fr t) (tt t - 2) 65 := Bt_ne0.mp c_112
                refine lv_iconst (v := nI 1) hx hb dX5_isType_115 (by decide) ?_
                refine lv_goto (tgt := 120) hx hb dX5_isType_116 (by decide) ?_
                exact W.zret (v := nI 1) hx hb hr (by decide) (fun t9 ht hW => ⟨nI 1, rfl, (Bt_t ⟨by omega, Or.inl ⟨h_15, Or.inr h_112⟩⟩).symm, ht⟩) (fun _ h => by cases h) dX5_isType_120
          · have c_71 : (BB (((tt t) - 2) - 2)) = 110 := (nI_eq (a := (BB (((tt t) - 2) - 2))) (b := 110) (by omega) (by omega)).mp c_71
            refine lv_aload_n hx hb dX5_isType_74 rfl (lv_at hl 1 rfl) ?_
            refine va_get (D := D) (ci := 5) (v := .ref (Z 1)) (C := RX5) (T := TX5) (N := 18) hx hb hts (by decide +kernel) hown hK hP 0 rfl rfl 3 (by decide) (hts (.fieldLink RX5 13 "BodyTextModel" "text" "[B") (by decide +kernel)) (fun _ h9 => h9) rfl dX5_isType_75 ?_
            refine lv_iload_n hx hb dX5_isType_78 rfl (lv_at hl 0 rfl) ?_
            refine lv_iconst (v := nI 1) hx hb dX5_isType_79 (by decide) ?_
            refine lv_isub hx hb dX5_isType_80 ?_
            refine bt_topi (y := nI (((tt t) - 2) - 1)) (pk_sub (by omega)) ?_
            refine va_bald hx hb hK hP 1 0 rfl rfl (vp_in_nI (by omega) (by omega)) dX5_isType_81 ?_
            rw [nI_clamp (by omega)]
            have hb9 := htx (((tt t) - 2) - 1) (by omega)
            refine bt_topi (y := nI (BB (((tt t) - 2) - 1))) hb9.1 ?_
            refine lv_bipush (v := nI 116) hx hb dX5_isType_82 (by decide) ?_
            refine lv_icmp_ne (tgt := 91) hx hb dX5_isType_84 (by decide) (fun c_84 => ?_) (fun c_84 => ?_)
            · have c_84 : ¬ ((BB (((tt t) - 2) - 1)) = 116) := fun h9 => c_84 ((nI_eq (a := (BB (((tt t) - 2) - 1))) (b := 116) (by omega) (by omega)).mpr h9)
              refine lv_iconst (v := nI 0) hx hb dX5_isType_91 (by decide) ?_
              refine lv_istore_n (lv' := [(3, .int (nI 0)), (2, .int (nI ((tt t) - 2))), (0, .ref mo), (1, .int (nI t))]) hx hb dX5_isType_92 rfl hl (by decide) rfl (fun ls hl => ?_)
              refine lv_iload_n hx hb dX5_isType_93 rfl (lv_at hl 0 rfl) ?_
              refine lv_if_ne (tgt := 115) hx hb dX5_isType_94 (by decide) (fun c_94 => ?_) (fun c_94 => ?_)
              · exact absurd (by decide) c_94
              · clear c_94
                refine lv_aload_n hx hb dX5_isType_97 rfl (lv_at hl 2 rfl) ?_
                refine lv_aload_n hx hb dX5_isType_98 rfl (lv_at hl 2 rfl) ?_
                refine va_get (D := D) (ci := 5) (v := .ref (Z 2)) (C := RX5) (T := TX5) (N := 18) hx hb hts (by decide +kernel) hown hK hP 0 rfl rfl 5 (by decide) (hts (.fieldLink RX5 16 "BodyTextModel" "tokenFrom" "[I") (by decide +kernel)) (fun _ h9 => h9) rfl dX5_isType_99 ?_
                refine lv_iload_n hx hb dX5_isType_102 rfl (lv_at hl 3 rfl) ?_
                refine va_iald hx hb hK hP 2 1 rfl rfl (vp_in_nI (by omega) (by omega)) dX5_isType_103 ?_
                rw [nI_clamp (by omega)]
                refine bt_topi (y := nI (fr t)) (htk t (by omega)).1 ?_
                refine lv_iload_n hx hb dX5_isType_104 rfl (lv_at hl 1 rfl) ?_
                refine lv_bipush (v := nI 65) hx hb dX5_isType_105 (by decide) ?_
                refine lv_bipush (v := nI 90) hx hb dX5_isType_107 (by decide) ?_
                have hPc := hP.sub (ws' := [(mo, .inr (5, [.ref (Z 0), .int (v 0), .int (v 1), .ref (Z 1), .int (v 2), .ref (Z 2), .ref (Z 3), .int (nI T), .int (v 3), .int (v 4), .ref (Z 4), .ref (Z 5), .ref (Z 6), .ref (Z 7), .ref (Z 8), .int (v 5), .int (v 6), .int (v 7)])), ((Z 1), .inl (cB, 16000, .inl gt)), ((Z 2), .inl (cI, 16002, .inl gf)), ((Z 3), .inl (cI, 16002, .inl go))]) [0, 1, 2, 3] rfl
                refine vp_callSi (va_runV (As := [.int (nI (fr t)), .int (nI ((tt t) - 2)), .int (nI 65), .int (nI 90)]) (rest := []) ⟨hx, hb, hml, hown, hts⟩ (kX5_isName l D cB cI mo Z v T len gt gf go BB fr tt (fr t) ((tt t) - 2) 65 htx hlen (by decide) (by omega) (by omega)) (cwV 4 hts gX5_isType_X5_isName rfl rfl rfl (by decide +kernel) ⟨Nat.le_of_ble_eq_true rfl, Nat.le_of_ble_eq_true rfl⟩) ⟨fun a U g mk q => ⟨q.1, q.2.calling⟩, va_recv hK hPc (ci := 5) (q0 := 0) rfl rfl, fun U hU hW => ⟨rfl, bt_R.of hU hW hPc hK hN⟩⟩ rfl rfl hl.1 rfl (lv_room (Nat.le_of_ble_eq_true rfl)) dX5_isType_109 ⟨Nat.zero_le _, Nat.zero_le _⟩).run (fun r_109 hr_109 => ?_)
                subst hr_109
                refine lv_if_eq (tgt := 119) hx hb dX5_isType_112 (by decide) (fun c_112 => ?_) (fun c_112 => ?_)
                · have h_112 : ¬ NmP BB (fr t) (tt t - 2) 65 := Bt_eq0.mp c_112
                  refine lv_iconst (v := nI 0) hx hb dX5_isType_119 (by decide) ?_
                  exact W.zret (v := nI 0) hx hb hr (by decide) (fun t9 ht hW => ⟨nI 0, rfl, (Bt_f (fun h => h.2.elim (fun q => q.2.elim (fun hw9 => by have h9 := hw9.1; have h8 := hw9.2 2 (by decide); simp only [List.length_cons, List.length_nil] at h9; exact c_84 (by rw [show (tt t - 2) - 1 = fr t + 2 by omega]; exact h8)) h_112) (fun q => q.1 h_15))).symm, ht⟩) (fun _ h => by cases h) dX5_isType_120
                · have h_112 : NmP BB (fr t) (tt t - 2) 65 := Bt_ne0.mp c_112
                  refine lv_iconst (v := nI 1) hx hb dX5_isType_115 (by decide) ?_
                  refine lv_goto (tgt := 120) hx hb dX5_isType_116 (by decide) ?_
                  exact W.zret (v := nI 1) hx hb hr (by decide) (fun t9 ht hW => ⟨nI 1, rfl, (Bt_t ⟨by omega, Or.inl ⟨h_15, Or.inr h_112⟩⟩).symm, ht⟩) (fun _ h => by cases h) dX5_isType_120
            · have c_84 : (BB (((tt t) - 2) - 1)) = 116 := (nI_eq (a := (BB (((tt t) - 2) - 1))) (b := 116) (by omega) (by omega)).mp c_84
              refine lv_iconst (v := nI 1) hx hb dX5_isType_87 (by decide) ?_
              refine lv_goto (tgt := 92) hx hb dX5_isType_88 (by decide) ?_
              refine lv_istore_n (lv' := [(3, .int (nI 1)), (2, .int (nI ((tt t) - 2))), (0, .ref mo), (1, .int (nI t))]) hx hb dX5_isType_92 rfl hl (by decide) rfl (fun ls hl => ?_)
              refine lv_iload_n hx hb dX5_isType_93 rfl (lv_at hl 0 rfl) ?_
              refine lv_if_ne (tgt := 115) hx hb dX5_isType_94 (by decide) (fun c_94 => ?_) (fun c_94 => ?_)
              · clear c_94
                refine lv_iconst (v := nI 1) hx hb dX5_isType_115 (by decide) ?_
                refine lv_goto (tgt := 120) hx hb dX5_isType_116 (by decide) ?_
                exact W.zret (v := nI 1) hx hb hr (by decide) (fun t9 ht hW => ⟨nI 1, rfl, (Bt_t ⟨by omega, Or.inl ⟨h_15, Or.inl ⟨by simp only [List.length_cons, List.length_nil]; omega, fun j hj => by rcases (show j = 0 ∨ j = 1 ∨ j = 2 by simp only [List.length_cons, List.length_nil] at hj; omega) with rfl | rfl | rfl; rw [show fr t + 0 = (tt t - 2) - 3 by omega]; exact c_58; rw [show fr t + 1 = (tt t - 2) - 2 by omega]; exact c_71; rw [show fr t + 2 = (tt t - 2) - 1 by omega]; exact c_84⟩⟩⟩).symm, ht⟩) (fun _ h => by cases h) dX5_isType_120
              · exact absurd c_94 (by decide)
  · have c_5 : ¬ (t < T) := fun h9 => c_5 ((nI_ltI (a := t) (b := T) (by omega) (by omega)).mpr h9)
    refine lv_iconst (v := nI 0) hx hb dX5_isType_8 (by decide) ?_
    exact W.zret (v := nI 0) hx hb hr (by decide) (fun t9 ht hW => ⟨nI 0, rfl, (Bt_f (fun h => by have := h.1; omega)).symm, ht⟩) (fun _ h => by cases h) dX5_isType_9
set_option maxHeartbeats 4000000 in
set_option maxRecDepth 100000 in
/-- point -/
theorem kX5_point (l : Launch) (D : va_G) (cB cI : ClassId) (mo : Nat) (Z : Nat → Nat) (v : Nat → Int32) (T len : Nat) (gt gf go : Nat → Int32) (BB fr tt : Nat → Nat) (t : Nat) (htx : ∀ i, i < len → gt i = nI (BB i) ∧ BB i < 128) (hlen : len ≤ 16000) (hT : T ≤ 16000) (htk : ∀ t, t < T → gf t = nI (fr t) ∧ go t = nI (tt t) ∧ fr t < tt t ∧ tt t ≤ len) (ht : t < T) : Met l yX5_point wsX5_point ({ frames := 0, cells := 0, slots := 0, locals := 0 }) (va_Pc [.ref mo, .int (nI t)] (bt_R D cB cI [(mo, .inr (5, [.ref (Z 0), .int (v 0), .int (v 1), .ref (Z 1), .int (v 2), .ref (Z 2), .ref (Z 3), .int (nI T), .int (v 3), .int (v 4), .ref (Z 4), .ref (Z 5), .ref (Z 6), .ref (Z 7), .ref (Z 8), .int (v 5), .int (v 6), .int (v 7)])), ((Z 1), .inl (cB, 16000, .inl gt)), ((Z 2), .inl (cI, 16002, .inl gf)), ((Z 3), .inl (cI, 16002, .inl go))])) (vp_Si (fun r => ∃ k, r = nI k ∧ fr t ≤ k ∧ k ≤ tt t ∧ (∀ j, fr t ≤ j → j < k → ¬ BB j = 46) ∧ (k < tt t → BB k = 46))) 0 0 (fun _ => False) := by
  refine Met.ofW (cc := cX5_point) (maxL := 3) (ret := (some .int)) (by decide) rfl ?_
  intro p e s m args below meth c s₁ B hml hv
  obtain ⟨rfl, hP, hK, hN⟩ := hv
  have hx := B.exec
  have hb := B.bytes
  have hr := B.returns
  have hts := atoms_spec (ws := wsX5_point) B.pre
  have hown : s.vm.findClass RX5 = some m.cls := findClass_of_methodNamed B.named
  have hlocks := B.notSynchronized
  have hl := lv_entry ([.ref mo, .int (nI t)]) (n := 3) (Nat.le_of_ble_eq_true rfl)
  rw [lg_entry_eq]
  generalize (lg_sl ([.ref mo, .int (nI t)]) ++ List.replicate (3 - (lg_sl ([.ref mo, .int (nI t)])).length) Slot.unset).toArray = ls at hl ⊢
  have hl : lv_has ls 3 [(0, .ref mo), (1, .int (nI t))] := hl
  obtain ⟨-, -, hf1, hf2⟩ := htk t ht
  refine bt_genQ (fun Q hQ => ?_)
  refine lv_aload_n hx hb dX5_point_0 rfl (lv_at hl 0 rfl) ?_
  refine va_get (D := D) (ci := 5) (v := .ref (Z 2)) (C := RX5) (T := TX5) (N := 18) hx hb hts (by decide +kernel) hown hK hP 0 rfl rfl 5 (by decide) (hts (.fieldLink RX5 16 "BodyTextModel" "tokenFrom" "[I") (by decide +kernel)) (fun _ h9 => h9) rfl dX5_point_1 ?_
  refine lv_iload_n hx hb dX5_point_4 rfl (lv_at hl 1 rfl) ?_
  refine va_iald hx hb hK hP 2 1 rfl rfl (vp_in_nI (by omega) (by omega)) dX5_point_5 ?_
  rw [nI_clamp (by omega)]
  refine bt_topi (y := nI (fr t)) (htk t (by omega)).1 ?_
  refine lv_istore_n (lv' := [(2, .int (nI (fr t))), (0, .ref mo), (1, .int (nI t))]) hx hb dX5_point_6 rfl hl (by decide) rfl (fun ls hl => ?_)
  have loop_7 : ∀ (fu : Nat) (k : Nat), (tt t + 1 ≤ k + fu) → (fr t ≤ k) → (k ≤ tt t) → (∀ j, fr t ≤ j → j < k → ¬ BB j = 46) → ∀ (ls : Array Slot), lv_has ls 3 [(0, .ref mo), (1, .int (nI t)), (2, .int (nI k))] → W p l e ({ frames := 0, cells := 0, slots := 0, locals := 0 } : Room) s m ([.ref mo, .int (nI t)] : List Value).toArray below meth c s.heap [] 0 0 Q (F0 m 7 ls []) := by
    intro fu
    induction fu with
    | zero => intro k hm hk1 hk2 hno ls hl; exfalso; omega
    | succ fu ih =>
      intro k hm hk1 hk2 hno ls hl
      refine lv_iload_n hx hb dX5_point_7 rfl (lv_at hl 2 rfl) ?_
      refine lv_aload_n hx hb dX5_point_8 rfl (lv_at hl 0 rfl) ?_
      refine va_get (D := D) (ci := 5) (v := .ref (Z 3)) (C := RX5) (T := TX5) (N := 18) hx hb hts (by decide +kernel) hown hK hP 0 rfl rfl 6 (by decide) (hts (.fieldLink RX5 20 "BodyTextModel" "tokenTo" "[I") (by decide +kernel)) (fun _ h9 => h9) rfl dX5_point_9 ?_
      refine lv_iload_n hx hb dX5_point_12 rfl (lv_at hl 1 rfl) ?_
      refine va_iald hx hb hK hP 3 1 rfl rfl (vp_in_nI (by omega) (by omega)) dX5_point_13 ?_
      rw [nI_clamp (by omega)]
      refine bt_topi (y := nI (tt t)) (htk t (by omega)).2.1 ?_
      refine lv_icmp_ge (tgt := 34) hx hb dX5_point_14 (by decide) (fun c_14 => ?_) (fun c_14 => ?_)
      · have c_14 : (tt t) ≤ k := (nI_leI (a := (tt t)) (b := k) (by omega) (by omega)).mp c_14
        refine lv_iload_n hx hb dX5_point_34 rfl (lv_at hl 2 rfl) ?_
        rw [hQ]
        exact W.iret (v := nI k) hx hb hr (fun t9 ht hW => ⟨nI k, rfl, ⟨k, rfl, hk1, hk2, hno, fun h => by omega⟩, ht⟩) (fun _ h => by cases h) dX5_point_35
      · have c_14 : ¬ ((tt t) ≤ k) := fun h9 => c_14 ((nI_leI (a := (tt t)) (b := k) (by omega) (by omega)).mpr h9)
        refine lv_aload_n hx hb dX5_point_17 rfl (lv_at hl 0 rfl) ?_
        refine va_get (D := D) (ci := 5) (v := .ref (Z 1)) (C := RX5) (T := TX5) (N := 18) hx hb hts (by decide +kernel) hown hK hP 0 rfl rfl 3 (by decide) (hts (.fieldLink RX5 13 "BodyTextModel" "text" "[B") (by decide +kernel)) (fun _ h9 => h9) rfl dX5_point_18 ?_
        refine lv_iload_n hx hb dX5_point_21 rfl (lv_at hl 2 rfl) ?_
        refine va_bald hx hb hK hP 1 0 rfl rfl (vp_in_nI (by omega) (by omega)) dX5_point_22 ?_
        rw [nI_clamp (by omega)]
        have hb9 := htx k (by omega)
        refine bt_topi (y := nI (BB k)) hb9.1 ?_
        refine lv_bipush (v := nI 46) hx hb dX5_point_23 (by decide) ?_
        refine lv_icmp_eq (tgt := 34) hx hb dX5_point_25 (by decide) (fun c_25 => ?_) (fun c_25 => ?_)
        · have c_25 : (BB k) = 46 := (nI_eq (a := (BB k)) (b := 46) (by omega) (by omega)).mp c_25
          refine lv_iload_n hx hb dX5_point_34 rfl (lv_at hl 2 rfl) ?_
          rw [hQ]
          exact W.iret (v := nI k) hx hb hr (fun t9 ht hW => ⟨nI k, rfl, ⟨k, rfl, hk1, hk2, hno, fun h => c_25⟩, ht⟩) (fun _ h => by cases h) dX5_point_35
        · have c_25 : ¬ ((BB k) = 46) := fun h9 => c_25 ((nI_eq (a := (BB k)) (b := 46) (by omega) (by omega)).mpr h9)
          refine lv_iinc (v := nI (k + 1)) (lv' := [(2, .int (nI (k + 1))), (0, .ref mo), (1, .int (nI t))]) hx hb dX5_point_28 hl (k := 2) rfl (nI_add k 1) (by decide) rfl (fun ls hl => ?_)
          refine lv_goto (tgt := 7) hx hb dX5_point_31 (by decide) ?_
          exact ih (k + 1) (by omega) (by omega) (by omega) (fun j h1 h2 => by rcases Nat.lt_or_ge j k with q | q; exact hno j h1 q; rw [show j = k by omega]; exact c_25) ls (lv_sub hl [1, 2, 0] rfl)
  exact loop_7 (tt t + 1) (fr t) (by omega) (by omega) (by omega) (fun j h1 h2 => by omega) ls (lv_sub hl [1, 2, 0] rfl)
set_option maxHeartbeats 4000000 in
set_option maxRecDepth 100000 in
/-- isReference -/
theorem kX5_isReference (l : Launch) (D : va_G) (cB cI : ClassId) (mo : Nat) (Z : Nat → Nat) (v : Nat → Int32) (T len : Nat) (gt gf go : Nat → Int32) (BB fr tt : Nat → Nat) (t : Nat) (htx : ∀ i, i < len → gt i = nI (BB i) ∧ BB i < 128) (hlen : len ≤ 16000) (hT : T ≤ 16000) (htk : ∀ t, t < T → gf t = nI (fr t) ∧ go t = nI (tt t) ∧ fr t < tt t ∧ tt t ≤ len) (ht : t < 2 ^ 30) : Met l yX5_isReference wsX5_isReference ({ frames := 1, cells := 0, slots := 0, locals := 26 }) (va_Pc [.ref mo, .int (nI t)] (bt_R D cB cI [(mo, .inr (5, [.ref (Z 0), .int (v 0), .int (v 1), .ref (Z 1), .int (v 2), .ref (Z 2), .ref (Z 3), .int (nI T), .int (v 3), .int (v 4), .ref (Z 4), .ref (Z 5), .ref (Z 6), .ref (Z 7), .ref (Z 8), .int (v 5), .int (v 6), .int (v 7)])), ((Z 1), .inl (cB, 16000, .inl gt)), ((Z 2), .inl (cI, 16002, .inl gf)), ((Z 3), .inl (cI, 16002, .inl go))])) (vp_Si (fun r => r = Bt (t < T ∧ RefP BB (fr t) (tt t)))) 0 0 (fun _ => False) := by
  refine Met.ofW (cc := cX5_isReference) (maxL := 3) (ret := (some .boolean)) (by decide) rfl ?_
  intro p e s m args below meth c s₁ B hml hv
  obtain ⟨rfl, hP, hK, hN⟩ := hv
  have hx := B.exec
  have hb := B.bytes
  have hr := B.returns
  have hts := atoms_spec (ws := wsX5_isReference) B.pre
  have hown : s.vm.findClass RX5 = some m.cls := findClass_of_methodNamed B.named
  have hlocks := B.notSynchronized
  have hl := lv_entry ([.ref mo, .int (nI t)]) (n := 3) (Nat.le_of_ble_eq_true rfl)
  rw [lg_entry_eq]
  generalize (lg_sl ([.ref mo, .int (nI t)]) ++ List.replicate (3 - (lg_sl ([.ref mo, .int (nI t)])).length) Slot.unset).toArray = ls at hl ⊢
  have hl : lv_has ls 3 [(0, .ref mo), (1, .int (nI t))] := hl
  refine lv_iload_n hx hb dX5_isReference_0 rfl (lv_at hl 1 rfl) ?_
  refine lv_aload_n hx hb dX5_isReference_1 rfl (lv_at hl 0 rfl) ?_
  refine va_get (D := D) (ci := 5) (v := .int (nI T)) (C := RX5) (T := TX5) (N := 18) hx hb hts (by decide +kernel) hown hK hP 0 rfl rfl 7 (by decide) (hts (.fieldLink RX5 56 "BodyTextModel" "tokens" "I") (by decide +kernel)) (fun _ h9 => h9) rfl dX5_isReference_2 ?_
  refine lv_icmp_lt (tgt := 10) hx hb dX5_isReference_5 (by decide) (fun c_5 => ?_) (fun c_5 => ?_)
  · have c_5 : t < T := (nI_ltI (a := t) (b := T) (by omega) (by omega)).mp c_5
    obtain ⟨-, -, hf1, hf2⟩ := htk t (by omega)
    refine lv_aload_n hx hb dX5_isReference_10 rfl (lv_at hl 0 rfl) ?_
    refine lv_iload_n hx hb dX5_isReference_11 rfl (lv_at hl 1 rfl) ?_
    have hPc := hP.sub (ws' := [(mo, .inr (5, [.ref (Z 0), .int (v 0), .int (v 1), .ref (Z 1), .int (v 2), .ref (Z 2), .ref (Z 3), .int (nI T), .int (v 3), .int (v 4), .ref (Z 4), .ref (Z 5), .ref (Z 6), .ref (Z 7), .ref (Z 8), .int (v 5), .int (v 6), .int (v 7)])), ((Z 1), .inl (cB, 16000, .inl gt)), ((Z 2), .inl (cI, 16002, .inl gf)), ((Z 3), .inl (cI, 16002, .inl go))]) [0, 1, 2, 3] rfl
    refine vp_callSi (va_runV (As := [.int (nI t)]) (rest := []) ⟨hx, hb, hml, hown, hts⟩ (kX5_point l D cB cI mo Z v T len gt gf go BB fr tt t htx hlen hT htk (by omega)) (cwV 1 hts gX5_isReference_X5_point rfl rfl rfl (by decide +kernel) ⟨Nat.le_of_ble_eq_true rfl, Nat.le_of_ble_eq_true rfl⟩) ⟨fun a U g mk q => ⟨q.1, q.2.calling⟩, va_recv hK hPc (ci := 5) (q0 := 0) rfl rfl, fun U hU hW => ⟨rfl, bt_R.of hU hW hPc hK hN⟩⟩ rfl rfl hl.1 rfl (lv_room (Nat.le_of_ble_eq_true rfl)) dX5_isReference_12 ⟨Nat.zero_le _, Nat.zero_le _⟩).run (fun r_12 hr_12 => ?_)
    obtain ⟨kp, rfl, hp1, hp2, hp3, hp4⟩ := hr_12
    refine lv_istore_n (lv' := [(2, .int (nI kp)), (0, .ref mo), (1, .int (nI t))]) hx hb dX5_isReference_15 rfl hl (by decide) rfl (fun ls hl => ?_)
    refine lv_aload_n hx hb dX5_isReference_16 rfl (lv_at hl 1 rfl) ?_
    refine lv_aload_n hx hb dX5_isReference_17 rfl (lv_at hl 1 rfl) ?_
    refine va_get (D := D) (ci := 5) (v := .ref (Z 2)) (C := RX5) (T := TX5) (N := 18) hx hb hts (by decide +kernel) hown hK hP 0 rfl rfl 5 (by decide) (hts (.fieldLink RX5 16 "BodyTextModel" "tokenFrom" "[I") (by decide +kernel)) (fun _ h9 => h9) rfl dX5_isReference_18 ?_
    refine lv_iload_n hx hb dX5_isReference_21 rfl (lv_at hl 2 rfl) ?_
    refine va_iald hx hb hK hP 2 1 rfl rfl (vp_in_nI (by omega) (by omega)) dX5_isReference_22 ?_
    rw [nI_clamp (by omega)]
    refine bt_topi (y := nI (fr t)) (htk t (by omega)).1 ?_
    refine lv_iload_n hx hb dX5_isReference_23 rfl (lv_at hl 0 rfl) ?_
    refine lv_bipush (v := nI 65) hx hb dX5_isReference_24 (by decide) ?_
    refine lv_bipush (v := nI 90) hx hb dX5_isReference_26 (by decide) ?_
    have hPc := hP.sub (ws' := [(mo, .inr (5, [.ref (Z 0), .int (v 0), .int (v 1), .ref (Z 1), .int (v 2), .ref (Z 2), .ref (Z 3), .int (nI T), .int (v 3), .int (v 4), .ref (Z 4), .ref (Z 5), .ref (Z 6), .ref (Z 7), .ref (Z 8), .int (v 5), .int (v 6), .int (v 7)])), ((Z 1), .inl (cB, 16000, .inl gt)), ((Z 2), .inl (cI, 16002, .inl gf)), ((Z 3), .inl (cI, 16002, .inl go))]) [0, 1, 2, 3] rfl
    refine vp_callSi (va_runV (As := [.int (nI (fr t)), .int (nI kp), .int (nI 65), .int (nI 90)]) (rest := []) ⟨hx, hb, hml, hown, hts⟩ (kX5_isName l D cB cI mo Z v T len gt gf go BB fr tt (fr t) kp 65 htx hlen (by decide) (by omega) (by omega)) (cwV 4 hts gX5_isReference_X5_isName rfl rfl rfl (by decide +kernel) ⟨Nat.le_of_ble_eq_true rfl, Nat.le_of_ble_eq_true rfl⟩) ⟨fun a U g mk q => ⟨q.1, q.2.calling⟩, va_recv hK hPc (ci := 5) (q0 := 0) rfl rfl, fun U hU hW => ⟨rfl, bt_R.of hU hW hPc hK hN⟩⟩ rfl rfl hl.1 rfl (lv_room (Nat.le_of_ble_eq_true rfl)) dX5_isReference_28 ⟨Nat.zero_le _, Nat.zero_le _⟩).run (fun r_28 hr_28 => ?_)
    subst hr_28
    refine lv_if_eq (tgt := 58) hx hb dX5_isReference_31 (by decide) (fun c_31 => ?_) (fun c_31 => ?_)
    · have h_31 : ¬ (NmP BB (fr t) kp 65) := Bt_eq0.mp c_31
      refine lv_iconst (v := nI 0) hx hb dX5_isReference_58 (by decide) ?_
      exact W.zret (v := nI 0) hx hb hr (by decide) (fun t9 ht hW => ⟨nI 0, rfl, (Bt_f (fun h => by obtain ⟨-, i9, g1, g2, g3, g4, g5, g6⟩ := h; have hie : i9 = kp := (by rcases Nat.lt_trichotomy i9 kp with q | q | q; exact absurd g3 (hp3 i9 g1 q); exact q; exact absurd (hp4 (by omega)) (g4 kp (by omega) q)); subst hie;  exact h_31 g5)).symm, ht⟩) (fun _ h => by cases h) dX5_isReference_59
    · have h_31 : NmP BB (fr t) kp 65 := Bt_ne0.mp c_31
      refine lv_aload_n hx hb dX5_isReference_34 rfl (lv_at hl 1 rfl) ?_
      refine lv_iload_n hx hb dX5_isReference_35 rfl (lv_at hl 0 rfl) ?_
      refine lv_iconst (v := nI 1) hx hb dX5_isReference_36 (by decide) ?_
      refine lv_iadd hx hb dX5_isReference_37 ?_
      refine bt_topi (y := nI (kp + 1)) (nI_add _ _) ?_
      refine lv_aload_n hx hb dX5_isReference_38 rfl (lv_at hl 1 rfl) ?_
      refine va_get (D := D) (ci := 5) (v := .ref (Z 3)) (C := RX5) (T := TX5) (N := 18) hx hb hts (by decide +kernel) hown hK hP 0 rfl rfl 6 (by decide) (hts (.fieldLink RX5 20 "BodyTextModel" "tokenTo" "[I") (by decide +kernel)) (fun _ h9 => h9) rfl dX5_isReference_39 ?_
      refine lv_iload_n hx hb dX5_isReference_42 rfl (lv_at hl 2 rfl) ?_
      refine va_iald hx hb hK hP 3 1 rfl rfl (vp_in_nI (by omega) (by omega)) dX5_isReference_43 ?_
      rw [nI_clamp (by omega)]
      refine bt_topi (y := nI (tt t)) (htk t (by omega)).2.1 ?_
      refine lv_bipush (v := nI 97) hx hb dX5_isReference_44 (by decide) ?_
      refine lv_bipush (v := nI 122) hx hb dX5_isReference_46 (by decide) ?_
      have hPc := hP.sub (ws' := [(mo, .inr (5, [.ref (Z 0), .int (v 0), .int (v 1), .ref (Z 1), .int (v 2), .ref (Z 2), .ref (Z 3), .int (nI T), .int (v 3), .int (v 4), .ref (Z 4), .ref (Z 5), .ref (Z 6), .ref (Z 7), .ref (Z 8), .int (v 5), .int (v 6), .int (v 7)])), ((Z 1), .inl (cB, 16000, .inl gt)), ((Z 2), .inl (cI, 16002, .inl gf)), ((Z 3), .inl (cI, 16002, .inl go))]) [0, 1, 2, 3] rfl
      refine vp_callSi (va_runV (As := [.int (nI (kp + 1)), .int (nI (tt t)), .int (nI 97), .int (nI 122)]) (rest := []) ⟨hx, hb, hml, hown, hts⟩ (kX5_isName l D cB cI mo Z v T len gt gf go BB fr tt (kp + 1) (tt t) 97 htx hlen (by decide) (by omega) (by omega)) (cwV 4 hts gX5_isReference_X5_isName rfl rfl rfl (by decide +kernel) ⟨Nat.le_of_ble_eq_true rfl, Nat.le_of_ble_eq_true rfl⟩) ⟨fun a U g mk q => ⟨q.1, q.2.calling⟩, va_recv hK hPc (ci := 5) (q0 := 0) rfl rfl, fun U hU hW => ⟨rfl, bt_R.of hU hW hPc hK hN⟩⟩ rfl rfl hl.1 rfl (lv_room (Nat.le_of_ble_eq_true rfl)) dX5_isReference_48 ⟨Nat.zero_le _, Nat.zero_le _⟩).run (fun r_48 hr_48 => ?_)
      subst hr_48
      refine lv_if_eq (tgt := 58) hx hb dX5_isReference_51 (by decide) (fun c_51 => ?_) (fun c_51 => ?_)
      · have h_51 : ¬ (NmP BB (kp + 1) (tt t) 97) := Bt_eq0.mp c_51
        refine lv_iconst (v := nI 0) hx hb dX5_isReference_58 (by decide) ?_
        exact W.zret (v := nI 0) hx hb hr (by decide) (fun t9 ht hW => ⟨nI 0, rfl, (Bt_f (fun h => by obtain ⟨-, i9, g1, g2, g3, g4, g5, g6⟩ := h; have hie : i9 = kp := (by rcases Nat.lt_trichotomy i9 kp with q | q | q; exact absurd g3 (hp3 i9 g1 q); exact q; exact absurd (hp4 (by omega)) (g4 kp (by omega) q)); subst hie;  exact h_51 g6)).symm, ht⟩) (fun _ h => by cases h) dX5_isReference_59
      · have h_51 : NmP BB (kp + 1) (tt t) 97 := Bt_ne0.mp c_51
        refine lv_iconst (v := nI 1) hx hb dX5_isReference_54 (by decide) ?_
        refine lv_goto (tgt := 59) hx hb dX5_isReference_55 (by decide) ?_
        exact W.zret (v := nI 1) hx hb hr (by decide) (fun t9 ht hW => ⟨nI 1, rfl, (Bt_t ⟨by omega, kp, by omega, (by have := h_51.1; omega), hp4 (by have := h_51.1; omega), hp3, h_31, h_51⟩).symm, ht⟩) (fun _ h => by cases h) dX5_isReference_59
  · have c_5 : ¬ (t < T) := fun h9 => c_5 ((nI_ltI (a := t) (b := T) (by omega) (by omega)).mpr h9)
    refine lv_iconst (v := nI 0) hx hb dX5_isReference_8 (by decide) ?_
    exact W.zret (v := nI 0) hx hb hr (by decide) (fun t9 ht hW => ⟨nI 0, rfl, (Bt_f (fun h => by have := h.1; omega)).symm, ht⟩) (fun _ h => by cases h) dX5_isReference_9
