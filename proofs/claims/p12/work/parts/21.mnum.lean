theorem bt_lnegT {n : Nat} (h : n < 2 ^ 62) : (-lN n).toInt = -(n : Int) := by
  rw [Int64.toInt_neg, pk_lT (by omega)]
  exact Int.bmod_eq_of_le (by omega) (by omega)
theorem bt_lnegLT {n k : Nat} (h : n < 2 ^ 62) (hk : k < 2 ^ 62) : -lN n < -lN k ↔ k < n := by
  rw [Int64.lt_iff_toInt_lt, bt_lnegT h, bt_lnegT hk]
  omega
theorem bt_lposneg {n k : Nat} (h : n < 2 ^ 62) (hk : k < 2 ^ 62) (hk0 : 0 < k) : ¬ lN n < -lN k := fun q => by
  rw [Int64.lt_iff_toInt_lt, bt_lnegT hk, pk_lT (by omega)] at q
  omega
theorem bt_lnegpos {n k : Nat} (h : n < 2 ^ 62) (hk : k < 2 ^ 62) : ¬ lN k < -lN n := fun q => by
  rw [Int64.lt_iff_toInt_lt, bt_lnegT h, pk_lT (by omega)] at q
  omega
set_option maxHeartbeats 4000000 in
set_option maxRecDepth 100000 in
/-- number -/
theorem kX5_number (l : Launch) (D : va_G) (cB cI : ClassId) (mo : Nat) (Z : Nat → Nat) (v : Nat → Int32) (T len : Nat) (gt gf go : Nat → Int32) (BB fr tt : Nat → Nat) (t : Nat) (htx : ∀ i, i < len → gt i = nI (BB i) ∧ BB i < 128) (hlen : len ≤ 16000) (hT : T ≤ 16000) (htk : ∀ t, t < T → gf t = nI (fr t) ∧ go t = nI (tt t) ∧ fr t < tt t ∧ tt t ≤ len) (ht : t < T) (hdg : (BB (fr t) = 45 ∧ ∀ j, fr t + 1 ≤ j → j < tt t → dgP (BB j)) ∨ (¬ BB (fr t) = 45 ∧ ∀ j, fr t ≤ j → j < tt t → dgP (BB j))) : Met l yX5_number wsX5_number ({ frames := 0, cells := 0, slots := 0, locals := 0 }) (va_Pc [.ref mo, .int (nI t)] (bt_R D cB cI [(mo, .inr (5, [.ref (Z 0), .int (v 0), .int (v 1), .ref (Z 1), .int (v 2), .ref (Z 2), .ref (Z 3), .int (nI T), .int (v 3), .int (v 4), .ref (Z 4), .ref (Z 5), .ref (Z 6), .ref (Z 7), .ref (Z 8), .int (v 5), .int (v 6), .int (v 7)])), ((Z 1), .inl (cB, 16000, .inl gt)), ((Z 2), .inl (cI, 16002, .inl gf)), ((Z 3), .inl (cI, 16002, .inl go))])) (vp_Sl (fun r => (BB (fr t) = 45 → r = -lN (nv BB (fr t + 1) (tt t - (fr t + 1)))) ∧ (¬ BB (fr t) = 45 → r = lN (nv BB (fr t) (tt t - fr t))))) 0 0 (fun _ => False) := by
  refine Met.ofW (cc := cX5_number) (maxL := 6) (ret := (some .long)) (by decide) rfl ?_
  intro p e s m args below meth c s₁ B hml hv
  obtain ⟨rfl, hP, hK, hN⟩ := hv
  have hx := B.exec
  have hb := B.bytes
  have hr := B.returns
  have hts := atoms_spec (ws := wsX5_number) B.pre
  have hown : s.vm.findClass RX5 = some m.cls := findClass_of_methodNamed B.named
  have hlocks := B.notSynchronized
  have hl := lv_entry ([.ref mo, .int (nI t)]) (n := 6) (Nat.le_of_ble_eq_true rfl)
  rw [lg_entry_eq]
  generalize (lg_sl ([.ref mo, .int (nI t)]) ++ List.replicate (6 - (lg_sl ([.ref mo, .int (nI t)])).length) Slot.unset).toArray = ls at hl ⊢
  have hl : lv_has ls 6 [(0, .ref mo), (1, .int (nI t))] := hl
  obtain ⟨-, -, hf1, hf2⟩ := htk t ht
  refine bt_genQ (fun Q hQ => ?_)
  refine lv_aload_n hx hb dX5_number_0 rfl (lv_at hl 0 rfl) ?_
  refine va_get (D := D) (ci := 5) (v := .ref (Z 1)) (C := RX5) (T := TX5) (N := 18) hx hb hts (by decide +kernel) hown hK hP 0 rfl rfl 3 (by decide) (hts (.fieldLink RX5 13 "BodyTextModel" "text" "[B") (by decide +kernel)) (fun _ h9 => h9) rfl dX5_number_1 ?_
  refine lv_aload_n hx hb dX5_number_4 rfl (lv_at hl 0 rfl) ?_
  refine va_get (D := D) (ci := 5) (v := .ref (Z 2)) (C := RX5) (T := TX5) (N := 18) hx hb hts (by decide +kernel) hown hK hP 0 rfl rfl 5 (by decide) (hts (.fieldLink RX5 16 "BodyTextModel" "tokenFrom" "[I") (by decide +kernel)) (fun _ h9 => h9) rfl dX5_number_5 ?_
  refine lv_iload_n hx hb dX5_number_8 rfl (lv_at hl 1 rfl) ?_
  refine va_iald hx hb hK hP 2 1 rfl rfl (vp_in_nI (by omega) (by omega)) dX5_number_9 ?_
  rw [nI_clamp (by omega)]
  refine bt_topi (y := nI (fr t)) (htk t (by omega)).1 ?_
  refine va_bald hx hb hK hP 1 0 rfl rfl (vp_in_nI (by omega) (by omega)) dX5_number_10 ?_
  rw [nI_clamp (by omega)]
  have hb9 := htx (fr t) (by omega)
  refine bt_topi (y := nI (BB (fr t))) hb9.1 ?_
  refine lv_bipush (v := nI 45) hx hb dX5_number_11 (by decide) ?_
  refine lv_icmp_ne (tgt := 20) hx hb dX5_number_13 (by decide) (fun c_13 => ?_) (fun c_13 => ?_)
  · have c_13 : ¬ ((BB (fr t)) = 45) := fun h9 => c_13 ((nI_eq (a := (BB (fr t))) (b := 45) (by omega) (by omega)).mpr h9)
    have hdg9 := hdg.resolve_left (fun q => c_13 q.1)
    refine lv_iconst (v := nI 0) hx hb dX5_number_20 (by decide) ?_
    refine lv_istore_n (lv' := [(2, .int (nI 0)), (0, .ref mo), (1, .int (nI t))]) hx hb dX5_number_21 rfl hl (by decide) rfl (fun ls hl => ?_)
    refine lv_lconst (v := 0) hx hb dX5_number_22 (by decide) ?_
    refine lv_lstore_n (lv' := [(3, .long 0), (2, .int (nI 0)), (0, .ref mo), (1, .int (nI t))]) hx hb dX5_number_23 rfl hl (by decide) rfl (fun ls hl => ?_)
    refine lv_iload_n hx hb dX5_number_24 rfl (lv_at hl 1 rfl) ?_
    refine lv_if_eq (tgt := 39) hx hb dX5_number_25 (by decide) (fun c_25 => ?_) (fun c_25 => ?_)
    · clear c_25
      refine lv_aload_n hx hb dX5_number_39 rfl (lv_at hl 2 rfl) ?_
      refine va_get (D := D) (ci := 5) (v := .ref (Z 2)) (C := RX5) (T := TX5) (N := 18) hx hb hts (by decide +kernel) hown hK hP 0 rfl rfl 5 (by decide) (hts (.fieldLink RX5 16 "BodyTextModel" "tokenFrom" "[I") (by decide +kernel)) (fun _ h9 => h9) rfl dX5_number_40 ?_
      refine lv_iload_n hx hb dX5_number_43 rfl (lv_at hl 3 rfl) ?_
      refine va_iald hx hb hK hP 2 1 rfl rfl (vp_in_nI (by omega) (by omega)) dX5_number_44 ?_
      rw [nI_clamp (by omega)]
      refine bt_topi (y := nI (fr t)) (htk t (by omega)).1 ?_
      refine lv_istore (lv' := [(5, .int (nI (fr t))), (3, .long 0), (2, .int (nI 0)), (0, .ref mo), (1, .int (nI t))]) hx hb dX5_number_45 hl (by decide) rfl (fun ls hl => ?_)
      have hz0 : (0 : Int64) = lN (nv BB (fr t) ((fr t) - (fr t))) := by rw [Nat.sub_self]; rfl
      rw [hz0] at hl
      have loop_47 : ∀ (fu : Nat) (k : Nat), (tt t + 1 ≤ k + fu) → ((fr t) ≤ k) → (k ≤ tt t) → ∀ (ls : Array Slot), lv_has ls 6 [(0, .ref mo), (1, .int (nI t)), (2, .int (nI 0)), (3, .long (lN (nv BB (fr t) (k - (fr t))))), (5, .int (nI k))] → W p l e ({ frames := 0, cells := 0, slots := 0, locals := 0 } : Room) s m ([.ref mo, .int (nI t)] : List Value).toArray below meth c s.heap [] 0 0 Q (F0 m 47 ls []) := by
        intro fu
        induction fu with
        | zero => intro k hm hk1 hk2 ls hl; exfalso; omega
        | succ fu ih =>
          intro k hm hk1 hk2 ls hl
          refine lv_iload hx hb dX5_number_47 (lv_at hl 4 rfl) ?_
          refine lv_aload_n hx hb dX5_number_49 rfl (lv_at hl 0 rfl) ?_
          refine va_get (D := D) (ci := 5) (v := .ref (Z 3)) (C := RX5) (T := TX5) (N := 18) hx hb hts (by decide +kernel) hown hK hP 0 rfl rfl 6 (by decide) (hts (.fieldLink RX5 20 "BodyTextModel" "tokenTo" "[I") (by decide +kernel)) (fun _ h9 => h9) rfl dX5_number_50 ?_
          refine lv_iload_n hx hb dX5_number_53 rfl (lv_at hl 1 rfl) ?_
          refine va_iald hx hb hK hP 3 1 rfl rfl (vp_in_nI (by omega) (by omega)) dX5_number_54 ?_
          rw [nI_clamp (by omega)]
          refine bt_topi (y := nI (tt t)) (htk t (by omega)).2.1 ?_
          refine lv_icmp_ge (tgt := 83) hx hb dX5_number_55 (by decide) (fun c_55 => ?_) (fun c_55 => ?_)
          · have c_55 : (tt t) ≤ k := (nI_leI (a := (tt t)) (b := k) (by omega) (by omega)).mp c_55
            refine lv_iload_n hx hb dX5_number_83 rfl (lv_at hl 2 rfl) ?_
            refine lv_if_eq (tgt := 92) hx hb dX5_number_84 (by decide) (fun c_84 => ?_) (fun c_84 => ?_)
            · clear c_84
              refine lv_lload_n hx hb dX5_number_92 rfl (lv_at hl 3 rfl) ?_
              have hke : k = tt t := by omega
              rw [hQ]
              exact W.lret (v := (lN (nv BB (fr t) (k - (fr t))))) hx hb hr (fun t9 ht9 hW => ⟨(lN (nv BB (fr t) (k - (fr t)))), rfl, ⟨fun q => absurd q c_13, fun _ => by rw [hke]⟩, ht9⟩) (fun _ h => by cases h) dX5_number_93
            · exact absurd (by decide) c_84
          · have c_55 : ¬ ((tt t) ≤ k) := fun h9 => c_55 ((nI_leI (a := (tt t)) (b := k) (by omega) (by omega)).mpr h9)
            refine lv_ldc2 (own := RX5) (v := 10) hx hb hown (hts (.constantLong RX5 89 (10)) (by decide +kernel)) dX5_number_58 ?_
            refine lv_lload_n hx hb dX5_number_61 rfl (lv_at hl 3 rfl) ?_
            refine lv_lmul hx hb dX5_number_62 ?_
            refine bt_topl (y := lN (10 * nv BB (fr t) (k - (fr t)))) (bt_l10 _) ?_
            refine lv_aload_n hx hb dX5_number_63 rfl (lv_at hl 0 rfl) ?_
            refine va_get (D := D) (ci := 5) (v := .ref (Z 1)) (C := RX5) (T := TX5) (N := 18) hx hb hts (by decide +kernel) hown hK hP 0 rfl rfl 3 (by decide) (hts (.fieldLink RX5 13 "BodyTextModel" "text" "[B") (by decide +kernel)) (fun _ h9 => h9) rfl dX5_number_64 ?_
            refine lv_iload hx hb dX5_number_67 (lv_at hl 4 rfl) ?_
            refine va_bald hx hb hK hP 1 0 rfl rfl (vp_in_nI (by omega) (by omega)) dX5_number_69 ?_
            rw [nI_clamp (by omega)]
            have hb9 := htx k (by omega)
            refine bt_topi (y := nI (BB k)) hb9.1 ?_
            refine lv_i2l hx hb dX5_number_70 rfl ?_
            refine bt_topl (y := lN (BB k)) (nI_l (by omega)) ?_
            refine lv_ladd hx hb dX5_number_71 ?_
            refine lv_ldc2 (own := RX5) (v := 48) hx hb hown (hts (.constantLong RX5 91 (48)) (by decide +kernel)) dX5_number_72 ?_
            refine lv_lsub hx hb dX5_number_75 ?_
            have h48 := hdg9.2 k (by omega) (by omega)
            unfold dgP at h48
            refine bt_topl (y := lN (nv BB (fr t) (k + 1 - (fr t)))) (by rw [lN_add, show (48 : Int64) = lN 48 from rfl, lN_sub (by omega), show k + 1 - (fr t) = (k - (fr t)) + 1 by omega, nv, show (fr t) + (k - (fr t)) = k by omega]; congr 1; omega) ?_
            refine lv_lstore_n (lv' := [(3, .long (lN (nv BB (fr t) (k + 1 - (fr t))))), (0, .ref mo), (1, .int (nI t)), (2, .int (nI 0)), (5, .int (nI k))]) hx hb dX5_number_76 rfl hl (by decide) rfl (fun ls hl => ?_)
            refine lv_iinc (v := nI (k + 1)) (lv' := [(5, .int (nI (k + 1))), (3, .long (lN (nv BB (fr t) (k + 1 - (fr t))))), (0, .ref mo), (1, .int (nI t)), (2, .int (nI 0))]) hx hb dX5_number_77 hl (k := 4) rfl (nI_add k 1) (by decide) rfl (fun ls hl => ?_)
            refine lv_goto (tgt := 47) hx hb dX5_number_80 (by decide) ?_
            exact ih (k + 1) (by omega) (by omega) (by omega) ls (lv_sub hl [2, 3, 4, 1, 0] rfl)
      exact loop_47 (tt t + 1) (fr t) (by omega) (by omega) (by omega) ls (lv_sub hl [3, 4, 2, 1, 0] rfl)
    · exact absurd (by decide) c_25
  · have c_13 : (BB (fr t)) = 45 := (nI_eq (a := (BB (fr t))) (b := 45) (by omega) (by omega)).mp c_13
    have hdg9 := hdg.resolve_right (fun q => q.1 c_13)
    refine lv_iconst (v := nI 1) hx hb dX5_number_16 (by decide) ?_
    refine lv_goto (tgt := 21) hx hb dX5_number_17 (by decide) ?_
    refine lv_istore_n (lv' := [(2, .int (nI 1)), (0, .ref mo), (1, .int (nI t))]) hx hb dX5_number_21 rfl hl (by decide) rfl (fun ls hl => ?_)
    refine lv_lconst (v := 0) hx hb dX5_number_22 (by decide) ?_
    refine lv_lstore_n (lv' := [(3, .long 0), (2, .int (nI 1)), (0, .ref mo), (1, .int (nI t))]) hx hb dX5_number_23 rfl hl (by decide) rfl (fun ls hl => ?_)
    refine lv_iload_n hx hb dX5_number_24 rfl (lv_at hl 1 rfl) ?_
    refine lv_if_eq (tgt := 39) hx hb dX5_number_25 (by decide) (fun c_25 => ?_) (fun c_25 => ?_)
    · exact absurd c_25 (by decide)
    · clear c_25
      refine lv_aload_n hx hb dX5_number_28 rfl (lv_at hl 2 rfl) ?_
      refine va_get (D := D) (ci := 5) (v := .ref (Z 2)) (C := RX5) (T := TX5) (N := 18) hx hb hts (by decide +kernel) hown hK hP 0 rfl rfl 5 (by decide) (hts (.fieldLink RX5 16 "BodyTextModel" "tokenFrom" "[I") (by decide +kernel)) (fun _ h9 => h9) rfl dX5_number_29 ?_
      refine lv_iload_n hx hb dX5_number_32 rfl (lv_at hl 3 rfl) ?_
      refine va_iald hx hb hK hP 2 1 rfl rfl (vp_in_nI (by omega) (by omega)) dX5_number_33 ?_
      rw [nI_clamp (by omega)]
      refine bt_topi (y := nI (fr t)) (htk t (by omega)).1 ?_
      refine lv_iconst (v := nI 1) hx hb dX5_number_34 (by decide) ?_
      refine lv_iadd hx hb dX5_number_35 ?_
      refine bt_topi (y := nI ((fr t) + 1)) (nI_add _ _) ?_
      refine lv_goto (tgt := 45) hx hb dX5_number_36 (by decide) ?_
      refine lv_istore (lv' := [(5, .int (nI ((fr t) + 1))), (3, .long 0), (2, .int (nI 1)), (0, .ref mo), (1, .int (nI t))]) hx hb dX5_number_45 hl (by decide) rfl (fun ls hl => ?_)
      have hz0 : (0 : Int64) = lN (nv BB (fr t + 1) ((fr t + 1) - (fr t + 1))) := by rw [Nat.sub_self]; rfl
      rw [hz0] at hl
      have loop_47 : ∀ (fu : Nat) (k : Nat), (tt t + 1 ≤ k + fu) → ((fr t + 1) ≤ k) → (k ≤ tt t) → ∀ (ls : Array Slot), lv_has ls 6 [(0, .ref mo), (1, .int (nI t)), (2, .int (nI 1)), (3, .long (lN (nv BB (fr t + 1) (k - (fr t + 1))))), (5, .int (nI k))] → W p l e ({ frames := 0, cells := 0, slots := 0, locals := 0 } : Room) s m ([.ref mo, .int (nI t)] : List Value).toArray below meth c s.heap [] 0 0 Q (F0 m 47 ls []) := by
        intro fu
        induction fu with
        | zero => intro k hm hk1 hk2 ls hl; exfalso; omega
        | succ fu ih =>
          intro k hm hk1 hk2 ls hl
          refine lv_iload hx hb dX5_number_47 (lv_at hl 4 rfl) ?_
          refine lv_aload_n hx hb dX5_number_49 rfl (lv_at hl 0 rfl) ?_
          refine va_get (D := D) (ci := 5) (v := .ref (Z 3)) (C := RX5) (T := TX5) (N := 18) hx hb hts (by decide +kernel) hown hK hP 0 rfl rfl 6 (by decide) (hts (.fieldLink RX5 20 "BodyTextModel" "tokenTo" "[I") (by decide +kernel)) (fun _ h9 => h9) rfl dX5_number_50 ?_
          refine lv_iload_n hx hb dX5_number_53 rfl (lv_at hl 1 rfl) ?_
          refine va_iald hx hb hK hP 3 1 rfl rfl (vp_in_nI (by omega) (by omega)) dX5_number_54 ?_
          rw [nI_clamp (by omega)]
          refine bt_topi (y := nI (tt t)) (htk t (by omega)).2.1 ?_
          refine lv_icmp_ge (tgt := 83) hx hb dX5_number_55 (by decide) (fun c_55 => ?_) (fun c_55 => ?_)
          · have c_55 : (tt t) ≤ k := (nI_leI (a := (tt t)) (b := k) (by omega) (by omega)).mp c_55
            refine lv_iload_n hx hb dX5_number_83 rfl (lv_at hl 2 rfl) ?_
            refine lv_if_eq (tgt := 92) hx hb dX5_number_84 (by decide) (fun c_84 => ?_) (fun c_84 => ?_)
            · exact absurd c_84 (by decide)
            · clear c_84
              refine lv_lload_n hx hb dX5_number_87 rfl (lv_at hl 3 rfl) ?_
              refine lv_lneg hx hb dX5_number_88 ?_
              refine lv_goto (tgt := 93) hx hb dX5_number_89 (by decide) ?_
              have hke : k = tt t := by omega
              rw [hQ]
              exact W.lret (v := (-(lN (nv BB (fr t + 1) (k - (fr t + 1)))))) hx hb hr (fun t9 ht9 hW => ⟨(-(lN (nv BB (fr t + 1) (k - (fr t + 1))))), rfl, ⟨fun _ => by rw [hke], fun q => absurd c_13 q⟩, ht9⟩) (fun _ h => by cases h) dX5_number_93
          · have c_55 : ¬ ((tt t) ≤ k) := fun h9 => c_55 ((nI_leI (a := (tt t)) (b := k) (by omega) (by omega)).mpr h9)
            refine lv_ldc2 (own := RX5) (v := 10) hx hb hown (hts (.constantLong RX5 89 (10)) (by decide +kernel)) dX5_number_58 ?_
            refine lv_lload_n hx hb dX5_number_61 rfl (lv_at hl 3 rfl) ?_
            refine lv_lmul hx hb dX5_number_62 ?_
            refine bt_topl (y := lN (10 * nv BB (fr t + 1) (k - (fr t + 1)))) (bt_l10 _) ?_
            refine lv_aload_n hx hb dX5_number_63 rfl (lv_at hl 0 rfl) ?_
            refine va_get (D := D) (ci := 5) (v := .ref (Z 1)) (C := RX5) (T := TX5) (N := 18) hx hb hts (by decide +kernel) hown hK hP 0 rfl rfl 3 (by decide) (hts (.fieldLink RX5 13 "BodyTextModel" "text" "[B") (by decide +kernel)) (fun _ h9 => h9) rfl dX5_number_64 ?_
            refine lv_iload hx hb dX5_number_67 (lv_at hl 4 rfl) ?_
            refine va_bald hx hb hK hP 1 0 rfl rfl (vp_in_nI (by omega) (by omega)) dX5_number_69 ?_
            rw [nI_clamp (by omega)]
            have hb9 := htx k (by omega)
            refine bt_topi (y := nI (BB k)) hb9.1 ?_
            refine lv_i2l hx hb dX5_number_70 rfl ?_
            refine bt_topl (y := lN (BB k)) (nI_l (by omega)) ?_
            refine lv_ladd hx hb dX5_number_71 ?_
            refine lv_ldc2 (own := RX5) (v := 48) hx hb hown (hts (.constantLong RX5 91 (48)) (by decide +kernel)) dX5_number_72 ?_
            refine lv_lsub hx hb dX5_number_75 ?_
            have h48 := hdg9.2 k (by omega) (by omega)
            unfold dgP at h48
            refine bt_topl (y := lN (nv BB (fr t + 1) (k + 1 - (fr t + 1)))) (by rw [lN_add, show (48 : Int64) = lN 48 from rfl, lN_sub (by omega), show k + 1 - (fr t + 1) = (k - (fr t + 1)) + 1 by omega, nv, show (fr t + 1) + (k - (fr t + 1)) = k by omega]; congr 1; omega) ?_
            refine lv_lstore_n (lv' := [(3, .long (lN (nv BB (fr t + 1) (k + 1 - (fr t + 1))))), (0, .ref mo), (1, .int (nI t)), (2, .int (nI 1)), (5, .int (nI k))]) hx hb dX5_number_76 rfl hl (by decide) rfl (fun ls hl => ?_)
            refine lv_iinc (v := nI (k + 1)) (lv' := [(5, .int (nI (k + 1))), (3, .long (lN (nv BB (fr t + 1) (k + 1 - (fr t + 1))))), (0, .ref mo), (1, .int (nI t)), (2, .int (nI 1))]) hx hb dX5_number_77 hl (k := 4) rfl (nI_add k 1) (by decide) rfl (fun ls hl => ?_)
            refine lv_goto (tgt := 47) hx hb dX5_number_80 (by decide) ?_
            exact ih (k + 1) (by omega) (by omega) (by omega) ls (lv_sub hl [2, 3, 4, 1, 0] rfl)
      exact loop_47 (tt t + 1) (fr t + 1) (by omega) (by omega) (by omega) ls (lv_sub hl [3, 4, 2, 1, 0] rfl)
set_option maxHeartbeats 4000000 in
set_option maxRecDepth 100000 in
/-- isNumber -/
theorem kX5_isNumber (l : Launch) (D : va_G) (cB cI : ClassId) (mo : Nat) (Z : Nat → Nat) (v : Nat → Int32) (T len : Nat) (gt gf go : Nat → Int32) (BB fr tt : Nat → Nat) (t : Nat) (htx : ∀ i, i < len → gt i = nI (BB i) ∧ BB i < 128) (hlen : len ≤ 16000) (hT : T ≤ 16000) (htk : ∀ t, t < T → gf t = nI (fr t) ∧ go t = nI (tt t) ∧ fr t < tt t ∧ tt t ≤ len) (ht : t < 2 ^ 30) : Met l yX5_isNumber wsX5_isNumber ({ frames := 1, cells := 0, slots := 0, locals := 25 }) (va_Pc [.ref mo, .int (nI t)] (bt_R D cB cI [(mo, .inr (5, [.ref (Z 0), .int (v 0), .int (v 1), .ref (Z 1), .int (v 2), .ref (Z 2), .ref (Z 3), .int (nI T), .int (v 3), .int (v 4), .ref (Z 4), .ref (Z 5), .ref (Z 6), .ref (Z 7), .ref (Z 8), .int (v 5), .int (v 6), .int (v 7)])), ((Z 1), .inl (cB, 16000, .inl gt)), ((Z 2), .inl (cI, 16002, .inl gf)), ((Z 3), .inl (cI, 16002, .inl go))])) (vp_Si (fun r => r = Bt (t < T ∧ NumP BB (fr t) (tt t)))) 0 0 (fun _ => False) := by
  refine Met.ofW (cc := cX5_isNumber) (maxL := 5) (ret := (some .boolean)) (by decide) rfl ?_
  intro p e s m args below meth c s₁ B hml hv
  obtain ⟨rfl, hP, hK, hN⟩ := hv
  have hx := B.exec
  have hb := B.bytes
  have hr := B.returns
  have hts := atoms_spec (ws := wsX5_isNumber) B.pre
  have hown : s.vm.findClass RX5 = some m.cls := findClass_of_methodNamed B.named
  have hlocks := B.notSynchronized
  have hl := lv_entry ([.ref mo, .int (nI t)]) (n := 5) (Nat.le_of_ble_eq_true rfl)
  rw [lg_entry_eq]
  generalize (lg_sl ([.ref mo, .int (nI t)]) ++ List.replicate (5 - (lg_sl ([.ref mo, .int (nI t)])).length) Slot.unset).toArray = ls at hl ⊢
  have hl : lv_has ls 5 [(0, .ref mo), (1, .int (nI t))] := hl
  refine bt_genQ (fun Q hQ => ?_)
  refine lv_iload_n hx hb dX5_isNumber_0 rfl (lv_at hl 1 rfl) ?_
  refine lv_aload_n hx hb dX5_isNumber_1 rfl (lv_at hl 0 rfl) ?_
  refine va_get (D := D) (ci := 5) (v := .int (nI T)) (C := RX5) (T := TX5) (N := 18) hx hb hts (by decide +kernel) hown hK hP 0 rfl rfl 7 (by decide) (hts (.fieldLink RX5 56 "BodyTextModel" "tokens" "I") (by decide +kernel)) (fun _ h9 => h9) rfl dX5_isNumber_2 ?_
  refine lv_icmp_lt (tgt := 10) hx hb dX5_isNumber_5 (by decide) (fun c_5 => ?_) (fun c_5 => ?_)
  · have c_5 : t < T := (nI_ltI (a := t) (b := T) (by omega) (by omega)).mp c_5
    obtain ⟨-, -, hf1, hf2⟩ := htk t (by omega)
    refine lv_aload_n hx hb dX5_isNumber_10 rfl (lv_at hl 0 rfl) ?_
    refine va_get (D := D) (ci := 5) (v := .ref (Z 1)) (C := RX5) (T := TX5) (N := 18) hx hb hts (by decide +kernel) hown hK hP 0 rfl rfl 3 (by decide) (hts (.fieldLink RX5 13 "BodyTextModel" "text" "[B") (by decide +kernel)) (fun _ h9 => h9) rfl dX5_isNumber_11 ?_
    refine lv_aload_n hx hb dX5_isNumber_14 rfl (lv_at hl 0 rfl) ?_
    refine va_get (D := D) (ci := 5) (v := .ref (Z 2)) (C := RX5) (T := TX5) (N := 18) hx hb hts (by decide +kernel) hown hK hP 0 rfl rfl 5 (by decide) (hts (.fieldLink RX5 16 "BodyTextModel" "tokenFrom" "[I") (by decide +kernel)) (fun _ h9 => h9) rfl dX5_isNumber_15 ?_
    refine lv_iload_n hx hb dX5_isNumber_18 rfl (lv_at hl 1 rfl) ?_
    refine va_iald hx hb hK hP 2 1 rfl rfl (vp_in_nI (by omega) (by omega)) dX5_isNumber_19 ?_
    rw [nI_clamp (by omega)]
    refine bt_topi (y := nI (fr t)) (htk t (by omega)).1 ?_
    refine va_bald hx hb hK hP 1 0 rfl rfl (vp_in_nI (by omega) (by omega)) dX5_isNumber_20 ?_
    rw [nI_clamp (by omega)]
    have hb9 := htx (fr t) (by omega)
    refine bt_topi (y := nI (BB (fr t))) hb9.1 ?_
    refine lv_bipush (v := nI 45) hx hb dX5_isNumber_21 (by decide) ?_
    refine lv_icmp_ne (tgt := 37) hx hb dX5_isNumber_23 (by decide) (fun c_23 => ?_) (fun c_23 => ?_)
    · have c_23 : ¬ ((BB (fr t)) = 45) := fun h9 => c_23 ((nI_eq (a := (BB (fr t))) (b := 45) (by omega) (by omega)).mpr h9)
      refine lv_aload_n hx hb dX5_isNumber_37 rfl (lv_at hl 0 rfl) ?_
      refine va_get (D := D) (ci := 5) (v := .ref (Z 2)) (C := RX5) (T := TX5) (N := 18) hx hb hts (by decide +kernel) hown hK hP 0 rfl rfl 5 (by decide) (hts (.fieldLink RX5 16 "BodyTextModel" "tokenFrom" "[I") (by decide +kernel)) (fun _ h9 => h9) rfl dX5_isNumber_38 ?_
      refine lv_iload_n hx hb dX5_isNumber_41 rfl (lv_at hl 1 rfl) ?_
      refine va_iald hx hb hK hP 2 1 rfl rfl (vp_in_nI (by omega) (by omega)) dX5_isNumber_42 ?_
      rw [nI_clamp (by omega)]
      refine bt_topi (y := nI (fr t)) (htk t (by omega)).1 ?_
      refine lv_istore_n (lv' := [(2, .int (nI (fr t))), (0, .ref mo), (1, .int (nI t))]) hx hb dX5_isNumber_43 rfl hl (by decide) rfl (fun ls hl => ?_)
      refine lv_aload_n hx hb dX5_isNumber_44 rfl (lv_at hl 1 rfl) ?_
      refine va_get (D := D) (ci := 5) (v := .ref (Z 3)) (C := RX5) (T := TX5) (N := 18) hx hb hts (by decide +kernel) hown hK hP 0 rfl rfl 6 (by decide) (hts (.fieldLink RX5 20 "BodyTextModel" "tokenTo" "[I") (by decide +kernel)) (fun _ h9 => h9) rfl dX5_isNumber_45 ?_
      refine lv_iload_n hx hb dX5_isNumber_48 rfl (lv_at hl 2 rfl) ?_
      refine va_iald hx hb hK hP 3 1 rfl rfl (vp_in_nI (by omega) (by omega)) dX5_isNumber_49 ?_
      rw [nI_clamp (by omega)]
      refine bt_topi (y := nI (tt t)) (htk t (by omega)).2.1 ?_
      refine lv_iload_n hx hb dX5_isNumber_50 rfl (lv_at hl 0 rfl) ?_
      refine lv_isub hx hb dX5_isNumber_51 ?_
      refine bt_topi (y := nI ((tt t) - (fr t))) (pk_sub (by omega)) ?_
      refine lv_iconst (v := nI 1) hx hb dX5_isNumber_52 (by decide) ?_
      refine lv_icmp_lt (tgt := 69) hx hb dX5_isNumber_53 (by decide) (fun c_53 => ?_) (fun c_53 => ?_)
      · have c_53 : (tt t) - (fr t) < 1 := (nI_ltI (a := (tt t) - (fr t)) (b := 1) (by omega) (by omega)).mp c_53
        refine lv_iconst (v := nI 0) hx hb dX5_isNumber_69 (by decide) ?_
        rw [hQ]
        exact W.zret (v := nI 0) hx hb hr (by decide) (fun t9 ht hW => ⟨nI 0, rfl, (Bt_f (fun h => by obtain ⟨g1, g2, -⟩ := NumP_p h.2 c_23; omega)).symm, ht⟩) (fun _ h => by cases h) dX5_isNumber_70
      · have c_53 : ¬ ((tt t) - (fr t) < 1) := fun h9 => c_53 ((nI_ltI (a := (tt t) - (fr t)) (b := 1) (by omega) (by omega)).mpr h9)
        refine lv_aload_n hx hb dX5_isNumber_56 rfl (lv_at hl 1 rfl) ?_
        refine va_get (D := D) (ci := 5) (v := .ref (Z 3)) (C := RX5) (T := TX5) (N := 18) hx hb hts (by decide +kernel) hown hK hP 0 rfl rfl 6 (by decide) (hts (.fieldLink RX5 20 "BodyTextModel" "tokenTo" "[I") (by decide +kernel)) (fun _ h9 => h9) rfl dX5_isNumber_57 ?_
        refine lv_iload_n hx hb dX5_isNumber_60 rfl (lv_at hl 2 rfl) ?_
        refine va_iald hx hb hK hP 3 1 rfl rfl (vp_in_nI (by omega) (by omega)) dX5_isNumber_61 ?_
        rw [nI_clamp (by omega)]
        refine bt_topi (y := nI (tt t)) (htk t (by omega)).2.1 ?_
        refine lv_iload_n hx hb dX5_isNumber_62 rfl (lv_at hl 0 rfl) ?_
        refine lv_isub hx hb dX5_isNumber_63 ?_
        refine bt_topi (y := nI ((tt t) - (fr t))) (pk_sub (by omega)) ?_
        refine lv_bipush (v := nI 10) hx hb dX5_isNumber_64 (by decide) ?_
        refine lv_icmp_le (tgt := 71) hx hb dX5_isNumber_66 (by decide) (fun c_66 => ?_) (fun c_66 => ?_)
        · have c_66 : (tt t) - (fr t) ≤ 10 := (nI_leI (a := (tt t) - (fr t)) (b := 10) (by omega) (by omega)).mp c_66
          refine lv_iload_n hx hb dX5_isNumber_71 rfl (lv_at hl 0 rfl) ?_
          refine lv_istore_n (lv' := [(3, .int (nI (fr t))), (2, .int (nI (fr t))), (0, .ref mo), (1, .int (nI t))]) hx hb dX5_isNumber_72 rfl hl (by decide) rfl (fun ls hl => ?_)
          have loop_73 : ∀ (fu : Nat) (k : Nat), (tt t + 1 ≤ k + fu) → ((fr t) ≤ k) → (k ≤ tt t) → (∀ j, (fr t) ≤ j → j < k → dgP (BB j)) → ∀ (ls : Array Slot), lv_has ls 5 [(0, .ref mo), (1, .int (nI t)), (3, .int (nI k))] → W p l e ({ frames := 1, cells := 0, slots := 0, locals := 25 } : Room) s m ([.ref mo, .int (nI t)] : List Value).toArray below meth c s.heap [] 0 0 Q (F0 m 73 ls []) := by
            intro fu
            induction fu with
            | zero => intro k hm hk1 hk2 hdg ls hl; exfalso; omega
            | succ fu ih =>
              intro k hm hk1 hk2 hdg ls hl
              refine lv_iload_n hx hb dX5_isNumber_73 rfl (lv_at hl 2 rfl) ?_
              refine lv_aload_n hx hb dX5_isNumber_74 rfl (lv_at hl 0 rfl) ?_
              refine va_get (D := D) (ci := 5) (v := .ref (Z 3)) (C := RX5) (T := TX5) (N := 18) hx hb hts (by decide +kernel) hown hK hP 0 rfl rfl 6 (by decide) (hts (.fieldLink RX5 20 "BodyTextModel" "tokenTo" "[I") (by decide +kernel)) (fun _ h9 => h9) rfl dX5_isNumber_75 ?_
              refine lv_iload_n hx hb dX5_isNumber_78 rfl (lv_at hl 1 rfl) ?_
              refine va_iald hx hb hK hP 3 1 rfl rfl (vp_in_nI (by omega) (by omega)) dX5_isNumber_79 ?_
              rw [nI_clamp (by omega)]
              refine bt_topi (y := nI (tt t)) (htk t (by omega)).2.1 ?_
              refine lv_icmp_ge (tgt := 113) hx hb dX5_isNumber_80 (by decide) (fun c_80 => ?_) (fun c_80 => ?_)
              · have c_80 : (tt t) ≤ k := (nI_leI (a := (tt t)) (b := k) (by omega) (by omega)).mp c_80
                refine lv_aload_n hx hb dX5_isNumber_113 rfl (lv_at hl 0 rfl) ?_
                refine lv_iload_n hx hb dX5_isNumber_114 rfl (lv_at hl 1 rfl) ?_
                have hke : k = tt t := by omega
                rw [hke] at hdg
                have hnv := @nv_lt BB (fr t) (tt t - (fr t)) (fun j h1 h2 => hdg j h1 (by omega))
                have hpw : 10 ^ (tt t - (fr t)) ≤ 10 ^ 10 := Nat.pow_le_pow_right (by decide) (by omega)
                have hPc := hP.sub (ws' := [(mo, .inr (5, [.ref (Z 0), .int (v 0), .int (v 1), .ref (Z 1), .int (v 2), .ref (Z 2), .ref (Z 3), .int (nI T), .int (v 3), .int (v 4), .ref (Z 4), .ref (Z 5), .ref (Z 6), .ref (Z 7), .ref (Z 8), .int (v 5), .int (v 6), .int (v 7)])), ((Z 1), .inl (cB, 16000, .inl gt)), ((Z 2), .inl (cI, 16002, .inl gf)), ((Z 3), .inl (cI, 16002, .inl go))]) [0, 1, 2, 3] rfl
                refine vp_callSl (va_runV (As := [.int (nI t)]) (rest := []) ⟨hx, hb, hml, hown, hts⟩ (kX5_number l D cB cI mo Z v T len gt gf go BB fr tt t htx hlen hT htk (by omega) (Or.inr ⟨c_23, hdg⟩)) (cwV 1 hts gX5_isNumber_X5_number rfl rfl rfl (by decide +kernel) ⟨Nat.le_of_ble_eq_true rfl, Nat.le_of_ble_eq_true rfl⟩) ⟨fun a U g mk q => ⟨q.1, q.2.calling⟩, va_recv hK hPc (ci := 5) (q0 := 0) rfl rfl, fun U hU hW => ⟨rfl, bt_R.of hU hW hPc hK hN⟩⟩ rfl rfl hl.1 rfl (lv_room (Nat.le_of_ble_eq_true rfl)) dX5_isNumber_115 ⟨Nat.zero_le _, Nat.zero_le _⟩).run (fun r_115 hr_115 => ?_)
                obtain rfl := hr_115.2 c_23
                refine lv_lstore_n (lv' := [(3, .long (lN (nv BB (fr t) (tt t - (fr t))))), (0, .ref mo), (1, .int (nI t))]) hx hb dX5_isNumber_118 rfl hl (by decide) rfl (fun ls hl => ?_)
                refine lv_lload_n hx hb dX5_isNumber_119 rfl (lv_at hl 0 rfl) ?_
                refine lv_ldc2 (own := RX5) (v := -2147483648) hx hb hown (hts (.constantLong RX5 85 (-2147483648)) (by decide +kernel)) dX5_isNumber_120 ?_
                refine bt_topl (y := (-lN 2147483648)) (by decide) ?_
                refine W.lcmp hx hb dX5_isNumber_123 ?_
                refine lv_if_lt (tgt := 139) hx hb dX5_isNumber_124 (by decide) (fun c_124 => ?_) (fun c_124 => ?_)
                · refine lv_iconst (v := nI 0) hx hb dX5_isNumber_139 (by decide) ?_
                  rw [hQ]
                  exact W.zret (v := nI 0) hx hb hr (by decide) (fun t9 ht hW => ⟨nI 0, rfl, (absurd ((lg_cmp_lt _ _).mp c_124) (bt_lposneg (by omega) (by decide) (by decide))), ht⟩) (fun _ h => by cases h) dX5_isNumber_140
                · refine lv_lload_n hx hb dX5_isNumber_127 rfl (lv_at hl 0 rfl) ?_
                  refine lv_ldc2 (own := RX5) (v := 2147483647) hx hb hown (hts (.constantLong RX5 87 (2147483647)) (by decide +kernel)) dX5_isNumber_128 ?_
                  refine bt_topl (y := (lN 2147483647)) (by decide) ?_
                  refine W.lcmp hx hb dX5_isNumber_131 ?_
                  refine lv_if_gt (tgt := 139) hx hb dX5_isNumber_132 (by decide) (fun c_132 => ?_) (fun c_132 => ?_)
                  · refine lv_iconst (v := nI 0) hx hb dX5_isNumber_139 (by decide) ?_
                    rw [hQ]
                    exact W.zret (v := nI 0) hx hb hr (by decide) (fun t9 ht hW => ⟨nI 0, rfl, (Bt_f (fun h => by have := (NumP_p h.2 c_23).2.2.2; have h9 := (pk_lLT (by omega) (by omega)).mp ((lg_cmp_gt _ _).mp c_132); omega)).symm, ht⟩) (fun _ h => by cases h) dX5_isNumber_140
                  · refine lv_iconst (v := nI 1) hx hb dX5_isNumber_135 (by decide) ?_
                    refine lv_goto (tgt := 140) hx hb dX5_isNumber_136 (by decide) ?_
                    rw [hQ]
                    exact W.zret (v := nI 1) hx hb hr (by decide) (fun t9 ht hW => ⟨nI 1, rfl, (Bt_t ⟨by omega, Or.inr ⟨c_23, by omega, by omega, hdg, by have h9 : ¬ 2147483647 < nv BB (fr t) (tt t - (fr t)) := fun q => c_132 ((lg_cmp_gt _ _).mpr ((pk_lLT (by omega) (by omega)).mpr q)); omega⟩⟩).symm, ht⟩) (fun _ h => by cases h) dX5_isNumber_140
              · have c_80 : ¬ ((tt t) ≤ k) := fun h9 => c_80 ((nI_leI (a := (tt t)) (b := k) (by omega) (by omega)).mpr h9)
                refine lv_aload_n hx hb dX5_isNumber_83 rfl (lv_at hl 0 rfl) ?_
                refine va_get (D := D) (ci := 5) (v := .ref (Z 1)) (C := RX5) (T := TX5) (N := 18) hx hb hts (by decide +kernel) hown hK hP 0 rfl rfl 3 (by decide) (hts (.fieldLink RX5 13 "BodyTextModel" "text" "[B") (by decide +kernel)) (fun _ h9 => h9) rfl dX5_isNumber_84 ?_
                refine lv_iload_n hx hb dX5_isNumber_87 rfl (lv_at hl 2 rfl) ?_
                refine va_bald hx hb hK hP 1 0 rfl rfl (vp_in_nI (by omega) (by omega)) dX5_isNumber_88 ?_
                rw [nI_clamp (by omega)]
                have hb9 := htx k (by omega)
                refine bt_topi (y := nI (BB k)) hb9.1 ?_
                refine lv_bipush (v := nI 48) hx hb dX5_isNumber_89 (by decide) ?_
                refine lv_icmp_lt (tgt := 105) hx hb dX5_isNumber_91 (by decide) (fun c_91 => ?_) (fun c_91 => ?_)
                · have c_91 : (BB k) < 48 := (nI_ltI (a := (BB k)) (b := 48) (by omega) (by omega)).mp c_91
                  refine lv_iconst (v := nI 0) hx hb dX5_isNumber_105 (by decide) ?_
                  rw [hQ]
                  exact W.zret (v := nI 0) hx hb hr (by decide) (fun t9 ht hW => ⟨nI 0, rfl, (Bt_f (fun h => by have h9 := (NumP_p h.2 c_23).2.2.1 k (by omega) (by omega); unfold dgP at h9; omega)).symm, ht⟩) (fun _ h => by cases h) dX5_isNumber_106
                · have c_91 : ¬ ((BB k) < 48) := fun h9 => c_91 ((nI_ltI (a := (BB k)) (b := 48) (by omega) (by omega)).mpr h9)
                  refine lv_aload_n hx hb dX5_isNumber_94 rfl (lv_at hl 0 rfl) ?_
                  refine va_get (D := D) (ci := 5) (v := .ref (Z 1)) (C := RX5) (T := TX5) (N := 18) hx hb hts (by decide +kernel) hown hK hP 0 rfl rfl 3 (by decide) (hts (.fieldLink RX5 13 "BodyTextModel" "text" "[B") (by decide +kernel)) (fun _ h9 => h9) rfl dX5_isNumber_95 ?_
                  refine lv_iload_n hx hb dX5_isNumber_98 rfl (lv_at hl 2 rfl) ?_
                  refine va_bald hx hb hK hP 1 0 rfl rfl (vp_in_nI (by omega) (by omega)) dX5_isNumber_99 ?_
                  rw [nI_clamp (by omega)]
                  have hb9 := htx k (by omega)
                  refine bt_topi (y := nI (BB k)) hb9.1 ?_
                  refine lv_bipush (v := nI 57) hx hb dX5_isNumber_100 (by decide) ?_
                  refine lv_icmp_le (tgt := 107) hx hb dX5_isNumber_102 (by decide) (fun c_102 => ?_) (fun c_102 => ?_)
                  · have c_102 : (BB k) ≤ 57 := (nI_leI (a := (BB k)) (b := 57) (by omega) (by omega)).mp c_102
                    refine lv_iinc (v := nI (k + 1)) (lv' := [(3, .int (nI (k + 1))), (0, .ref mo), (1, .int (nI t))]) hx hb dX5_isNumber_107 hl (k := 2) rfl (nI_add k 1) (by decide) rfl (fun ls hl => ?_)
                    refine lv_goto (tgt := 73) hx hb dX5_isNumber_110 (by decide) ?_
                    exact ih (k + 1) (by omega) (by omega) (by omega) (fun j h1 h2 => by rcases Nat.lt_or_ge j k with q | q; exact hdg j h1 q; rw [show j = k by omega]; unfold dgP; omega) ls (lv_sub hl [1, 2, 0] rfl)
                  · have c_102 : ¬ ((BB k) ≤ 57) := fun h9 => c_102 ((nI_leI (a := (BB k)) (b := 57) (by omega) (by omega)).mpr h9)
                    refine lv_iconst (v := nI 0) hx hb dX5_isNumber_105 (by decide) ?_
                    rw [hQ]
                    exact W.zret (v := nI 0) hx hb hr (by decide) (fun t9 ht hW => ⟨nI 0, rfl, (Bt_f (fun h => by have h9 := (NumP_p h.2 c_23).2.2.1 k (by omega) (by omega); unfold dgP at h9; omega)).symm, ht⟩) (fun _ h => by cases h) dX5_isNumber_106
          exact loop_73 (tt t + 1) (fr t) (by omega) (by omega) (by omega) (fun j h1 h2 => by omega) ls (lv_sub hl [2, 3, 0] rfl)
        · have c_66 : ¬ ((tt t) - (fr t) ≤ 10) := fun h9 => c_66 ((nI_leI (a := (tt t) - (fr t)) (b := 10) (by omega) (by omega)).mpr h9)
          refine lv_iconst (v := nI 0) hx hb dX5_isNumber_69 (by decide) ?_
          rw [hQ]
          exact W.zret (v := nI 0) hx hb hr (by decide) (fun t9 ht hW => ⟨nI 0, rfl, (Bt_f (fun h => by obtain ⟨g1, g2, -⟩ := NumP_p h.2 c_23; omega)).symm, ht⟩) (fun _ h => by cases h) dX5_isNumber_70
    · have c_23 : (BB (fr t)) = 45 := (nI_eq (a := (BB (fr t))) (b := 45) (by omega) (by omega)).mp c_23
      refine lv_aload_n hx hb dX5_isNumber_26 rfl (lv_at hl 0 rfl) ?_
      refine va_get (D := D) (ci := 5) (v := .ref (Z 2)) (C := RX5) (T := TX5) (N := 18) hx hb hts (by decide +kernel) hown hK hP 0 rfl rfl 5 (by decide) (hts (.fieldLink RX5 16 "BodyTextModel" "tokenFrom" "[I") (by decide +kernel)) (fun _ h9 => h9) rfl dX5_isNumber_27 ?_
      refine lv_iload_n hx hb dX5_isNumber_30 rfl (lv_at hl 1 rfl) ?_
      refine va_iald hx hb hK hP 2 1 rfl rfl (vp_in_nI (by omega) (by omega)) dX5_isNumber_31 ?_
      rw [nI_clamp (by omega)]
      refine bt_topi (y := nI (fr t)) (htk t (by omega)).1 ?_
      refine lv_iconst (v := nI 1) hx hb dX5_isNumber_32 (by decide) ?_
      refine lv_iadd hx hb dX5_isNumber_33 ?_
      refine bt_topi (y := nI ((fr t) + 1)) (nI_add _ _) ?_
      refine lv_goto (tgt := 43) hx hb dX5_isNumber_34 (by decide) ?_
      refine lv_istore_n (lv' := [(2, .int (nI ((fr t) + 1))), (0, .ref mo), (1, .int (nI t))]) hx hb dX5_isNumber_43 rfl hl (by decide) rfl (fun ls hl => ?_)
      refine lv_aload_n hx hb dX5_isNumber_44 rfl (lv_at hl 1 rfl) ?_
      refine va_get (D := D) (ci := 5) (v := .ref (Z 3)) (C := RX5) (T := TX5) (N := 18) hx hb hts (by decide +kernel) hown hK hP 0 rfl rfl 6 (by decide) (hts (.fieldLink RX5 20 "BodyTextModel" "tokenTo" "[I") (by decide +kernel)) (fun _ h9 => h9) rfl dX5_isNumber_45 ?_
      refine lv_iload_n hx hb dX5_isNumber_48 rfl (lv_at hl 2 rfl) ?_
      refine va_iald hx hb hK hP 3 1 rfl rfl (vp_in_nI (by omega) (by omega)) dX5_isNumber_49 ?_
      rw [nI_clamp (by omega)]
      refine bt_topi (y := nI (tt t)) (htk t (by omega)).2.1 ?_
      refine lv_iload_n hx hb dX5_isNumber_50 rfl (lv_at hl 0 rfl) ?_
      refine lv_isub hx hb dX5_isNumber_51 ?_
      refine bt_topi (y := nI ((tt t) - ((fr t) + 1))) (pk_sub (by omega)) ?_
      refine lv_iconst (v := nI 1) hx hb dX5_isNumber_52 (by decide) ?_
      refine lv_icmp_lt (tgt := 69) hx hb dX5_isNumber_53 (by decide) (fun c_53 => ?_) (fun c_53 => ?_)
      · have c_53 : (tt t) - ((fr t) + 1) < 1 := (nI_ltI (a := (tt t) - ((fr t) + 1)) (b := 1) (by omega) (by omega)).mp c_53
        refine lv_iconst (v := nI 0) hx hb dX5_isNumber_69 (by decide) ?_
        rw [hQ]
        exact W.zret (v := nI 0) hx hb hr (by decide) (fun t9 ht hW => ⟨nI 0, rfl, (Bt_f (fun h => by obtain ⟨g1, g2, -⟩ := NumP_m h.2 c_23; omega)).symm, ht⟩) (fun _ h => by cases h) dX5_isNumber_70
      · have c_53 : ¬ ((tt t) - ((fr t) + 1) < 1) := fun h9 => c_53 ((nI_ltI (a := (tt t) - ((fr t) + 1)) (b := 1) (by omega) (by omega)).mpr h9)
        refine lv_aload_n hx hb dX5_isNumber_56 rfl (lv_at hl 1 rfl) ?_
        refine va_get (D := D) (ci := 5) (v := .ref (Z 3)) (C := RX5) (T := TX5) (N := 18) hx hb hts (by decide +kernel) hown hK hP 0 rfl rfl 6 (by decide) (hts (.fieldLink RX5 20 "BodyTextModel" "tokenTo" "[I") (by decide +kernel)) (fun _ h9 => h9) rfl dX5_isNumber_57 ?_
        refine lv_iload_n hx hb dX5_isNumber_60 rfl (lv_at hl 2 rfl) ?_
        refine va_iald hx hb hK hP 3 1 rfl rfl (vp_in_nI (by omega) (by omega)) dX5_isNumber_61 ?_
        rw [nI_clamp (by omega)]
        refine bt_topi (y := nI (tt t)) (htk t (by omega)).2.1 ?_
        refine lv_iload_n hx hb dX5_isNumber_62 rfl (lv_at hl 0 rfl) ?_
        refine lv_isub hx hb dX5_isNumber_63 ?_
        refine bt_topi (y := nI ((tt t) - ((fr t) + 1))) (pk_sub (by omega)) ?_
        refine lv_bipush (v := nI 10) hx hb dX5_isNumber_64 (by decide) ?_
        refine lv_icmp_le (tgt := 71) hx hb dX5_isNumber_66 (by decide) (fun c_66 => ?_) (fun c_66 => ?_)
        · have c_66 : (tt t) - ((fr t) + 1) ≤ 10 := (nI_leI (a := (tt t) - ((fr t) + 1)) (b := 10) (by omega) (by omega)).mp c_66
          refine lv_iload_n hx hb dX5_isNumber_71 rfl (lv_at hl 0 rfl) ?_
          refine lv_istore_n (lv' := [(3, .int (nI ((fr t) + 1))), (2, .int (nI ((fr t) + 1))), (0, .ref mo), (1, .int (nI t))]) hx hb dX5_isNumber_72 rfl hl (by decide) rfl (fun ls hl => ?_)
          have loop_73 : ∀ (fu : Nat) (k : Nat), (tt t + 1 ≤ k + fu) → ((fr t + 1) ≤ k) → (k ≤ tt t) → (∀ j, (fr t + 1) ≤ j → j < k → dgP (BB j)) → ∀ (ls : Array Slot), lv_has ls 5 [(0, .ref mo), (1, .int (nI t)), (3, .int (nI k))] → W p l e ({ frames := 1, cells := 0, slots := 0, locals := 25 } : Room) s m ([.ref mo, .int (nI t)] : List Value).toArray below meth c s.heap [] 0 0 Q (F0 m 73 ls []) := by
            intro fu
            induction fu with
            | zero => intro k hm hk1 hk2 hdg ls hl; exfalso; omega
            | succ fu ih =>
              intro k hm hk1 hk2 hdg ls hl
              refine lv_iload_n hx hb dX5_isNumber_73 rfl (lv_at hl 2 rfl) ?_
              refine lv_aload_n hx hb dX5_isNumber_74 rfl (lv_at hl 0 rfl) ?_
              refine va_get (D := D) (ci := 5) (v := .ref (Z 3)) (C := RX5) (T := TX5) (N := 18) hx hb hts (by decide +kernel) hown hK hP 0 rfl rfl 6 (by decide) (hts (.fieldLink RX5 20 "BodyTextModel" "tokenTo" "[I") (by decide +kernel)) (fun _ h9 => h9) rfl dX5_isNumber_75 ?_
              refine lv_iload_n hx hb dX5_isNumber_78 rfl (lv_at hl 1 rfl) ?_
              refine va_iald hx hb hK hP 3 1 rfl rfl (vp_in_nI (by omega) (by omega)) dX5_isNumber_79 ?_
              rw [nI_clamp (by omega)]
              refine bt_topi (y := nI (tt t)) (htk t (by omega)).2.1 ?_
              refine lv_icmp_ge (tgt := 113) hx hb dX5_isNumber_80 (by decide) (fun c_80 => ?_) (fun c_80 => ?_)
              · have c_80 : (tt t) ≤ k := (nI_leI (a := (tt t)) (b := k) (by omega) (by omega)).mp c_80
                refine lv_aload_n hx hb dX5_isNumber_113 rfl (lv_at hl 0 rfl) ?_
                refine lv_iload_n hx hb dX5_isNumber_114 rfl (lv_at hl 1 rfl) ?_
                have hke : k = tt t := by omega
                rw [hke] at hdg
                have hnv := @nv_lt BB (fr t + 1) (tt t - (fr t + 1)) (fun j h1 h2 => hdg j h1 (by omega))
                have hpw : 10 ^ (tt t - (fr t + 1)) ≤ 10 ^ 10 := Nat.pow_le_pow_right (by decide) (by omega)
                have hPc := hP.sub (ws' := [(mo, .inr (5, [.ref (Z 0), .int (v 0), .int (v 1), .ref (Z 1), .int (v 2), .ref (Z 2), .ref (Z 3), .int (nI T), .int (v 3), .int (v 4), .ref (Z 4), .ref (Z 5), .ref (Z 6), .ref (Z 7), .ref (Z 8), .int (v 5), .int (v 6), .int (v 7)])), ((Z 1), .inl (cB, 16000, .inl gt)), ((Z 2), .inl (cI, 16002, .inl gf)), ((Z 3), .inl (cI, 16002, .inl go))]) [0, 1, 2, 3] rfl
                refine vp_callSl (va_runV (As := [.int (nI t)]) (rest := []) ⟨hx, hb, hml, hown, hts⟩ (kX5_number l D cB cI mo Z v T len gt gf go BB fr tt t htx hlen hT htk (by omega) (Or.inl ⟨c_23, hdg⟩)) (cwV 1 hts gX5_isNumber_X5_number rfl rfl rfl (by decide +kernel) ⟨Nat.le_of_ble_eq_true rfl, Nat.le_of_ble_eq_true rfl⟩) ⟨fun a U g mk q => ⟨q.1, q.2.calling⟩, va_recv hK hPc (ci := 5) (q0 := 0) rfl rfl, fun U hU hW => ⟨rfl, bt_R.of hU hW hPc hK hN⟩⟩ rfl rfl hl.1 rfl (lv_room (Nat.le_of_ble_eq_true rfl)) dX5_isNumber_115 ⟨Nat.zero_le _, Nat.zero_le _⟩).run (fun r_115 hr_115 => ?_)
                obtain rfl := hr_115.1 c_23
                refine lv_lstore_n (lv' := [(3, .long (-lN (nv BB (fr t + 1) (tt t - (fr t + 1))))), (0, .ref mo), (1, .int (nI t))]) hx hb dX5_isNumber_118 rfl hl (by decide) rfl (fun ls hl => ?_)
                refine lv_lload_n hx hb dX5_isNumber_119 rfl (lv_at hl 0 rfl) ?_
                refine lv_ldc2 (own := RX5) (v := -2147483648) hx hb hown (hts (.constantLong RX5 85 (-2147483648)) (by decide +kernel)) dX5_isNumber_120 ?_
                refine bt_topl (y := (-lN 2147483648)) (by decide) ?_
                refine W.lcmp hx hb dX5_isNumber_123 ?_
                refine lv_if_lt (tgt := 139) hx hb dX5_isNumber_124 (by decide) (fun c_124 => ?_) (fun c_124 => ?_)
                · refine lv_iconst (v := nI 0) hx hb dX5_isNumber_139 (by decide) ?_
                  rw [hQ]
                  exact W.zret (v := nI 0) hx hb hr (by decide) (fun t9 ht hW => ⟨nI 0, rfl, (Bt_f (fun h => by have := (NumP_m h.2 c_23).2.2.2; have h9 := (bt_lnegLT (by omega) (by decide)).mp ((lg_cmp_lt _ _).mp c_124); omega)).symm, ht⟩) (fun _ h => by cases h) dX5_isNumber_140
                · refine lv_lload_n hx hb dX5_isNumber_127 rfl (lv_at hl 0 rfl) ?_
                  refine lv_ldc2 (own := RX5) (v := 2147483647) hx hb hown (hts (.constantLong RX5 87 (2147483647)) (by decide +kernel)) dX5_isNumber_128 ?_
                  refine bt_topl (y := (lN 2147483647)) (by decide) ?_
                  refine W.lcmp hx hb dX5_isNumber_131 ?_
                  refine lv_if_gt (tgt := 139) hx hb dX5_isNumber_132 (by decide) (fun c_132 => ?_) (fun c_132 => ?_)
                  · refine lv_iconst (v := nI 0) hx hb dX5_isNumber_139 (by decide) ?_
                    rw [hQ]
                    exact W.zret (v := nI 0) hx hb hr (by decide) (fun t9 ht hW => ⟨nI 0, rfl, (absurd ((lg_cmp_gt _ _).mp c_132) (bt_lnegpos (by omega) (by decide))), ht⟩) (fun _ h => by cases h) dX5_isNumber_140
                  · refine lv_iconst (v := nI 1) hx hb dX5_isNumber_135 (by decide) ?_
                    refine lv_goto (tgt := 140) hx hb dX5_isNumber_136 (by decide) ?_
                    rw [hQ]
                    exact W.zret (v := nI 1) hx hb hr (by decide) (fun t9 ht hW => ⟨nI 1, rfl, (Bt_t ⟨by omega, Or.inl ⟨c_23, by omega, by omega, hdg, by have h9 : ¬ 2147483648 < nv BB (fr t + 1) (tt t - (fr t + 1)) := fun q => c_124 ((lg_cmp_lt _ _).mpr ((bt_lnegLT (by omega) (by decide)).mpr q)); omega⟩⟩).symm, ht⟩) (fun _ h => by cases h) dX5_isNumber_140
              · have c_80 : ¬ ((tt t) ≤ k) := fun h9 => c_80 ((nI_leI (a := (tt t)) (b := k) (by omega) (by omega)).mpr h9)
                refine lv_aload_n hx hb dX5_isNumber_83 rfl (lv_at hl 0 rfl) ?_
                refine va_get (D := D) (ci := 5) (v := .ref (Z 1)) (C := RX5) (T := TX5) (N := 18) hx hb hts (by decide +kernel) hown hK hP 0 rfl rfl 3 (by decide) (hts (.fieldLink RX5 13 "BodyTextModel" "text" "[B") (by decide +kernel)) (fun _ h9 => h9) rfl dX5_isNumber_84 ?_
                refine lv_iload_n hx hb dX5_isNumber_87 rfl (lv_at hl 2 rfl) ?_
                refine va_bald hx hb hK hP 1 0 rfl rfl (vp_in_nI (by omega) (by omega)) dX5_isNumber_88 ?_
                rw [nI_clamp (by omega)]
                have hb9 := htx k (by omega)
                refine bt_topi (y := nI (BB k)) hb9.1 ?_
                refine lv_bipush (v := nI 48) hx hb dX5_isNumber_89 (by decide) ?_
                refine lv_icmp_lt (tgt := 105) hx hb dX5_isNumber_91 (by decide) (fun c_91 => ?_) (fun c_91 => ?_)
                · have c_91 : (BB k) < 48 := (nI_ltI (a := (BB k)) (b := 48) (by omega) (by omega)).mp c_91
                  refine lv_iconst (v := nI 0) hx hb dX5_isNumber_105 (by decide) ?_
                  rw [hQ]
                  exact W.zret (v := nI 0) hx hb hr (by decide) (fun t9 ht hW => ⟨nI 0, rfl, (Bt_f (fun h => by have h9 := (NumP_m h.2 c_23).2.2.1 k (by omega) (by omega); unfold dgP at h9; omega)).symm, ht⟩) (fun _ h => by cases h) dX5_isNumber_106
                · have c_91 : ¬ ((BB k) < 48) := fun h9 => c_91 ((nI_ltI (a := (BB k)) (b := 48) (by omega) (by omega)).mpr h9)
                  refine lv_aload_n hx hb dX5_isNumber_94 rfl (lv_at hl 0 rfl) ?_
                  refine va_get (D := D) (ci := 5) (v := .ref (Z 1)) (C := RX5) (T := TX5) (N := 18) hx hb hts (by decide +kernel) hown hK hP 0 rfl rfl 3 (by decide) (hts (.fieldLink RX5 13 "BodyTextModel" "text" "[B") (by decide +kernel)) (fun _ h9 => h9) rfl dX5_isNumber_95 ?_
                  refine lv_iload_n hx hb dX5_isNumber_98 rfl (lv_at hl 2 rfl) ?_
                  refine va_bald hx hb hK hP 1 0 rfl rfl (vp_in_nI (by omega) (by omega)) dX5_isNumber_99 ?_
                  rw [nI_clamp (by omega)]
                  have hb9 := htx k (by omega)
                  refine bt_topi (y := nI (BB k)) hb9.1 ?_
                  refine lv_bipush (v := nI 57) hx hb dX5_isNumber_100 (by decide) ?_
                  refine lv_icmp_le (tgt := 107) hx hb dX5_isNumber_102 (by decide) (fun c_102 => ?_) (fun c_102 => ?_)
                  · have c_102 : (BB k) ≤ 57 := (nI_leI (a := (BB k)) (b := 57) (by omega) (by omega)).mp c_102
                    refine lv_iinc (v := nI (k + 1)) (lv' := [(3, .int (nI (k + 1))), (0, .ref mo), (1, .int (nI t))]) hx hb dX5_isNumber_107 hl (k := 2) rfl (nI_add k 1) (by decide) rfl (fun ls hl => ?_)
                    refine lv_goto (tgt := 73) hx hb dX5_isNumber_110 (by decide) ?_
                    exact ih (k + 1) (by omega) (by omega) (by omega) (fun j h1 h2 => by rcases Nat.lt_or_ge j k with q | q; exact hdg j h1 q; rw [show j = k by omega]; unfold dgP; omega) ls (lv_sub hl [1, 2, 0] rfl)
                  · have c_102 : ¬ ((BB k) ≤ 57) := fun h9 => c_102 ((nI_leI (a := (BB k)) (b := 57) (by omega) (by omega)).mpr h9)
                    refine lv_iconst (v := nI 0) hx hb dX5_isNumber_105 (by decide) ?_
                    rw [hQ]
                    exact W.zret (v := nI 0) hx hb hr (by decide) (fun t9 ht hW => ⟨nI 0, rfl, (Bt_f (fun h => by have h9 := (NumP_m h.2 c_23).2.2.1 k (by omega) (by omega); unfold dgP at h9; omega)).symm, ht⟩) (fun _ h => by cases h) dX5_isNumber_106
          exact loop_73 (tt t + 1) (fr t + 1) (by omega) (by omega) (by omega) (fun j h1 h2 => by omega) ls (lv_sub hl [2, 3, 0] rfl)
        · have c_66 : ¬ ((tt t) - ((fr t) + 1) ≤ 10) := fun h9 => c_66 ((nI_leI (a := (tt t) - ((fr t) + 1)) (b := 10) (by omega) (by omega)).mpr h9)
          refine lv_iconst (v := nI 0) hx hb dX5_isNumber_69 (by decide) ?_
          rw [hQ]
          exact W.zret (v := nI 0) hx hb hr (by decide) (fun t9 ht hW => ⟨nI 0, rfl, (Bt_f (fun h => by obtain ⟨g1, g2, -⟩ := NumP_m h.2 c_23; omega)).symm, ht⟩) (fun _ h => by cases h) dX5_isNumber_70
  · have c_5 : ¬ (t < T) := fun h9 => c_5 ((nI_ltI (a := t) (b := T) (by omega) (by omega)).mpr h9)
    refine lv_iconst (v := nI 0) hx hb dX5_isNumber_8 (by decide) ?_
    rw [hQ]
    exact W.zret (v := nI 0) hx hb hr (by decide) (fun t9 ht hW => ⟨nI 0, rfl, (Bt_f (fun h => by have := h.1; omega)).symm, ht⟩) (fun _ h => by cases h) dX5_isNumber_9
set_option maxHeartbeats 4000000 in
set_option maxRecDepth 100000 in
/-- among -/
theorem kX5_among (l : Launch) (D : va_G) (cB cI : ClassId) (mo : Nat) (Z : Nat → Nat) (v : Nat → Int32) (T len : Nat) (gt gf go : Nat → Int32) (BB fr tt : Nat → Nat) (cs : List Nat) (aK aV b0 e0 : Nat) (wrds : List (List Nat)) (htx : ∀ i, i < len → gt i = nI (BB i) ∧ BB i < 128) (hlen : len ≤ 16000) (hok : bt_ok cs) (hcl : cs.length ≤ 10000) (hb0 : b0 < e0) (he0 : e0 ≤ len) (hcs : cs = 32 :: flatW wrds) (hno0 : ∀ w, w ∈ wrds → ∀ j, j < w.length → w.getD j 0 ≠ 32) : Met l yX5_among wsX5_among ({ frames := 4, cells := 0, slots := 0, locals := 85 }) (va_Pc [.ref mo, .int (nI b0), .int (nI e0), .ref aK] (bt_RT D cB cI [(mo, .inr (5, [.ref (Z 0), .int (v 0), .int (v 1), .ref (Z 1), .int (v 2), .ref (Z 2), .ref (Z 3), .int (nI T), .int (v 3), .int (v 4), .ref (Z 4), .ref (Z 5), .ref (Z 6), .ref (Z 7), .ref (Z 8), .int (v 5), .int (v 6), .int (v 7)])), ((Z 1), .inl (cB, 16000, .inl gt)), ((Z 2), .inl (cI, 16002, .inl gf)), ((Z 3), .inl (cI, 16002, .inl go))] cs aK aV)) (vp_Si (fun r => r = ixW BB b0 e0 wrds 0)) 0 0 (fun _ => False) := by
  refine Met.ofW (cc := cX5_among) (maxL := 9) (ret := (some .int)) (by decide) rfl ?_
  intro p e s m args below meth c s₁ B hml hv
  obtain ⟨rfl, ⟨hP, hK, hN⟩, hT9, hJ⟩ := hv
  have hx := B.exec
  have hb := B.bytes
  have hr := B.returns
  have hts := atoms_spec (ws := wsX5_among) B.pre
  have hown : s.vm.findClass RX5 = some m.cls := findClass_of_methodNamed B.named
  have hlocks := B.notSynchronized
  have hl := lv_entry ([.ref mo, .int (nI b0), .int (nI e0), .ref aK]) (n := 9) (Nat.le_of_ble_eq_true rfl)
  rw [lg_entry_eq]
  generalize (lg_sl ([.ref mo, .int (nI b0), .int (nI e0), .ref aK]) ++ List.replicate (9 - (lg_sl ([.ref mo, .int (nI b0), .int (nI e0), .ref aK])).length) Slot.unset).toArray = ls at hl ⊢
  have hl : lv_has ls 9 [(0, .ref mo), (1, .int (nI b0)), (2, .int (nI e0)), (3, .ref aK)] := hl
  have hS : va_S (fun _ => False) s.heap s.heap [] := va_S.rf
  refine bt_genQ (fun Q hQ => ?_)
  refine lv_iconst (v := nI 0) hx hb dX5_among_0 (by decide) ?_
  refine lv_istore (lv' := [(4, .int (nI 0)), (0, .ref mo), (1, .int (nI b0)), (2, .int (nI e0)), (3, .ref aK)]) hx hb dX5_among_1 hl (by decide) rfl (fun ls hl => ?_)
  refine lv_iconst (v := nI 1) hx hb dX5_among_3 (by decide) ?_
  refine lv_istore (lv' := [(5, .int (nI 1)), (4, .int (nI 0)), (0, .ref mo), (1, .int (nI b0)), (2, .int (nI e0)), (3, .ref aK)]) hx hb dX5_among_4 hl (by decide) rfl (fun ls hl => ?_)
  have loop_6 : ∀ (fu : Nat) (pp : Nat) (k : Nat) (rest : List (List Nat)), (cs.length + 1 ≤ k + fu) → (cs.drop k = flatW rest) → (ixW BB b0 e0 rest pp = ixW BB b0 e0 wrds 0) → (∀ w, w ∈ rest → ∀ j, j < w.length → w.getD j 0 ≠ 32) → (pp ≤ k) → (k ≤ cs.length) → ∀ (ls : Array Slot), lv_has ls 9 [(0, .ref mo), (1, .int (nI b0)), (2, .int (nI e0)), (3, .ref aK), (4, .int (nI pp)), (5, .int (nI k))] → W p l e ({ frames := 4, cells := 0, slots := 0, locals := 85 } : Room) s m ([.ref mo, .int (nI b0), .int (nI e0), .ref aK] : List Value).toArray below meth c s.heap [] 0 0 Q (F0 m 6 ls []) := by
    intro fu
    induction fu with
    | zero => intro pp k rest hm hd hX hno hpp hkl ls hl; exfalso; omega
    | succ fu ih =>
      intro pp k rest hm hd hX hno hpp hkl ls hl
      refine lv_iload hx hb dX5_among_6 (lv_at hl 5 rfl) ?_
      refine lv_aload_n hx hb dX5_among_8 rfl (lv_at hl 3 rfl) ?_
      refine vp_callSi (va_runV (As := []) (rest := [.int (nI k)]) ⟨hx, hb, hml, hown, hts⟩ (kJ0_length_8abf5 l cs aK aV hok.1) (cwV 0 hts gX5_among_J0_length_8abf5 rfl rfl rfl (by decide +kernel) ⟨Nat.le_of_ble_eq_true rfl, Nat.le_of_ble_eq_true rfl⟩) ⟨fun a U g mk q => ⟨q.1, q.2.calling⟩, bt_Tr hT9, fun U hU hW => ⟨rfl, bt_TJ.of hU hW hT9 hJ⟩⟩ rfl rfl hl.1 rfl (lv_room (Nat.le_of_ble_eq_true rfl)) dX5_among_9 ⟨Nat.zero_le _, Nat.zero_le _⟩).run (fun r_9 hr_9 => ?_)
      subst hr_9
      refine lv_icmp_ge (tgt := 124) hx hb dX5_among_12 (by decide) (fun c_12 => ?_) (fun c_12 => ?_)
      · have c_12 : cs.length ≤ k := (nI_leI (a := cs.length) (b := k) (by omega) (by omega)).mp c_12
        refine lv_iconst (v := -1) hx hb dX5_among_124 (by decide) ?_
        rw [hQ]
        exact W.iret (v := (-1)) hx hb hr (fun t9 ht hW => ⟨(-1), rfl, (by rw [← hX]; cases rest with | nil => rfl | cons w2 r2 => exact absurd (fl_at (cs := cs) (a := k) (w := w2) (t := flatW r2) (by rw [hd]; rfl)).2.2.2 (by omega)), ht⟩) (fun _ h => by cases h) dX5_among_125
      · have c_12 : ¬ (cs.length ≤ k) := fun h9 => c_12 ((nI_leI (a := cs.length) (b := k) (by omega) (by omega)).mpr h9)
        obtain ⟨wc, rc, hrest⟩ : ∃ w r, rest = w :: r := by
          cases rest with
          | nil => exact absurd (fl_nil hd) (by omega)
          | cons w2 r2 => exact ⟨w2, r2, rfl⟩
        have hf := fl_at (cs := cs) (a := k) (w := wc) (t := flatW rc) (by rw [hd, hrest]; rfl)
        have hlf := hf.2.2.2
        have hnw0 := hno wc (by rw [hrest]; exact List.mem_cons_self)
        refine lv_iload hx hb dX5_among_15 (lv_at hl 5 rfl) ?_
        refine lv_istore (lv' := [(6, .int (nI k)), (0, .ref mo), (1, .int (nI b0)), (2, .int (nI e0)), (3, .ref aK), (4, .int (nI pp)), (5, .int (nI k))]) hx hb dX5_among_17 hl (by decide) rfl (fun ls hl => ?_)
        have loop_19 : ∀ (fu2 : Nat) (ee : Nat), (k + wc.length + 1 ≤ ee + fu2) → (k ≤ ee) → (ee ≤ k + wc.length) → ∀ (ls : Array Slot), lv_has ls 9 [(0, .ref mo), (1, .int (nI b0)), (2, .int (nI e0)), (3, .ref aK), (4, .int (nI pp)), (5, .int (nI k)), (6, .int (nI ee))] → W p l e ({ frames := 4, cells := 0, slots := 0, locals := 85 } : Room) s m ([.ref mo, .int (nI b0), .int (nI e0), .ref aK] : List Value).toArray below meth c s.heap [] 0 0 Q (F0 m 19 ls []) := by
          intro fu2
          induction fu2 with
          | zero => intro ee hm2 he1 he2 ls hl; exfalso; omega
          | succ fu2 ih2 =>
            intro ee hm2 he1 he2 ls hl
            have hch := hok.2 ee
            refine lv_aload_n hx hb dX5_among_19 rfl (lv_at hl 3 rfl) ?_
            refine lv_iload hx hb dX5_among_20 (lv_at hl 6 rfl) ?_
            refine vp_callSi (va_runV (As := [.int (nI ee)]) (rest := []) ⟨hx, hb, hml, hown, hts⟩ (kJ0_charAt_5068e l cs aK aV ee (by omega) hok) (cwV 1 hts gX5_among_J0_charAt_5068e rfl rfl rfl (by decide +kernel) ⟨Nat.le_of_ble_eq_true rfl, Nat.le_of_ble_eq_true rfl⟩) ⟨fun a U g mk q => ⟨q.1, q.2.calling⟩, bt_Tr hT9, fun U hU hW => ⟨rfl, bt_TJ.of hU hW hT9 hJ⟩⟩ rfl rfl hl.1 rfl (lv_room (Nat.le_of_ble_eq_true rfl)) dX5_among_22 ⟨Nat.zero_le _, Nat.zero_le _⟩).run (fun r_22 hr_22 => ?_)
            subst hr_22
            refine lv_bipush (v := nI 32) hx hb dX5_among_25 (by decide) ?_
            refine lv_icmp_eq (tgt := 36) hx hb dX5_among_27 (by decide) (fun c_27 => ?_) (fun c_27 => ?_)
            · have c_27 : (cs.getD ee 0) = 32 := (nI_eq (a := (cs.getD ee 0)) (b := 32) (by omega) (by omega)).mp c_27
              have hee : ee = k + wc.length := by
                rcases Nat.lt_or_ge ee (k + wc.length) with q | q
                · have h1 := hf.1 (ee - k) (by omega)
                  rw [show k + (ee - k) = ee by omega, c_27] at h1
                  exact absurd h1.symm (hnw0 (ee - k) (by omega))
                · omega
              refine lv_iload hx hb dX5_among_36 (lv_at hl 6 rfl) ?_
              refine lv_iload hx hb dX5_among_38 (lv_at hl 5 rfl) ?_
              refine lv_isub hx hb dX5_among_40 ?_
              refine bt_topi (y := nI (ee - k)) (pk_sub (by omega)) ?_
              refine lv_iload_n hx hb dX5_among_41 rfl (lv_at hl 2 rfl) ?_
              refine lv_iload_n hx hb dX5_among_42 rfl (lv_at hl 1 rfl) ?_
              refine lv_isub hx hb dX5_among_43 ?_
              refine bt_topi (y := nI (e0 - b0)) (pk_sub (by omega)) ?_
              refine lv_icmp_ne (tgt := 51) hx hb dX5_among_44 (by decide) (fun c_44 => ?_) (fun c_44 => ?_)
              · have c_44 : ¬ (ee - k = e0 - b0) := fun h9 => c_44 ((nI_eq (a := ee - k) (b := e0 - b0) (by omega) (by omega)).mpr h9)
                refine lv_iconst (v := nI 0) hx hb dX5_among_51 (by decide) ?_
                refine lv_istore (lv' := [(7, .int (nI 0)), (0, .ref mo), (1, .int (nI b0)), (2, .int (nI e0)), (3, .ref aK), (4, .int (nI pp)), (5, .int (nI k)), (6, .int (nI ee))]) hx hb dX5_among_52 hl (by decide) rfl (fun ls hl => ?_)
                refine lv_iconst (v := nI 0) hx hb dX5_among_54 (by decide) ?_
                refine lv_istore (lv' := [(8, .int (nI 0)), (7, .int (nI 0)), (0, .ref mo), (1, .int (nI b0)), (2, .int (nI e0)), (3, .ref aK), (4, .int (nI pp)), (5, .int (nI k)), (6, .int (nI ee))]) hx hb dX5_among_55 hl (by decide) rfl (fun ls hl => ?_)
                have hnw : ¬ WdP BB b0 e0 wc := fun h => by have := h.1; omega
                refine lv_iload hx hb dX5_among_57 (lv_at hl 1 rfl) ?_
                refine lv_if_eq (tgt := 104) hx hb dX5_among_59 (by decide) (fun c_59 => ?_) (fun c_59 => ?_)
                · clear c_59
                  refine lv_iload hx hb dX5_among_104 (lv_at hl 1 rfl) ?_
                  refine lv_if_eq (tgt := 112) hx hb dX5_among_106 (by decide) (fun c_106 => ?_) (fun c_106 => ?_)
                  · clear c_106
                    refine lv_iinc (v := nI (pp + 1)) (lv' := [(4, .int (nI (pp + 1))), (8, .int (nI 0)), (7, .int (nI 0)), (0, .ref mo), (1, .int (nI b0)), (2, .int (nI e0)), (3, .ref aK), (5, .int (nI k)), (6, .int (nI ee))]) hx hb dX5_among_112 hl (k := 6) rfl (nI_add pp 1) (by decide) rfl (fun ls hl => ?_)
                    refine lv_iload hx hb dX5_among_115 (lv_at hl 8 rfl) ?_
                    refine lv_iconst (v := nI 1) hx hb dX5_among_117 (by decide) ?_
                    refine lv_iadd hx hb dX5_among_118 ?_
                    refine bt_topi (y := nI (ee + 1)) (nI_add _ _) ?_
                    refine lv_istore (lv' := [(5, .int (nI (ee + 1))), (4, .int (nI (pp + 1))), (8, .int (nI 0)), (7, .int (nI 0)), (0, .ref mo), (1, .int (nI b0)), (2, .int (nI e0)), (3, .ref aK), (6, .int (nI ee))]) hx hb dX5_among_119 hl (by decide) rfl (fun ls hl => ?_)
                    refine lv_goto (tgt := 6) hx hb dX5_among_121 (by decide) ?_
                    exact ih (pp + 1) (ee + 1) rc (by omega) (by rw [hee]; exact hf.2.2.1) (by rw [← hX, hrest, ixW_f hnw]) (fun w2 hw2 => hno w2 (by rw [hrest]; exact List.mem_cons_of_mem _ hw2)) (by omega) (by omega) ls (lv_sub hl [4, 5, 6, 7, 1, 0] rfl)
                  · exact absurd (by decide) c_106
                · exact absurd (by decide) c_59
              · have c_44 : ee - k = e0 - b0 := (nI_eq (a := ee - k) (b := e0 - b0) (by omega) (by omega)).mp c_44
                refine lv_iconst (v := nI 1) hx hb dX5_among_47 (by decide) ?_
                refine lv_goto (tgt := 52) hx hb dX5_among_48 (by decide) ?_
                refine lv_istore (lv' := [(7, .int (nI 1)), (0, .ref mo), (1, .int (nI b0)), (2, .int (nI e0)), (3, .ref aK), (4, .int (nI pp)), (5, .int (nI k)), (6, .int (nI ee))]) hx hb dX5_among_52 hl (by decide) rfl (fun ls hl => ?_)
                refine lv_iconst (v := nI 0) hx hb dX5_among_54 (by decide) ?_
                refine lv_istore (lv' := [(8, .int (nI 0)), (7, .int (nI 1)), (0, .ref mo), (1, .int (nI b0)), (2, .int (nI e0)), (3, .ref aK), (4, .int (nI pp)), (5, .int (nI k)), (6, .int (nI ee))]) hx hb dX5_among_55 hl (by decide) rfl (fun ls hl => ?_)
                have loop_57 : ∀ (fu3 : Nat) (jj : Nat) (sm : Bool), (e0 - b0 + 1 ≤ jj + fu3) → (jj ≤ e0 - b0) → (sm = true → ∀ i, i < jj → BB (b0 + i) = wc.getD i 0) → (sm = false → ¬ WdP BB b0 e0 wc) → ∀ (ls : Array Slot), lv_has ls 9 [(0, .ref mo), (1, .int (nI b0)), (2, .int (nI e0)), (3, .ref aK), (4, .int (nI pp)), (5, .int (nI k)), (6, .int (nI ee)), (7, .int (bI sm)), (8, .int (nI jj))] → W p l e ({ frames := 4, cells := 0, slots := 0, locals := 85 } : Room) s m ([.ref mo, .int (nI b0), .int (nI e0), .ref aK] : List Value).toArray below meth c s.heap [] 0 0 Q (F0 m 57 ls []) := by
                  intro fu3
                  induction fu3 with
                  | zero => intro jj sm hm3 hj1 hsm hns ls hl; exfalso; omega
                  | succ fu3 ih3 =>
                    intro jj sm hm3 hj1 hsm hns ls hl
                    refine lv_iload hx hb dX5_among_57 (lv_at hl 7 rfl) ?_
                    refine lv_if_eq (tgt := 104) hx hb dX5_among_59 (by decide) (fun c_59 => ?_) (fun c_59 => ?_)
                    · have hnw : ¬ WdP BB b0 e0 wc := hns (bI_0 c_59)
                      refine lv_iload hx hb dX5_among_104 (lv_at hl 7 rfl) ?_
                      refine lv_if_eq (tgt := 112) hx hb dX5_among_106 (by decide) (fun c_106 => ?_) (fun c_106 => ?_)
                      · refine lv_iinc (v := nI (pp + 1)) (lv' := [(4, .int (nI (pp + 1))), (0, .ref mo), (1, .int (nI b0)), (2, .int (nI e0)), (3, .ref aK), (5, .int (nI k)), (6, .int (nI ee)), (7, .int (bI sm)), (8, .int (nI jj))]) hx hb dX5_among_112 hl (k := 4) rfl (nI_add pp 1) (by decide) rfl (fun ls hl => ?_)
                        refine lv_iload hx hb dX5_among_115 (lv_at hl 6 rfl) ?_
                        refine lv_iconst (v := nI 1) hx hb dX5_among_117 (by decide) ?_
                        refine lv_iadd hx hb dX5_among_118 ?_
                        refine bt_topi (y := nI (ee + 1)) (nI_add _ _) ?_
                        refine lv_istore (lv' := [(5, .int (nI (ee + 1))), (4, .int (nI (pp + 1))), (0, .ref mo), (1, .int (nI b0)), (2, .int (nI e0)), (3, .ref aK), (6, .int (nI ee)), (7, .int (bI sm)), (8, .int (nI jj))]) hx hb dX5_among_119 hl (by decide) rfl (fun ls hl => ?_)
                        refine lv_goto (tgt := 6) hx hb dX5_among_121 (by decide) ?_
                        exact ih (pp + 1) (ee + 1) rc (by omega) (by rw [hee]; exact hf.2.2.1) (by rw [← hX, hrest, ixW_f hnw]) (fun w2 hw2 => hno w2 (by rw [hrest]; exact List.mem_cons_of_mem _ hw2)) (by omega) (by omega) ls (lv_sub hl [2, 3, 4, 5, 1, 0] rfl)
                      · exact absurd (bI_1 c_106) (by rw [bI_0 c_59]; decide)
                    · refine lv_iload hx hb dX5_among_62 (lv_at hl 8 rfl) ?_
                      refine lv_iload_n hx hb dX5_among_64 rfl (lv_at hl 2 rfl) ?_
                      refine lv_iload_n hx hb dX5_among_65 rfl (lv_at hl 1 rfl) ?_
                      refine lv_isub hx hb dX5_among_66 ?_
                      refine bt_topi (y := nI (e0 - b0)) (pk_sub (by omega)) ?_
                      refine lv_icmp_ge (tgt := 104) hx hb dX5_among_67 (by decide) (fun c_67 => ?_) (fun c_67 => ?_)
                      · have c_67 : e0 - b0 ≤ jj := (nI_leI (a := e0 - b0) (b := jj) (by omega) (by omega)).mp c_67
                        have hyw : WdP BB b0 e0 wc := ⟨by omega, fun i hi => hsm (bI_1 c_59) i (by omega)⟩
                        refine lv_iload hx hb dX5_among_104 (lv_at hl 7 rfl) ?_
                        refine lv_if_eq (tgt := 112) hx hb dX5_among_106 (by decide) (fun c_106 => ?_) (fun c_106 => ?_)
                        · exact absurd (bI_0 c_106) (by rw [bI_1 c_59]; decide)
                        · refine lv_iload hx hb dX5_among_109 (lv_at hl 4 rfl) ?_
                          rw [hQ]
                          exact W.iret (v := nI pp) hx hb hr (fun t9 ht hW => ⟨nI pp, rfl, (by rw [← hX, hrest, ixW_t hyw]), ht⟩) (fun _ h => by cases h) dX5_among_111
                      · have c_67 : ¬ (e0 - b0 ≤ jj) := fun h9 => c_67 ((nI_leI (a := e0 - b0) (b := jj) (by omega) (by omega)).mpr h9)
                        refine lv_aload_n hx hb dX5_among_70 rfl (lv_at hl 0 rfl) ?_
                        refine va_get (D := D) (ci := 5) (v := .ref (Z 1)) (C := RX5) (T := TX5) (N := 18) hx hb hts (by decide +kernel) hown hK hP 0 rfl rfl 3 (by decide) (hts (.fieldLink RX5 13 "BodyTextModel" "text" "[B") (by decide +kernel)) (fun _ h9 => h9) rfl dX5_among_71 ?_
                        refine lv_iload_n hx hb dX5_among_74 rfl (lv_at hl 1 rfl) ?_
                        refine lv_iload hx hb dX5_among_75 (lv_at hl 8 rfl) ?_
                        refine lv_iadd hx hb dX5_among_77 ?_
                        refine bt_topi (y := nI (b0 + jj)) (nI_add _ _) ?_
                        refine va_bald hx hb hK hP 1 0 rfl rfl (vp_in_nI (by omega) (by omega)) dX5_among_78 ?_
                        rw [nI_clamp (by omega)]
                        have hb9 := htx (b0 + jj) (by omega)
                        refine bt_topi (y := nI (BB (b0 + jj))) hb9.1 ?_
                        refine lv_aload_n hx hb dX5_among_79 rfl (lv_at hl 3 rfl) ?_
                        refine lv_iload hx hb dX5_among_80 (lv_at hl 5 rfl) ?_
                        refine lv_iload hx hb dX5_among_82 (lv_at hl 8 rfl) ?_
                        refine lv_iadd hx hb dX5_among_84 ?_
                        refine bt_topi (y := nI (k + jj)) (nI_add _ _) ?_
                        refine vp_callSi (va_runV (As := [.int (nI (k + jj))]) (rest := [.int (nI (BB (b0 + jj)))]) ⟨hx, hb, hml, hown, hts⟩ (kJ0_charAt_5068e l cs aK aV (k + jj) (by omega) hok) (cwV 1 hts gX5_among_J0_charAt_5068e rfl rfl rfl (by decide +kernel) ⟨Nat.le_of_ble_eq_true rfl, Nat.le_of_ble_eq_true rfl⟩) ⟨fun a U g mk q => ⟨q.1, q.2.calling⟩, bt_Tr hT9, fun U hU hW => ⟨rfl, bt_TJ.of hU hW hT9 hJ⟩⟩ rfl rfl hl.1 rfl (lv_room (Nat.le_of_ble_eq_true rfl)) dX5_among_85 ⟨Nat.zero_le _, Nat.zero_le _⟩).run (fun r_85 hr_85 => ?_)
                        subst hr_85
                        have hch2 := hok.2 (k + jj)
                        have hb8 := htx (b0 + jj) (by omega)
                        refine lv_icmp_ne (tgt := 95) hx hb dX5_among_88 (by decide) (fun c_88 => ?_) (fun c_88 => ?_)
                        · have c_88 : ¬ ((BB (b0 + jj)) = (cs.getD (k + jj) 0)) := fun h9 => c_88 ((nI_eq (a := (BB (b0 + jj))) (b := (cs.getD (k + jj) 0)) (by omega) (by omega)).mpr h9)
                          refine lv_iconst (v := nI 0) hx hb dX5_among_95 (by decide) ?_
                          refine lv_istore (lv' := [(7, .int (nI 0)), (0, .ref mo), (1, .int (nI b0)), (2, .int (nI e0)), (3, .ref aK), (4, .int (nI pp)), (5, .int (nI k)), (6, .int (nI ee)), (8, .int (nI jj))]) hx hb dX5_among_96 hl (by decide) rfl (fun ls hl => ?_)
                          refine lv_iinc (v := nI (jj + 1)) (lv' := [(8, .int (nI (jj + 1))), (7, .int (nI 0)), (0, .ref mo), (1, .int (nI b0)), (2, .int (nI e0)), (3, .ref aK), (4, .int (nI pp)), (5, .int (nI k)), (6, .int (nI ee))]) hx hb dX5_among_98 hl (k := 8) rfl (nI_add jj 1) (by decide) rfl (fun ls hl => ?_)
                          refine lv_goto (tgt := 57) hx hb dX5_among_101 (by decide) ?_
                          exact ih3 (jj + 1) false (by omega) (by omega) (fun h => by cases h) (fun _ h => c_88 (by rw [h.2 jj (by omega)]; exact (hf.1 jj (by omega)).symm)) ls (lv_sub hl [2, 3, 4, 5, 6, 7, 8, 1, 0] rfl)
                        · have c_88 : (BB (b0 + jj)) = (cs.getD (k + jj) 0) := (nI_eq (a := (BB (b0 + jj))) (b := (cs.getD (k + jj) 0)) (by omega) (by omega)).mp c_88
                          refine lv_iconst (v := nI 1) hx hb dX5_among_91 (by decide) ?_
                          refine lv_goto (tgt := 96) hx hb dX5_among_92 (by decide) ?_
                          refine lv_istore (lv' := [(7, .int (nI 1)), (0, .ref mo), (1, .int (nI b0)), (2, .int (nI e0)), (3, .ref aK), (4, .int (nI pp)), (5, .int (nI k)), (6, .int (nI ee)), (8, .int (nI jj))]) hx hb dX5_among_96 hl (by decide) rfl (fun ls hl => ?_)
                          refine lv_iinc (v := nI (jj + 1)) (lv' := [(8, .int (nI (jj + 1))), (7, .int (nI 1)), (0, .ref mo), (1, .int (nI b0)), (2, .int (nI e0)), (3, .ref aK), (4, .int (nI pp)), (5, .int (nI k)), (6, .int (nI ee))]) hx hb dX5_among_98 hl (k := 8) rfl (nI_add jj 1) (by decide) rfl (fun ls hl => ?_)
                          refine lv_goto (tgt := 57) hx hb dX5_among_101 (by decide) ?_
                          exact ih3 (jj + 1) true (by omega) (by omega) (fun _ i hi => by rcases Nat.lt_or_ge i jj with q | q; exact hsm (bI_1 c_59) i q; rw [show i = jj by omega, c_88]; exact hf.1 jj (by omega)) (fun h => by cases h) ls (lv_sub hl [2, 3, 4, 5, 6, 7, 8, 1, 0] rfl)
                exact loop_57 (e0 - b0 + 1) 0 true (by omega) (by omega) (fun _ i hi => by omega) (fun h => by cases h) ls (lv_sub hl [2, 3, 4, 5, 6, 7, 8, 1, 0] rfl)
            · have c_27 : ¬ ((cs.getD ee 0) = 32) := fun h9 => c_27 ((nI_eq (a := (cs.getD ee 0)) (b := 32) (by omega) (by omega)).mpr h9)
              refine lv_iinc (v := nI (ee + 1)) (lv' := [(6, .int (nI (ee + 1))), (0, .ref mo), (1, .int (nI b0)), (2, .int (nI e0)), (3, .ref aK), (4, .int (nI pp)), (5, .int (nI k))]) hx hb dX5_among_30 hl (k := 6) rfl (nI_add ee 1) (by decide) rfl (fun ls hl => ?_)
              refine lv_goto (tgt := 19) hx hb dX5_among_33 (by decide) ?_
              exact ih2 (ee + 1) (by omega) (by omega) (by have : ee ≠ k + wc.length := (fun q => c_27 (by rw [q]; exact hf.2.1)); omega) ls (lv_sub hl [1, 2, 3, 4, 5, 6, 0] rfl)
        exact loop_19 (wc.length + 1) k (by omega) (by omega) (by omega) ls (lv_sub hl [1, 2, 3, 4, 5, 6, 0] rfl)
  exact loop_6 (cs.length + 1) 0 1 wrds (by omega) (by rw [hcs]; rfl) rfl hno0 (by omega) (by rw [hcs, List.length_cons]; omega) ls (lv_sub hl [2, 3, 4, 5, 1, 0] rfl)
