/-- byte i of packed ints, the highest first -/
def bY (f : Nat → Int32) (i : Nat) : Nat := (f (i / 4)).toBitVec.toNat / 2 ^ (24 - 8 * (i % 4)) % 256
theorem bY_lt (f : Nat → Int32) (i : Nat) : bY f i < 256 := Nat.mod_lt _ (by decide)
theorem bt_su : ∀ n, n < 32 → (((nI n).toUInt32 &&& Int32.toUInt32 31).toBitVec % 32).toNat = n := by decide
theorem bt_shr2 {n : Nat} (h : n < 2 ^ 31) : nI n >>> (nI 2 &&& 31) = nI (n / 4) := pk_shrN h _ 2 (by decide)
theorem bt_and3 {n : Nat} (h : n < 2 ^ 31) : nI n &&& nI 3 = nI (n % 4) := pk_andN (by omega) 2 (by decide)
theorem bt_byte (x : Int32) {k : Nat} (h : k < 32) : (x.toUInt32 >>> ((nI k).toUInt32 &&& Int32.toUInt32 31)).toInt32 &&& nI 255 = nI (x.toBitVec.toNat / 2 ^ k % 256) := by
  rw [pk_and _ (m := nI 255) 8 (by decide), pk_ushr x (nI k) k (bt_su k h)]
/-- letters, digits and _ -/
def npP (c : Nat) : Prop := (97 ≤ c ∧ c ≤ 122) ∨ (65 ≤ c ∧ c ≤ 90) ∨ (48 ≤ c ∧ c ≤ 57) ∨ c = 95
def dgP (c : Nat) : Prop := 48 ≤ c ∧ c ≤ 57
/-- the codes that a text may have -/
def alP (c : Nat) : Prop := c = 9 ∨ c = 10 ∨ c = 13 ∨ (32 ≤ c ∧ c ≤ 126)
/-- a name that begins with a letter from lo on -/
def NmP (B : Nat → Nat) (s e lo : Nat) : Prop := s < e ∧ e ≤ s + 24 ∧ lo ≤ B s ∧ B s ≤ lo + 25 ∧ ∀ j, s ≤ j → j < e → npP (B j)
/-- the word is just this one -/
def WdP (B : Nat → Nat) (s e : Nat) (w : List Nat) : Prop := e = s + w.length ∧ ∀ j, j < w.length → B (s + j) = w.getD j 0
set_option maxHeartbeats 4000000 in
set_option maxRecDepth 100000 in
/-- Text.at(i) -/
theorem kX2_at (l : Launch) (D : va_G) (cB cI : ClassId) (tx r0 q0 len k0 n0 : Nat) (f0 : Nat → Int32) (i : Nat) (hlen : len ≤ 4 * n0) (hn0 : n0 ≤ 16000) (hi : i < len) : Met l yX2_at wsX2_at ({ frames := 0, cells := 0, slots := 0, locals := 0 }) (va_Pc [.ref tx, .int (nI i)] (bt_R D cB cI [(tx, .inr (2, [.ref r0, .int (nI len)])), (r0, .inr (1, [.ref q0, .int (nI k0)])), (q0, .inl (cI, n0, .inl f0))])) (vp_Si (fun r => r = nI (bY f0 i))) 0 0 (fun _ => False) := by
  refine Met.ofW (cc := cX2_at) (maxL := 4) (ret := (some .int)) (by decide) rfl ?_
  intro p e s m args below meth c s₁ B hml hv
  obtain ⟨rfl, hP, hK, hN⟩ := hv
  have hx := B.exec
  have hb := B.bytes
  have hr := B.returns
  have hts := atoms_spec (ws := wsX2_at) B.pre
  have hown : s.vm.findClass RX2 = some m.cls := findClass_of_methodNamed B.named
  have hlocks := B.notSynchronized
  have hl := lv_entry ([.ref tx, .int (nI i)]) (n := 4) (Nat.le_of_ble_eq_true rfl)
  rw [lg_entry_eq]
  generalize (lg_sl ([.ref tx, .int (nI i)]) ++ List.replicate (4 - (lg_sl ([.ref tx, .int (nI i)])).length) Slot.unset).toArray = ls at hl ⊢
  have hl : lv_has ls 4 [(0, .ref tx), (1, .int (nI i))] := hl
  refine lv_aload_n hx hb dX2_at_0 rfl (lv_at hl 0 rfl) ?_
  refine va_get (D := D) (ci := 2) (v := .ref r0) (C := RX2) (T := TX2) (N := 2) hx hb hts (by decide +kernel) hown hK hP 0 rfl rfl 0 (by decide) (hts (.fieldLink RX2 12 "BodyText$Text" "fours" "LBodyText$Row;") (by decide +kernel)) (fun _ h9 => h9) rfl dX2_at_1 ?_
  refine va_getN (D := D) (ci := 1) (v := .ref q0) (C := RX1) (T := TX1) (N := 2) hx hb hts (by decide +kernel) hown hK hP 1 rfl rfl 0 (by decide) (bt_nf hN (.fieldLinkNest "BodyText$Text" 30 "BodyText$Row" "items" "[I" "BodyText") (by decide +kernel)) (fun _ h9 => h9) rfl dX2_at_4 ?_
  refine lv_astore_n (lv' := [(2, .ref q0), (0, .ref tx), (1, .int (nI i))]) hx hb dX2_at_7 rfl hl (by decide) rfl (fun ls hl => ?_)
  refine lv_iload_n hx hb dX2_at_8 rfl (lv_at hl 2 rfl) ?_
  refine lv_iconst (v := nI 2) hx hb dX2_at_9 (by decide) ?_
  refine lv_ishr hx hb dX2_at_10 ?_
  refine bt_topi (y := nI (i / 4)) (bt_shr2 (by omega)) ?_
  refine lv_istore_n (lv' := [(3, .int (nI (i / 4))), (2, .ref q0), (0, .ref tx), (1, .int (nI i))]) hx hb dX2_at_11 rfl hl (by decide) rfl (fun ls hl => ?_)
  refine lv_iload_n hx hb dX2_at_12 rfl (lv_at hl 3 rfl) ?_
  refine lv_if_lt (tgt := 30) hx hb dX2_at_13 (by decide) (fun c_13 => ?_) (fun c_13 => ?_)
  · have c_13 : i < 0 := (nI_ltI (by omega) (by omega)).mp c_13
    exfalso; omega
  · have c_13 : ¬ (i < 0) := fun h9 => c_13 ((nI_ltI (by omega) (by omega)).mpr h9)
    refine lv_iload_n hx hb dX2_at_16 rfl (lv_at hl 3 rfl) ?_
    refine lv_aload_n hx hb dX2_at_17 rfl (lv_at hl 2 rfl) ?_
    refine va_get (D := D) (ci := 2) (v := .int (nI len)) (C := RX2) (T := TX2) (N := 2) hx hb hts (by decide +kernel) hown hK hP 0 rfl rfl 1 (by decide) (hts (.fieldLink RX2 18 "BodyText$Text" "length" "I") (by decide +kernel)) (fun _ h9 => h9) rfl dX2_at_18 ?_
    refine lv_icmp_ge (tgt := 30) hx hb dX2_at_21 (by decide) (fun c_21 => ?_) (fun c_21 => ?_)
    · have c_21 : len ≤ i := (nI_leI (by omega) (by omega)).mp c_21
      exfalso; omega
    · have c_21 : ¬ (len ≤ i) := fun h9 => c_21 ((nI_leI (by omega) (by omega)).mpr h9)
      refine lv_iload_n hx hb dX2_at_24 rfl (lv_at hl 0 rfl) ?_
      refine lv_aload_n hx hb dX2_at_25 rfl (lv_at hl 1 rfl) ?_
      refine va_alen hx hb hK hP 2 1 rfl rfl (v := nI n0) rfl dX2_at_26 ?_
      refine lv_icmp_lt (tgt := 32) hx hb dX2_at_27 (by decide) (fun c_27 => ?_) (fun c_27 => ?_)
      · have c_27 : (i / 4) < n0 := (nI_ltI (by omega) (by omega)).mp c_27
        refine lv_aload_n hx hb dX2_at_32 rfl (lv_at hl 1 rfl) ?_
        refine lv_iload_n hx hb dX2_at_33 rfl (lv_at hl 0 rfl) ?_
        refine va_iald hx hb hK hP 2 1 rfl rfl (vp_in_nI (by omega) (by omega)) dX2_at_34 ?_
        rw [nI_clamp (by omega)]
        refine lv_bipush (v := nI 24) hx hb dX2_at_35 (by decide) ?_
        refine lv_bipush (v := nI 8) hx hb dX2_at_37 (by decide) ?_
        refine lv_iload_n hx hb dX2_at_39 rfl (lv_at hl 3 rfl) ?_
        refine lv_iconst (v := nI 3) hx hb dX2_at_40 (by decide) ?_
        refine lv_iand hx hb dX2_at_41 ?_
        refine bt_topi (y := nI (i % 4)) (bt_and3 (by omega)) ?_
        refine lv_imul hx hb dX2_at_42 ?_
        refine bt_topi (y := nI (8 * (i % 4))) (pk_mul _ _) ?_
        refine lv_isub hx hb dX2_at_43 ?_
        refine bt_topi (y := nI (24 - (8 * (i % 4)))) (pk_sub (by omega)) ?_
        refine lv_iushr (v := (((f0 (i / 4))).toUInt32 >>> ((nI (24 - (8 * (i % 4)))).toUInt32 &&& Int32.toUInt32 31)).toInt32) hx hb dX2_at_44 rfl ?_
        refine lv_sipush (v := nI 255) hx hb dX2_at_45 (by decide) ?_
        refine lv_iand hx hb dX2_at_48 ?_
        refine bt_topi (y := nI (bY f0 i)) (bt_byte _ (by omega)) ?_
        exact W.iret (v := nI (bY f0 i)) hx hb hr (fun t ht hW => ⟨nI (bY f0 i), rfl, rfl, ht⟩) (fun _ h => by cases h) dX2_at_49
      · have c_27 : ¬ ((i / 4) < n0) := fun h9 => c_27 ((nI_ltI (by omega) (by omega)).mpr h9)
        exfalso; omega
set_option maxHeartbeats 4000000 in
set_option maxRecDepth 100000 in
/-- isAllowed -/
theorem kX3_isAllowed (l : Launch) (x : Nat) (hx0 : x < 256) : Met l yX3_isAllowed wsX3_isAllowed ({ frames := 0, cells := 0, slots := 0, locals := 0 }) (va_Pc [.int (nI x)] (fun _ => True)) (vp_Si (fun r => r = Bt (alP x))) 0 0 (fun _ => False) := by
  refine Met.ofW (cc := cX3_isAllowed) (maxL := 1) (ret := (some .boolean)) (by decide) rfl ?_
  intro p e s m args below meth c s₁ B hml hv
  obtain ⟨rfl, -⟩ := hv
  have hx := B.exec
  have hb := B.bytes
  have hr := B.returns
  have hts := atoms_spec (ws := wsX3_isAllowed) B.pre
  have hown : s.vm.findClass RX3 = some m.cls := findClass_of_methodNamed B.named
  have hlocks := B.notSynchronized
  have hl := lv_entry ([.int (nI x)]) (n := 1) (Nat.le_of_ble_eq_true rfl)
  rw [lg_entry_eq]
  generalize (lg_sl ([.int (nI x)]) ++ List.replicate (1 - (lg_sl ([.int (nI x)])).length) Slot.unset).toArray = ls at hl ⊢
  have hl : lv_has ls 1 [(0, .int (nI x))] := hl
  refine lv_iload_n hx hb dX3_isAllowed_0 rfl (lv_at hl 0 rfl) ?_
  refine lv_bipush (v := nI 9) hx hb dX3_isAllowed_1 (by decide) ?_
  refine lv_icmp_eq (tgt := 30) hx hb dX3_isAllowed_3 (by decide) (fun c_3 => ?_) (fun c_3 => ?_)
  · have c_3 : x = 9 := (nI_eq (by omega) (by omega)).mp c_3
    refine lv_iconst (v := nI 1) hx hb dX3_isAllowed_30 (by decide) ?_
    refine lv_goto (tgt := 35) hx hb dX3_isAllowed_31 (by decide) ?_
    exact W.zret (v := nI 1) hx hb hr (by decide) (fun t ht hW => ⟨nI 1, rfl, (Bt_t (by unfold alP; omega)).symm, ht⟩) (fun _ h => by cases h) dX3_isAllowed_35
  · have c_3 : ¬ (x = 9) := fun h9 => c_3 ((nI_eq (by omega) (by omega)).mpr h9)
    refine lv_iload_n hx hb dX3_isAllowed_6 rfl (lv_at hl 0 rfl) ?_
    refine lv_bipush (v := nI 10) hx hb dX3_isAllowed_7 (by decide) ?_
    refine lv_icmp_eq (tgt := 30) hx hb dX3_isAllowed_9 (by decide) (fun c_9 => ?_) (fun c_9 => ?_)
    · have c_9 : x = 10 := (nI_eq (by omega) (by omega)).mp c_9
      refine lv_iconst (v := nI 1) hx hb dX3_isAllowed_30 (by decide) ?_
      refine lv_goto (tgt := 35) hx hb dX3_isAllowed_31 (by decide) ?_
      exact W.zret (v := nI 1) hx hb hr (by decide) (fun t ht hW => ⟨nI 1, rfl, (Bt_t (by unfold alP; omega)).symm, ht⟩) (fun _ h => by cases h) dX3_isAllowed_35
    · have c_9 : ¬ (x = 10) := fun h9 => c_9 ((nI_eq (by omega) (by omega)).mpr h9)
      refine lv_iload_n hx hb dX3_isAllowed_12 rfl (lv_at hl 0 rfl) ?_
      refine lv_bipush (v := nI 13) hx hb dX3_isAllowed_13 (by decide) ?_
      refine lv_icmp_eq (tgt := 30) hx hb dX3_isAllowed_15 (by decide) (fun c_15 => ?_) (fun c_15 => ?_)
      · have c_15 : x = 13 := (nI_eq (by omega) (by omega)).mp c_15
        refine lv_iconst (v := nI 1) hx hb dX3_isAllowed_30 (by decide) ?_
        refine lv_goto (tgt := 35) hx hb dX3_isAllowed_31 (by decide) ?_
        exact W.zret (v := nI 1) hx hb hr (by decide) (fun t ht hW => ⟨nI 1, rfl, (Bt_t (by unfold alP; omega)).symm, ht⟩) (fun _ h => by cases h) dX3_isAllowed_35
      · have c_15 : ¬ (x = 13) := fun h9 => c_15 ((nI_eq (by omega) (by omega)).mpr h9)
        refine lv_iload_n hx hb dX3_isAllowed_18 rfl (lv_at hl 0 rfl) ?_
        refine lv_bipush (v := nI 32) hx hb dX3_isAllowed_19 (by decide) ?_
        refine lv_icmp_lt (tgt := 34) hx hb dX3_isAllowed_21 (by decide) (fun c_21 => ?_) (fun c_21 => ?_)
        · have c_21 : x < 32 := (nI_ltI (by omega) (by omega)).mp c_21
          refine lv_iconst (v := nI 0) hx hb dX3_isAllowed_34 (by decide) ?_
          exact W.zret (v := nI 0) hx hb hr (by decide) (fun t ht hW => ⟨nI 0, rfl, (Bt_f (by unfold alP; omega)).symm, ht⟩) (fun _ h => by cases h) dX3_isAllowed_35
        · have c_21 : ¬ (x < 32) := fun h9 => c_21 ((nI_ltI (by omega) (by omega)).mpr h9)
          refine lv_iload_n hx hb dX3_isAllowed_24 rfl (lv_at hl 0 rfl) ?_
          refine lv_bipush (v := nI 126) hx hb dX3_isAllowed_25 (by decide) ?_
          refine lv_icmp_gt (tgt := 34) hx hb dX3_isAllowed_27 (by decide) (fun c_27 => ?_) (fun c_27 => ?_)
          · have c_27 : 126 < x := (nI_ltI (by omega) (by omega)).mp c_27
            refine lv_iconst (v := nI 0) hx hb dX3_isAllowed_34 (by decide) ?_
            exact W.zret (v := nI 0) hx hb hr (by decide) (fun t ht hW => ⟨nI 0, rfl, (Bt_f (by unfold alP; omega)).symm, ht⟩) (fun _ h => by cases h) dX3_isAllowed_35
          · have c_27 : ¬ (126 < x) := fun h9 => c_27 ((nI_ltI (by omega) (by omega)).mpr h9)
            refine lv_iconst (v := nI 1) hx hb dX3_isAllowed_30 (by decide) ?_
            refine lv_goto (tgt := 35) hx hb dX3_isAllowed_31 (by decide) ?_
            exact W.zret (v := nI 1) hx hb hr (by decide) (fun t ht hW => ⟨nI 1, rfl, (Bt_t (by unfold alP; omega)).symm, ht⟩) (fun _ h => by cases h) dX3_isAllowed_35
set_option maxHeartbeats 4000000 in
set_option maxRecDepth 100000 in
/-- isBlank -/
theorem kX3_isBlank (l : Launch) (x : Nat) (hx0 : x < 256) : Met l yX3_isBlank wsX3_isBlank ({ frames := 0, cells := 0, slots := 0, locals := 0 }) (va_Pc [.int (nI x)] (fun _ => True)) (vp_Si (fun r => r = Bt (x ≤ 32))) 0 0 (fun _ => False) := by
  refine Met.ofW (cc := cX3_isBlank) (maxL := 1) (ret := (some .boolean)) (by decide) rfl ?_
  intro p e s m args below meth c s₁ B hml hv
  obtain ⟨rfl, -⟩ := hv
  have hx := B.exec
  have hb := B.bytes
  have hr := B.returns
  have hts := atoms_spec (ws := wsX3_isBlank) B.pre
  have hown : s.vm.findClass RX3 = some m.cls := findClass_of_methodNamed B.named
  have hlocks := B.notSynchronized
  have hl := lv_entry ([.int (nI x)]) (n := 1) (Nat.le_of_ble_eq_true rfl)
  rw [lg_entry_eq]
  generalize (lg_sl ([.int (nI x)]) ++ List.replicate (1 - (lg_sl ([.int (nI x)])).length) Slot.unset).toArray = ls at hl ⊢
  have hl : lv_has ls 1 [(0, .int (nI x))] := hl
  refine lv_iload_n hx hb dX3_isBlank_0 rfl (lv_at hl 0 rfl) ?_
  refine lv_bipush (v := nI 32) hx hb dX3_isBlank_1 (by decide) ?_
  refine lv_icmp_gt (tgt := 10) hx hb dX3_isBlank_3 (by decide) (fun c_3 => ?_) (fun c_3 => ?_)
  · have c_3 : 32 < x := (nI_ltI (by omega) (by omega)).mp c_3
    refine lv_iconst (v := nI 0) hx hb dX3_isBlank_10 (by decide) ?_
    exact W.zret (v := nI 0) hx hb hr (by decide) (fun t ht hW => ⟨nI 0, rfl, (Bt_f (by omega)).symm, ht⟩) (fun _ h => by cases h) dX3_isBlank_11
  · have c_3 : ¬ (32 < x) := fun h9 => c_3 ((nI_ltI (by omega) (by omega)).mpr h9)
    refine lv_iconst (v := nI 1) hx hb dX3_isBlank_6 (by decide) ?_
    refine lv_goto (tgt := 11) hx hb dX3_isBlank_7 (by decide) ?_
    exact W.zret (v := nI 1) hx hb hr (by decide) (fun t ht hW => ⟨nI 1, rfl, (Bt_t (by omega)).symm, ht⟩) (fun _ h => by cases h) dX3_isBlank_11
set_option maxHeartbeats 4000000 in
set_option maxRecDepth 100000 in
/-- isDigit -/
theorem kX3_isDigit (l : Launch) (x : Nat) (hx0 : x < 256) : Met l yX3_isDigit wsX3_isDigit ({ frames := 0, cells := 0, slots := 0, locals := 0 }) (va_Pc [.int (nI x)] (fun _ => True)) (vp_Si (fun r => r = Bt (dgP x))) 0 0 (fun _ => False) := by
  refine Met.ofW (cc := cX3_isDigit) (maxL := 1) (ret := (some .boolean)) (by decide) rfl ?_
  intro p e s m args below meth c s₁ B hml hv
  obtain ⟨rfl, -⟩ := hv
  have hx := B.exec
  have hb := B.bytes
  have hr := B.returns
  have hts := atoms_spec (ws := wsX3_isDigit) B.pre
  have hown : s.vm.findClass RX3 = some m.cls := findClass_of_methodNamed B.named
  have hlocks := B.notSynchronized
  have hl := lv_entry ([.int (nI x)]) (n := 1) (Nat.le_of_ble_eq_true rfl)
  rw [lg_entry_eq]
  generalize (lg_sl ([.int (nI x)]) ++ List.replicate (1 - (lg_sl ([.int (nI x)])).length) Slot.unset).toArray = ls at hl ⊢
  have hl : lv_has ls 1 [(0, .int (nI x))] := hl
  refine lv_iload_n hx hb dX3_isDigit_0 rfl (lv_at hl 0 rfl) ?_
  refine lv_bipush (v := nI 48) hx hb dX3_isDigit_1 (by decide) ?_
  refine lv_icmp_lt (tgt := 16) hx hb dX3_isDigit_3 (by decide) (fun c_3 => ?_) (fun c_3 => ?_)
  · have c_3 : x < 48 := (nI_ltI (by omega) (by omega)).mp c_3
    refine lv_iconst (v := nI 0) hx hb dX3_isDigit_16 (by decide) ?_
    exact W.zret (v := nI 0) hx hb hr (by decide) (fun t ht hW => ⟨nI 0, rfl, (Bt_f (by unfold dgP; omega)).symm, ht⟩) (fun _ h => by cases h) dX3_isDigit_17
  · have c_3 : ¬ (x < 48) := fun h9 => c_3 ((nI_ltI (by omega) (by omega)).mpr h9)
    refine lv_iload_n hx hb dX3_isDigit_6 rfl (lv_at hl 0 rfl) ?_
    refine lv_bipush (v := nI 57) hx hb dX3_isDigit_7 (by decide) ?_
    refine lv_icmp_gt (tgt := 16) hx hb dX3_isDigit_9 (by decide) (fun c_9 => ?_) (fun c_9 => ?_)
    · have c_9 : 57 < x := (nI_ltI (by omega) (by omega)).mp c_9
      refine lv_iconst (v := nI 0) hx hb dX3_isDigit_16 (by decide) ?_
      exact W.zret (v := nI 0) hx hb hr (by decide) (fun t ht hW => ⟨nI 0, rfl, (Bt_f (by unfold dgP; omega)).symm, ht⟩) (fun _ h => by cases h) dX3_isDigit_17
    · have c_9 : ¬ (57 < x) := fun h9 => c_9 ((nI_ltI (by omega) (by omega)).mpr h9)
      refine lv_iconst (v := nI 1) hx hb dX3_isDigit_12 (by decide) ?_
      refine lv_goto (tgt := 17) hx hb dX3_isDigit_13 (by decide) ?_
      exact W.zret (v := nI 1) hx hb hr (by decide) (fun t ht hW => ⟨nI 1, rfl, (Bt_t (by unfold dgP; omega)).symm, ht⟩) (fun _ h => by cases h) dX3_isDigit_17
set_option maxHeartbeats 4000000 in
set_option maxRecDepth 100000 in
/-- isNamePart -/
theorem kX3_isNamePart (l : Launch) (x : Nat) (hx0 : x < 256) : Met l yX3_isNamePart wsX3_isNamePart ({ frames := 0, cells := 0, slots := 0, locals := 0 }) (va_Pc [.int (nI x)] (fun _ => True)) (vp_Si (fun r => r = Bt (npP x))) 0 0 (fun _ => False) := by
  refine Met.ofW (cc := cX3_isNamePart) (maxL := 1) (ret := (some .boolean)) (by decide) rfl ?_
  intro p e s m args below meth c s₁ B hml hv
  obtain ⟨rfl, -⟩ := hv
  have hx := B.exec
  have hb := B.bytes
  have hr := B.returns
  have hts := atoms_spec (ws := wsX3_isNamePart) B.pre
  have hown : s.vm.findClass RX3 = some m.cls := findClass_of_methodNamed B.named
  have hlocks := B.notSynchronized
  have hl := lv_entry ([.int (nI x)]) (n := 1) (Nat.le_of_ble_eq_true rfl)
  rw [lg_entry_eq]
  generalize (lg_sl ([.int (nI x)]) ++ List.replicate (1 - (lg_sl ([.int (nI x)])).length) Slot.unset).toArray = ls at hl ⊢
  have hl : lv_has ls 1 [(0, .int (nI x))] := hl
  refine lv_iload_n hx hb dX3_isNamePart_0 rfl (lv_at hl 0 rfl) ?_
  refine lv_bipush (v := nI 97) hx hb dX3_isNamePart_1 (by decide) ?_
  refine lv_icmp_lt (tgt := 12) hx hb dX3_isNamePart_3 (by decide) (fun c_3 => ?_) (fun c_3 => ?_)
  · have c_3 : x < 97 := (nI_ltI (by omega) (by omega)).mp c_3
    refine lv_iload_n hx hb dX3_isNamePart_12 rfl (lv_at hl 0 rfl) ?_
    refine lv_bipush (v := nI 65) hx hb dX3_isNamePart_13 (by decide) ?_
    refine lv_icmp_lt (tgt := 24) hx hb dX3_isNamePart_15 (by decide) (fun c_15 => ?_) (fun c_15 => ?_)
    · have c_15 : x < 65 := (nI_ltI (by omega) (by omega)).mp c_15
      refine lv_iload_n hx hb dX3_isNamePart_24 rfl (lv_at hl 0 rfl) ?_
      refine lv_bipush (v := nI 48) hx hb dX3_isNamePart_25 (by decide) ?_
      refine lv_icmp_lt (tgt := 36) hx hb dX3_isNamePart_27 (by decide) (fun c_27 => ?_) (fun c_27 => ?_)
      · have c_27 : x < 48 := (nI_ltI (by omega) (by omega)).mp c_27
        refine lv_iload_n hx hb dX3_isNamePart_36 rfl (lv_at hl 0 rfl) ?_
        refine lv_bipush (v := nI 95) hx hb dX3_isNamePart_37 (by decide) ?_
        refine lv_icmp_ne (tgt := 46) hx hb dX3_isNamePart_39 (by decide) (fun c_39 => ?_) (fun c_39 => ?_)
        · have c_39 : ¬ (x = 95) := fun h9 => c_39 ((nI_eq (by omega) (by omega)).mpr h9)
          refine lv_iconst (v := nI 0) hx hb dX3_isNamePart_46 (by decide) ?_
          exact W.zret (v := nI 0) hx hb hr (by decide) (fun t ht hW => ⟨nI 0, rfl, (Bt_f (by unfold npP; omega)).symm, ht⟩) (fun _ h => by cases h) dX3_isNamePart_47
        · have c_39 : x = 95 := (nI_eq (by omega) (by omega)).mp c_39
          refine lv_iconst (v := nI 1) hx hb dX3_isNamePart_42 (by decide) ?_
          refine lv_goto (tgt := 47) hx hb dX3_isNamePart_43 (by decide) ?_
          exact W.zret (v := nI 1) hx hb hr (by decide) (fun t ht hW => ⟨nI 1, rfl, (Bt_t (by unfold npP; omega)).symm, ht⟩) (fun _ h => by cases h) dX3_isNamePart_47
      · have c_27 : ¬ (x < 48) := fun h9 => c_27 ((nI_ltI (by omega) (by omega)).mpr h9)
        refine lv_iload_n hx hb dX3_isNamePart_30 rfl (lv_at hl 0 rfl) ?_
        refine lv_bipush (v := nI 57) hx hb dX3_isNamePart_31 (by decide) ?_
        refine lv_icmp_le (tgt := 42) hx hb dX3_isNamePart_33 (by decide) (fun c_33 => ?_) (fun c_33 => ?_)
        · have c_33 : x ≤ 57 := (nI_leI (by omega) (by omega)).mp c_33
          refine lv_iconst (v := nI 1) hx hb dX3_isNamePart_42 (by decide) ?_
          refine lv_goto (tgt := 47) hx hb dX3_isNamePart_43 (by decide) ?_
          exact W.zret (v := nI 1) hx hb hr (by decide) (fun t ht hW => ⟨nI 1, rfl, (Bt_t (by unfold npP; omega)).symm, ht⟩) (fun _ h => by cases h) dX3_isNamePart_47
        · have c_33 : ¬ (x ≤ 57) := fun h9 => c_33 ((nI_leI (by omega) (by omega)).mpr h9)
          refine lv_iload_n hx hb dX3_isNamePart_36 rfl (lv_at hl 0 rfl) ?_
          refine lv_bipush (v := nI 95) hx hb dX3_isNamePart_37 (by decide) ?_
          refine lv_icmp_ne (tgt := 46) hx hb dX3_isNamePart_39 (by decide) (fun c_39 => ?_) (fun c_39 => ?_)
          · have c_39 : ¬ (x = 95) := fun h9 => c_39 ((nI_eq (by omega) (by omega)).mpr h9)
            refine lv_iconst (v := nI 0) hx hb dX3_isNamePart_46 (by decide) ?_
            exact W.zret (v := nI 0) hx hb hr (by decide) (fun t ht hW => ⟨nI 0, rfl, (Bt_f (by unfold npP; omega)).symm, ht⟩) (fun _ h => by cases h) dX3_isNamePart_47
          · have c_39 : x = 95 := (nI_eq (by omega) (by omega)).mp c_39
            refine lv_iconst (v := nI 1) hx hb dX3_isNamePart_42 (by decide) ?_
            refine lv_goto (tgt := 47) hx hb dX3_isNamePart_43 (by decide) ?_
            exact W.zret (v := nI 1) hx hb hr (by decide) (fun t ht hW => ⟨nI 1, rfl, (Bt_t (by unfold npP; omega)).symm, ht⟩) (fun _ h => by cases h) dX3_isNamePart_47
    · have c_15 : ¬ (x < 65) := fun h9 => c_15 ((nI_ltI (by omega) (by omega)).mpr h9)
      refine lv_iload_n hx hb dX3_isNamePart_18 rfl (lv_at hl 0 rfl) ?_
      refine lv_bipush (v := nI 90) hx hb dX3_isNamePart_19 (by decide) ?_
      refine lv_icmp_le (tgt := 42) hx hb dX3_isNamePart_21 (by decide) (fun c_21 => ?_) (fun c_21 => ?_)
      · have c_21 : x ≤ 90 := (nI_leI (by omega) (by omega)).mp c_21
        refine lv_iconst (v := nI 1) hx hb dX3_isNamePart_42 (by decide) ?_
        refine lv_goto (tgt := 47) hx hb dX3_isNamePart_43 (by decide) ?_
        exact W.zret (v := nI 1) hx hb hr (by decide) (fun t ht hW => ⟨nI 1, rfl, (Bt_t (by unfold npP; omega)).symm, ht⟩) (fun _ h => by cases h) dX3_isNamePart_47
      · have c_21 : ¬ (x ≤ 90) := fun h9 => c_21 ((nI_leI (by omega) (by omega)).mpr h9)
        refine lv_iload_n hx hb dX3_isNamePart_24 rfl (lv_at hl 0 rfl) ?_
        refine lv_bipush (v := nI 48) hx hb dX3_isNamePart_25 (by decide) ?_
        refine lv_icmp_lt (tgt := 36) hx hb dX3_isNamePart_27 (by decide) (fun c_27 => ?_) (fun c_27 => ?_)
        · have c_27 : x < 48 := (nI_ltI (by omega) (by omega)).mp c_27
          refine lv_iload_n hx hb dX3_isNamePart_36 rfl (lv_at hl 0 rfl) ?_
          refine lv_bipush (v := nI 95) hx hb dX3_isNamePart_37 (by decide) ?_
          refine lv_icmp_ne (tgt := 46) hx hb dX3_isNamePart_39 (by decide) (fun c_39 => ?_) (fun c_39 => ?_)
          · have c_39 : ¬ (x = 95) := fun h9 => c_39 ((nI_eq (by omega) (by omega)).mpr h9)
            refine lv_iconst (v := nI 0) hx hb dX3_isNamePart_46 (by decide) ?_
            exact W.zret (v := nI 0) hx hb hr (by decide) (fun t ht hW => ⟨nI 0, rfl, (Bt_f (by unfold npP; omega)).symm, ht⟩) (fun _ h => by cases h) dX3_isNamePart_47
          · have c_39 : x = 95 := (nI_eq (by omega) (by omega)).mp c_39
            refine lv_iconst (v := nI 1) hx hb dX3_isNamePart_42 (by decide) ?_
            refine lv_goto (tgt := 47) hx hb dX3_isNamePart_43 (by decide) ?_
            exact W.zret (v := nI 1) hx hb hr (by decide) (fun t ht hW => ⟨nI 1, rfl, (Bt_t (by unfold npP; omega)).symm, ht⟩) (fun _ h => by cases h) dX3_isNamePart_47
        · have c_27 : ¬ (x < 48) := fun h9 => c_27 ((nI_ltI (by omega) (by omega)).mpr h9)
          refine lv_iload_n hx hb dX3_isNamePart_30 rfl (lv_at hl 0 rfl) ?_
          refine lv_bipush (v := nI 57) hx hb dX3_isNamePart_31 (by decide) ?_
          refine lv_icmp_le (tgt := 42) hx hb dX3_isNamePart_33 (by decide) (fun c_33 => ?_) (fun c_33 => ?_)
          · have c_33 : x ≤ 57 := (nI_leI (by omega) (by omega)).mp c_33
            refine lv_iconst (v := nI 1) hx hb dX3_isNamePart_42 (by decide) ?_
            refine lv_goto (tgt := 47) hx hb dX3_isNamePart_43 (by decide) ?_
            exact W.zret (v := nI 1) hx hb hr (by decide) (fun t ht hW => ⟨nI 1, rfl, (Bt_t (by unfold npP; omega)).symm, ht⟩) (fun _ h => by cases h) dX3_isNamePart_47
          · have c_33 : ¬ (x ≤ 57) := fun h9 => c_33 ((nI_leI (by omega) (by omega)).mpr h9)
            refine lv_iload_n hx hb dX3_isNamePart_36 rfl (lv_at hl 0 rfl) ?_
            refine lv_bipush (v := nI 95) hx hb dX3_isNamePart_37 (by decide) ?_
            refine lv_icmp_ne (tgt := 46) hx hb dX3_isNamePart_39 (by decide) (fun c_39 => ?_) (fun c_39 => ?_)
            · have c_39 : ¬ (x = 95) := fun h9 => c_39 ((nI_eq (by omega) (by omega)).mpr h9)
              refine lv_iconst (v := nI 0) hx hb dX3_isNamePart_46 (by decide) ?_
              exact W.zret (v := nI 0) hx hb hr (by decide) (fun t ht hW => ⟨nI 0, rfl, (Bt_f (by unfold npP; omega)).symm, ht⟩) (fun _ h => by cases h) dX3_isNamePart_47
            · have c_39 : x = 95 := (nI_eq (by omega) (by omega)).mp c_39
              refine lv_iconst (v := nI 1) hx hb dX3_isNamePart_42 (by decide) ?_
              refine lv_goto (tgt := 47) hx hb dX3_isNamePart_43 (by decide) ?_
              exact W.zret (v := nI 1) hx hb hr (by decide) (fun t ht hW => ⟨nI 1, rfl, (Bt_t (by unfold npP; omega)).symm, ht⟩) (fun _ h => by cases h) dX3_isNamePart_47
  · have c_3 : ¬ (x < 97) := fun h9 => c_3 ((nI_ltI (by omega) (by omega)).mpr h9)
    refine lv_iload_n hx hb dX3_isNamePart_6 rfl (lv_at hl 0 rfl) ?_
    refine lv_bipush (v := nI 122) hx hb dX3_isNamePart_7 (by decide) ?_
    refine lv_icmp_le (tgt := 42) hx hb dX3_isNamePart_9 (by decide) (fun c_9 => ?_) (fun c_9 => ?_)
    · have c_9 : x ≤ 122 := (nI_leI (by omega) (by omega)).mp c_9
      refine lv_iconst (v := nI 1) hx hb dX3_isNamePart_42 (by decide) ?_
      refine lv_goto (tgt := 47) hx hb dX3_isNamePart_43 (by decide) ?_
      exact W.zret (v := nI 1) hx hb hr (by decide) (fun t ht hW => ⟨nI 1, rfl, (Bt_t (by unfold npP; omega)).symm, ht⟩) (fun _ h => by cases h) dX3_isNamePart_47
    · have c_9 : ¬ (x ≤ 122) := fun h9 => c_9 ((nI_leI (by omega) (by omega)).mpr h9)
      refine lv_iload_n hx hb dX3_isNamePart_12 rfl (lv_at hl 0 rfl) ?_
      refine lv_bipush (v := nI 65) hx hb dX3_isNamePart_13 (by decide) ?_
      refine lv_icmp_lt (tgt := 24) hx hb dX3_isNamePart_15 (by decide) (fun c_15 => ?_) (fun c_15 => ?_)
      · have c_15 : x < 65 := (nI_ltI (by omega) (by omega)).mp c_15
        refine lv_iload_n hx hb dX3_isNamePart_24 rfl (lv_at hl 0 rfl) ?_
        refine lv_bipush (v := nI 48) hx hb dX3_isNamePart_25 (by decide) ?_
        refine lv_icmp_lt (tgt := 36) hx hb dX3_isNamePart_27 (by decide) (fun c_27 => ?_) (fun c_27 => ?_)
        · have c_27 : x < 48 := (nI_ltI (by omega) (by omega)).mp c_27
          refine lv_iload_n hx hb dX3_isNamePart_36 rfl (lv_at hl 0 rfl) ?_
          refine lv_bipush (v := nI 95) hx hb dX3_isNamePart_37 (by decide) ?_
          refine lv_icmp_ne (tgt := 46) hx hb dX3_isNamePart_39 (by decide) (fun c_39 => ?_) (fun c_39 => ?_)
          · have c_39 : ¬ (x = 95) := fun h9 => c_39 ((nI_eq (by omega) (by omega)).mpr h9)
            refine lv_iconst (v := nI 0) hx hb dX3_isNamePart_46 (by decide) ?_
            exact W.zret (v := nI 0) hx hb hr (by decide) (fun t ht hW => ⟨nI 0, rfl, (Bt_f (by unfold npP; omega)).symm, ht⟩) (fun _ h => by cases h) dX3_isNamePart_47
          · have c_39 : x = 95 := (nI_eq (by omega) (by omega)).mp c_39
            refine lv_iconst (v := nI 1) hx hb dX3_isNamePart_42 (by decide) ?_
            refine lv_goto (tgt := 47) hx hb dX3_isNamePart_43 (by decide) ?_
            exact W.zret (v := nI 1) hx hb hr (by decide) (fun t ht hW => ⟨nI 1, rfl, (Bt_t (by unfold npP; omega)).symm, ht⟩) (fun _ h => by cases h) dX3_isNamePart_47
        · have c_27 : ¬ (x < 48) := fun h9 => c_27 ((nI_ltI (by omega) (by omega)).mpr h9)
          refine lv_iload_n hx hb dX3_isNamePart_30 rfl (lv_at hl 0 rfl) ?_
          refine lv_bipush (v := nI 57) hx hb dX3_isNamePart_31 (by decide) ?_
          refine lv_icmp_le (tgt := 42) hx hb dX3_isNamePart_33 (by decide) (fun c_33 => ?_) (fun c_33 => ?_)
          · have c_33 : x ≤ 57 := (nI_leI (by omega) (by omega)).mp c_33
            refine lv_iconst (v := nI 1) hx hb dX3_isNamePart_42 (by decide) ?_
            refine lv_goto (tgt := 47) hx hb dX3_isNamePart_43 (by decide) ?_
            exact W.zret (v := nI 1) hx hb hr (by decide) (fun t ht hW => ⟨nI 1, rfl, (Bt_t (by unfold npP; omega)).symm, ht⟩) (fun _ h => by cases h) dX3_isNamePart_47
          · have c_33 : ¬ (x ≤ 57) := fun h9 => c_33 ((nI_leI (by omega) (by omega)).mpr h9)
            refine lv_iload_n hx hb dX3_isNamePart_36 rfl (lv_at hl 0 rfl) ?_
            refine lv_bipush (v := nI 95) hx hb dX3_isNamePart_37 (by decide) ?_
            refine lv_icmp_ne (tgt := 46) hx hb dX3_isNamePart_39 (by decide) (fun c_39 => ?_) (fun c_39 => ?_)
            · have c_39 : ¬ (x = 95) := fun h9 => c_39 ((nI_eq (by omega) (by omega)).mpr h9)
              refine lv_iconst (v := nI 0) hx hb dX3_isNamePart_46 (by decide) ?_
              exact W.zret (v := nI 0) hx hb hr (by decide) (fun t ht hW => ⟨nI 0, rfl, (Bt_f (by unfold npP; omega)).symm, ht⟩) (fun _ h => by cases h) dX3_isNamePart_47
            · have c_39 : x = 95 := (nI_eq (by omega) (by omega)).mp c_39
              refine lv_iconst (v := nI 1) hx hb dX3_isNamePart_42 (by decide) ?_
              refine lv_goto (tgt := 47) hx hb dX3_isNamePart_43 (by decide) ?_
              exact W.zret (v := nI 1) hx hb hr (by decide) (fun t ht hW => ⟨nI 1, rfl, (Bt_t (by unfold npP; omega)).symm, ht⟩) (fun _ h => by cases h) dX3_isNamePart_47
      · have c_15 : ¬ (x < 65) := fun h9 => c_15 ((nI_ltI (by omega) (by omega)).mpr h9)
        refine lv_iload_n hx hb dX3_isNamePart_18 rfl (lv_at hl 0 rfl) ?_
        refine lv_bipush (v := nI 90) hx hb dX3_isNamePart_19 (by decide) ?_
        refine lv_icmp_le (tgt := 42) hx hb dX3_isNamePart_21 (by decide) (fun c_21 => ?_) (fun c_21 => ?_)
        · have c_21 : x ≤ 90 := (nI_leI (by omega) (by omega)).mp c_21
          refine lv_iconst (v := nI 1) hx hb dX3_isNamePart_42 (by decide) ?_
          refine lv_goto (tgt := 47) hx hb dX3_isNamePart_43 (by decide) ?_
          exact W.zret (v := nI 1) hx hb hr (by decide) (fun t ht hW => ⟨nI 1, rfl, (Bt_t (by unfold npP; omega)).symm, ht⟩) (fun _ h => by cases h) dX3_isNamePart_47
        · have c_21 : ¬ (x ≤ 90) := fun h9 => c_21 ((nI_leI (by omega) (by omega)).mpr h9)
          refine lv_iload_n hx hb dX3_isNamePart_24 rfl (lv_at hl 0 rfl) ?_
          refine lv_bipush (v := nI 48) hx hb dX3_isNamePart_25 (by decide) ?_
          refine lv_icmp_lt (tgt := 36) hx hb dX3_isNamePart_27 (by decide) (fun c_27 => ?_) (fun c_27 => ?_)
          · have c_27 : x < 48 := (nI_ltI (by omega) (by omega)).mp c_27
            refine lv_iload_n hx hb dX3_isNamePart_36 rfl (lv_at hl 0 rfl) ?_
            refine lv_bipush (v := nI 95) hx hb dX3_isNamePart_37 (by decide) ?_
            refine lv_icmp_ne (tgt := 46) hx hb dX3_isNamePart_39 (by decide) (fun c_39 => ?_) (fun c_39 => ?_)
            · have c_39 : ¬ (x = 95) := fun h9 => c_39 ((nI_eq (by omega) (by omega)).mpr h9)
              refine lv_iconst (v := nI 0) hx hb dX3_isNamePart_46 (by decide) ?_
              exact W.zret (v := nI 0) hx hb hr (by decide) (fun t ht hW => ⟨nI 0, rfl, (Bt_f (by unfold npP; omega)).symm, ht⟩) (fun _ h => by cases h) dX3_isNamePart_47
            · have c_39 : x = 95 := (nI_eq (by omega) (by omega)).mp c_39
              refine lv_iconst (v := nI 1) hx hb dX3_isNamePart_42 (by decide) ?_
              refine lv_goto (tgt := 47) hx hb dX3_isNamePart_43 (by decide) ?_
              exact W.zret (v := nI 1) hx hb hr (by decide) (fun t ht hW => ⟨nI 1, rfl, (Bt_t (by unfold npP; omega)).symm, ht⟩) (fun _ h => by cases h) dX3_isNamePart_47
          · have c_27 : ¬ (x < 48) := fun h9 => c_27 ((nI_ltI (by omega) (by omega)).mpr h9)
            refine lv_iload_n hx hb dX3_isNamePart_30 rfl (lv_at hl 0 rfl) ?_
            refine lv_bipush (v := nI 57) hx hb dX3_isNamePart_31 (by decide) ?_
            refine lv_icmp_le (tgt := 42) hx hb dX3_isNamePart_33 (by decide) (fun c_33 => ?_) (fun c_33 => ?_)
            · have c_33 : x ≤ 57 := (nI_leI (by omega) (by omega)).mp c_33
              refine lv_iconst (v := nI 1) hx hb dX3_isNamePart_42 (by decide) ?_
              refine lv_goto (tgt := 47) hx hb dX3_isNamePart_43 (by decide) ?_
              exact W.zret (v := nI 1) hx hb hr (by decide) (fun t ht hW => ⟨nI 1, rfl, (Bt_t (by unfold npP; omega)).symm, ht⟩) (fun _ h => by cases h) dX3_isNamePart_47
            · have c_33 : ¬ (x ≤ 57) := fun h9 => c_33 ((nI_leI (by omega) (by omega)).mpr h9)
              refine lv_iload_n hx hb dX3_isNamePart_36 rfl (lv_at hl 0 rfl) ?_
              refine lv_bipush (v := nI 95) hx hb dX3_isNamePart_37 (by decide) ?_
              refine lv_icmp_ne (tgt := 46) hx hb dX3_isNamePart_39 (by decide) (fun c_39 => ?_) (fun c_39 => ?_)
              · have c_39 : ¬ (x = 95) := fun h9 => c_39 ((nI_eq (by omega) (by omega)).mpr h9)
                refine lv_iconst (v := nI 0) hx hb dX3_isNamePart_46 (by decide) ?_
                exact W.zret (v := nI 0) hx hb hr (by decide) (fun t ht hW => ⟨nI 0, rfl, (Bt_f (by unfold npP; omega)).symm, ht⟩) (fun _ h => by cases h) dX3_isNamePart_47
              · have c_39 : x = 95 := (nI_eq (by omega) (by omega)).mp c_39
                refine lv_iconst (v := nI 1) hx hb dX3_isNamePart_42 (by decide) ?_
                refine lv_goto (tgt := 47) hx hb dX3_isNamePart_43 (by decide) ?_
                exact W.zret (v := nI 1) hx hb hr (by decide) (fun t ht hW => ⟨nI 1, rfl, (Bt_t (by unfold npP; omega)).symm, ht⟩) (fun _ h => by cases h) dX3_isNamePart_47
set_option maxHeartbeats 4000000 in
set_option maxRecDepth 100000 in
/-- Tokens.isName(b0, e0, lo, lo + 25) -/
theorem kX3_isName (l : Launch) (D : va_G) (cB cI : ClassId) (t : Nat) (r1 r2 r3 r4 : Nat) (wd : Int32) (tx r0 q0 len k0 n0 : Nat) (f0 : Nat → Int32) (b0 e0 lo : Nat) (hlen : len ≤ 4 * n0) (hn0 : n0 ≤ 16000) (hlo : lo = 97 ∨ lo = 65) (hb0 : b0 ≤ len) (he0 : e0 ≤ len) : Met l yX3_isName wsX3_isName ({ frames := 1, cells := 0, slots := 0, locals := 23 }) (va_Pc [.ref t, .int (nI b0), .int (nI e0), .int (nI lo), .int (nI (lo + 25))] (bt_R D cB cI [(t, .inr (3, [.ref tx, .ref r1, .ref r2, .ref r3, .ref r4, .int wd])), (tx, .inr (2, [.ref r0, .int (nI len)])), (r0, .inr (1, [.ref q0, .int (nI k0)])), (q0, .inl (cI, n0, .inl f0))])) (vp_Si (fun r => r = Bt (NmP (bY f0) b0 e0 lo))) 0 0 (fun _ => False) := by
  refine Met.ofW (cc := cX3_isName) (maxL := 6) (ret := (some .boolean)) (by decide) rfl ?_
  intro p e s m args below meth c s₁ B hml hv
  obtain ⟨rfl, hP, hK, hN⟩ := hv
  have hx := B.exec
  have hb := B.bytes
  have hr := B.returns
  have hts := atoms_spec (ws := wsX3_isName) B.pre
  have hown : s.vm.findClass RX3 = some m.cls := findClass_of_methodNamed B.named
  have hlocks := B.notSynchronized
  have hl := lv_entry ([.ref t, .int (nI b0), .int (nI e0), .int (nI lo), .int (nI (lo + 25))]) (n := 6) (Nat.le_of_ble_eq_true rfl)
  rw [lg_entry_eq]
  generalize (lg_sl ([.ref t, .int (nI b0), .int (nI e0), .int (nI lo), .int (nI (lo + 25))]) ++ List.replicate (6 - (lg_sl ([.ref t, .int (nI b0), .int (nI e0), .int (nI lo), .int (nI (lo + 25))])).length) Slot.unset).toArray = ls at hl ⊢
  have hl : lv_has ls 6 [(0, .ref t), (1, .int (nI b0)), (2, .int (nI e0)), (3, .int (nI lo)), (4, .int (nI (lo + 25)))] := hl
  refine bt_genQ (fun Q hQ => ?_)
  refine lv_iload_n hx hb dX3_isName_0 rfl (lv_at hl 2 rfl) ?_
  refine lv_iload_n hx hb dX3_isName_1 rfl (lv_at hl 1 rfl) ?_
  refine lv_icmp_le (tgt := 38) hx hb dX3_isName_2 (by decide) (fun c_2 => ?_) (fun c_2 => ?_)
  · have c_2 : e0 ≤ b0 := (nI_leI (by omega) (by omega)).mp c_2
    refine lv_iconst (v := nI 0) hx hb dX3_isName_38 (by decide) ?_
    rw [hQ]
    exact W.zret (v := nI 0) hx hb hr (by decide) (fun t ht hW => ⟨nI 0, rfl, (Bt_f (fun h => by obtain ⟨g1, g2, g3, g4, -⟩ := h; omega)).symm, ht⟩) (fun _ h => by cases h) dX3_isName_39
  · have c_2 : ¬ (e0 ≤ b0) := fun h9 => c_2 ((nI_leI (by omega) (by omega)).mpr h9)
    refine lv_iload_n hx hb dX3_isName_5 rfl (lv_at hl 2 rfl) ?_
    refine lv_iload_n hx hb dX3_isName_6 rfl (lv_at hl 1 rfl) ?_
    refine lv_isub hx hb dX3_isName_7 ?_
    refine bt_topi (y := nI (e0 - b0)) (pk_sub (by omega)) ?_
    refine lv_bipush (v := nI 24) hx hb dX3_isName_8 (by decide) ?_
    refine lv_icmp_gt (tgt := 38) hx hb dX3_isName_10 (by decide) (fun c_10 => ?_) (fun c_10 => ?_)
    · have c_10 : 24 < e0 - b0 := (nI_ltI (by omega) (by omega)).mp c_10
      refine lv_iconst (v := nI 0) hx hb dX3_isName_38 (by decide) ?_
      rw [hQ]
      exact W.zret (v := nI 0) hx hb hr (by decide) (fun t ht hW => ⟨nI 0, rfl, (Bt_f (fun h => by obtain ⟨g1, g2, g3, g4, -⟩ := h; omega)).symm, ht⟩) (fun _ h => by cases h) dX3_isName_39
    · have c_10 : ¬ (24 < e0 - b0) := fun h9 => c_10 ((nI_ltI (by omega) (by omega)).mpr h9)
      have hb256 := bY_lt f0 b0
      refine lv_aload_n hx hb dX3_isName_13 rfl (lv_at hl 0 rfl) ?_
      refine va_get (D := D) (ci := 3) (v := .ref tx) (C := RX3) (T := TX3) (N := 6) hx hb hts (by decide +kernel) hown hK hP 0 rfl rfl 0 (by decide) (hts (.fieldLink RX3 31 "BodyText$Tokens" "text" "LBodyText$Text;") (by decide +kernel)) (fun _ h9 => h9) rfl dX3_isName_14 ?_
      refine lv_iload_n hx hb dX3_isName_17 rfl (lv_at hl 1 rfl) ?_
      have hPc := hP.sub (ws' := [(tx, .inr (2, [.ref r0, .int (nI len)])), (r0, .inr (1, [.ref q0, .int (nI k0)])), (q0, .inl (cI, n0, .inl f0))]) [1, 2, 3] rfl
      refine vp_callSi (va_runV (As := [.int (nI b0)]) (rest := []) ⟨hx, hb, hml, hown, hts⟩ (kX2_at l D cB cI tx r0 q0 len k0 n0 f0 b0 hlen hn0 (by omega)) (cwV 1 hts gX3_isName_X2_at rfl rfl rfl (by decide +kernel) ⟨Nat.le_of_ble_eq_true rfl, Nat.le_of_ble_eq_true rfl⟩) ⟨fun a U g mk q => ⟨q.1, q.2.calling⟩, va_recv hK hPc (ci := 2) (q0 := 0) rfl rfl, fun U hU hW => ⟨rfl, bt_R.of hU hW hPc hK hN⟩⟩ rfl rfl hl.1 rfl (lv_room (Nat.le_of_ble_eq_true rfl)) dX3_isName_18 ⟨Nat.zero_le _, Nat.zero_le _⟩).run (fun r_18 hr_18 => ?_)
      subst hr_18
      refine lv_iload_n hx hb dX3_isName_21 rfl (lv_at hl 3 rfl) ?_
      refine lv_icmp_lt (tgt := 38) hx hb dX3_isName_22 (by decide) (fun c_22 => ?_) (fun c_22 => ?_)
      · have c_22 : (bY f0 b0) < lo := (nI_ltI (by omega) (by omega)).mp c_22
        refine lv_iconst (v := nI 0) hx hb dX3_isName_38 (by decide) ?_
        rw [hQ]
        exact W.zret (v := nI 0) hx hb hr (by decide) (fun t ht hW => ⟨nI 0, rfl, (Bt_f (fun h => by obtain ⟨g1, g2, g3, g4, -⟩ := h; omega)).symm, ht⟩) (fun _ h => by cases h) dX3_isName_39
      · have c_22 : ¬ ((bY f0 b0) < lo) := fun h9 => c_22 ((nI_ltI (by omega) (by omega)).mpr h9)
        refine lv_aload_n hx hb dX3_isName_25 rfl (lv_at hl 0 rfl) ?_
        refine va_get (D := D) (ci := 3) (v := .ref tx) (C := RX3) (T := TX3) (N := 6) hx hb hts (by decide +kernel) hown hK hP 0 rfl rfl 0 (by decide) (hts (.fieldLink RX3 31 "BodyText$Tokens" "text" "LBodyText$Text;") (by decide +kernel)) (fun _ h9 => h9) rfl dX3_isName_26 ?_
        refine lv_iload_n hx hb dX3_isName_29 rfl (lv_at hl 1 rfl) ?_
        have hPc := hP.sub (ws' := [(tx, .inr (2, [.ref r0, .int (nI len)])), (r0, .inr (1, [.ref q0, .int (nI k0)])), (q0, .inl (cI, n0, .inl f0))]) [1, 2, 3] rfl
        refine vp_callSi (va_runV (As := [.int (nI b0)]) (rest := []) ⟨hx, hb, hml, hown, hts⟩ (kX2_at l D cB cI tx r0 q0 len k0 n0 f0 b0 hlen hn0 (by omega)) (cwV 1 hts gX3_isName_X2_at rfl rfl rfl (by decide +kernel) ⟨Nat.le_of_ble_eq_true rfl, Nat.le_of_ble_eq_true rfl⟩) ⟨fun a U g mk q => ⟨q.1, q.2.calling⟩, va_recv hK hPc (ci := 2) (q0 := 0) rfl rfl, fun U hU hW => ⟨rfl, bt_R.of hU hW hPc hK hN⟩⟩ rfl rfl hl.1 rfl (lv_room (Nat.le_of_ble_eq_true rfl)) dX3_isName_30 ⟨Nat.zero_le _, Nat.zero_le _⟩).run (fun r_30 hr_30 => ?_)
        subst hr_30
        refine lv_iload hx hb dX3_isName_33 (lv_at hl 4 rfl) ?_
        refine lv_icmp_le (tgt := 40) hx hb dX3_isName_35 (by decide) (fun c_35 => ?_) (fun c_35 => ?_)
        · have c_35 : (bY f0 b0) ≤ (lo + 25) := (nI_leI (by omega) (by omega)).mp c_35
          refine lv_iload_n hx hb dX3_isName_40 rfl (lv_at hl 1 rfl) ?_
          refine lv_iconst (v := nI 1) hx hb dX3_isName_41 (by decide) ?_
          refine lv_iadd hx hb dX3_isName_42 ?_
          refine bt_topi (y := nI (b0 + 1)) (nI_add _ _) ?_
          refine lv_istore (lv' := [(5, .int (nI (b0 + 1))), (0, .ref t), (1, .int (nI b0)), (2, .int (nI e0)), (3, .int (nI lo)), (4, .int (nI (lo + 25)))]) hx hb dX3_isName_43 hl (by decide) rfl (fun ls hl => ?_)
          have loop_45 : ∀ (fu : Nat) (i : Nat), (e0 + 1 ≤ i + fu) → (b0 + 1 ≤ i) → (i ≤ e0) → (∀ j, b0 ≤ j → j < i → npP (bY f0 j)) → ∀ (ls : Array Slot), lv_has ls 6 [(0, .ref t), (1, .int (nI b0)), (2, .int (nI e0)), (5, .int (nI i))] → W p l e ({ frames := 1, cells := 0, slots := 0, locals := 23 } : Room) s m ([.ref t, .int (nI b0), .int (nI e0), .int (nI lo), .int (nI (lo + 25))] : List Value).toArray below meth c s.heap [] 0 0 Q (F0 m 45 ls []) := by
            intro fu
            induction fu with
            | zero => intro i hm hi1 hi2 hnp ls hl; exfalso; omega
            | succ fu ih =>
              intro i hm hi1 hi2 hnp ls hl
              refine lv_iload hx hb dX3_isName_45 (lv_at hl 3 rfl) ?_
              refine lv_iload_n hx hb dX3_isName_47 rfl (lv_at hl 2 rfl) ?_
              refine lv_icmp_ge (tgt := 74) hx hb dX3_isName_48 (by decide) (fun c_48 => ?_) (fun c_48 => ?_)
              · have c_48 : e0 ≤ i := (nI_leI (by omega) (by omega)).mp c_48
                refine lv_iconst (v := nI 1) hx hb dX3_isName_74 (by decide) ?_
                rw [hQ]
                exact W.zret (v := nI 1) hx hb hr (by decide) (fun t ht hW => ⟨nI 1, rfl, (Bt_t ⟨by omega, by omega, by omega, by omega, fun j h1 h2 => hnp j h1 (by omega)⟩).symm, ht⟩) (fun _ h => by cases h) dX3_isName_75
              · have c_48 : ¬ (e0 ≤ i) := fun h9 => c_48 ((nI_leI (by omega) (by omega)).mpr h9)
                refine lv_aload_n hx hb dX3_isName_51 rfl (lv_at hl 0 rfl) ?_
                refine va_get (D := D) (ci := 3) (v := .ref tx) (C := RX3) (T := TX3) (N := 6) hx hb hts (by decide +kernel) hown hK hP 0 rfl rfl 0 (by decide) (hts (.fieldLink RX3 31 "BodyText$Tokens" "text" "LBodyText$Text;") (by decide +kernel)) (fun _ h9 => h9) rfl dX3_isName_52 ?_
                refine lv_iload hx hb dX3_isName_55 (lv_at hl 3 rfl) ?_
                have hPc := hP.sub (ws' := [(tx, .inr (2, [.ref r0, .int (nI len)])), (r0, .inr (1, [.ref q0, .int (nI k0)])), (q0, .inl (cI, n0, .inl f0))]) [1, 2, 3] rfl
                refine vp_callSi (va_runV (As := [.int (nI i)]) (rest := []) ⟨hx, hb, hml, hown, hts⟩ (kX2_at l D cB cI tx r0 q0 len k0 n0 f0 i hlen hn0 (by omega)) (cwV 1 hts gX3_isName_X2_at rfl rfl rfl (by decide +kernel) ⟨Nat.le_of_ble_eq_true rfl, Nat.le_of_ble_eq_true rfl⟩) ⟨fun a U g mk q => ⟨q.1, q.2.calling⟩, va_recv hK hPc (ci := 2) (q0 := 0) rfl rfl, fun U hU hW => ⟨rfl, bt_R.of hU hW hPc hK hN⟩⟩ rfl rfl hl.1 rfl (lv_room (Nat.le_of_ble_eq_true rfl)) dX3_isName_57 ⟨Nat.zero_le _, Nat.zero_le _⟩).run (fun r_57 hr_57 => ?_)
                subst hr_57
                refine vp_callSi (va_runS (As := [.int (nI (bY f0 i))]) (rest := []) ⟨hx, hb, hml, hown, hts⟩ (kX3_isNamePart l (bY f0 i) (bY_lt f0 i)) (va_cwS 1 hts gX3_isName_X3_isNamePart rfl rfl rfl (by decide +kernel) ⟨Nat.le_of_ble_eq_true rfl, Nat.le_of_ble_eq_true rfl⟩) ⟨fun a U g mk q => q, fun U hU hW => ⟨rfl, trivial⟩⟩ rfl rfl hl.1 rfl (lv_room (Nat.le_of_ble_eq_true rfl)) dX3_isName_60 ⟨Nat.zero_le _, Nat.zero_le _⟩).run (fun r_60 hr_60 => ?_)
                subst hr_60
                refine lv_if_ne (tgt := 68) hx hb dX3_isName_63 (by decide) (fun c_63 => ?_) (fun c_63 => ?_)
                · have h_63 : npP (bY f0 i) := Bt_ne0.mp c_63
                  refine lv_iinc (v := nI (i + 1)) (lv' := [(5, .int (nI (i + 1))), (0, .ref t), (1, .int (nI b0)), (2, .int (nI e0))]) hx hb dX3_isName_68 hl (k := 3) rfl (nI_add i 1) (by decide) rfl (fun ls hl => ?_)
                  refine lv_goto (tgt := 45) hx hb dX3_isName_71 (by decide) ?_
                  exact ih (i + 1) (by omega) (by omega) (by omega) (fun j h1 h2 => by rcases Nat.lt_or_ge j i with q | q; exact hnp j h1 q; rw [show j = i by omega]; exact h_63) ls (lv_sub hl [1, 2, 3, 0] rfl)
                · have h_63 : ¬ (npP (bY f0 i)) := Bt_eq0.mp c_63
                  refine lv_iconst (v := nI 0) hx hb dX3_isName_66 (by decide) ?_
                  rw [hQ]
                  exact W.zret (v := nI 0) hx hb hr (by decide) (fun t ht hW => ⟨nI 0, rfl, (Bt_f (fun h => h_63 (h.2.2.2.2 i (by omega) (by omega)))).symm, ht⟩) (fun _ h => by cases h) dX3_isName_67
          exact loop_45 (e0 + 1) (b0 + 1) (by omega) (by omega) (by omega) (fun j h1 h2 => by rw [show j = b0 by omega]; unfold npP; omega) ls (lv_sub hl [1, 2, 3, 0] rfl)
        · have c_35 : ¬ ((bY f0 b0) ≤ (lo + 25)) := fun h9 => c_35 ((nI_leI (by omega) (by omega)).mpr h9)
          refine lv_iconst (v := nI 0) hx hb dX3_isName_38 (by decide) ?_
          rw [hQ]
          exact W.zret (v := nI 0) hx hb hr (by decide) (fun t ht hW => ⟨nI 0, rfl, (Bt_f (fun h => by obtain ⟨g1, g2, g3, g4, -⟩ := h; omega)).symm, ht⟩) (fun _ h => by cases h) dX3_isName_39
def flatW : List (List Nat) → List Nat
  | [] => []
  | w :: r => w ++ 32 :: flatW r
def insW : List (List Nat) := [[112, 117, 115, 104], [110, 117, 108, 108], [108, 111, 97, 100], [115, 116, 111, 114, 101], [105, 110, 99], [100, 117, 112], [112, 111, 112], [115, 119, 97, 112], [97, 100, 100], [115, 117, 98], [109, 117, 108], [100, 105, 118], [114, 101, 109], [97, 110, 100], [111, 114], [120, 111, 114], [115, 104, 108], [115, 104, 114], [110, 101, 103], [103, 111, 116, 111], [101, 113], [110, 101], [108, 116], [108, 101], [103, 116], [103, 101], [105, 115, 110, 117, 108, 108], [110, 111, 116, 110, 117, 108, 108], [115, 97, 109, 101], [111, 116, 104, 101, 114], [110, 101, 119], [97, 114, 114, 97, 121], [108, 101, 110, 103, 116, 104], [97, 108, 111, 97, 100], [97, 115, 116, 111, 114, 101], [103, 101, 116], [112, 117, 116], [99, 97, 115, 116], [105, 115], [99, 97, 108, 108], [115, 101, 110, 100], [116, 104, 114, 111, 119], [103, 105, 118, 101], [98, 97, 99, 107], [114, 101, 97, 100], [119, 114, 105, 116, 101]]
def kwW : List (List Nat) := [[99, 108, 97, 115, 115], [111, 102], [102, 105, 101, 108, 100], [115, 116, 97, 116, 105, 99], [109, 101, 116, 104, 111, 100], [99, 97, 116, 99, 104], [105, 110, 116], [110, 111, 110, 101]]
def sT : Nat → String × Nat × String × List Nat := fun k => match k with
  | 0 => (RX3, 77, "push null load store inc dup pop swap add sub mul div rem and or xor shl shr neg goto eq ne lt le gt ge isnull notnull same other new array length aload astore get put cast is call send throw give back read write ", flatW insW)
  | 1 => (RX3, 89, "class of field static method catch int none ", flatW kwW)
  | 2 => (RX3, 113, "int", [105, 110, 116])
  | 3 => (RX5, 96, "class", [99, 108, 97, 115, 115])
  | 4 => (RX5, 112, "of", [111, 102])
  | 5 => (RX5, 114, "{", [123])
  | 6 => (RX5, 116, "}", [125])
  | 7 => (RX5, 122, "field", [102, 105, 101, 108, 100])
  | 8 => (RX5, 124, "static", [115, 116, 97, 116, 105, 99])
  | 9 => (RX5, 126, "method", [109, 101, 116, 104, 111, 100])
  | 10 => (RX5, 137, "(", [40])
  | 11 => (RX5, 139, ")", [41])
  | 12 => (RX5, 141, "none", [110, 111, 110, 101])
  | 13 => (RX5, 152, ":", [58])
  | 14 => (RX5, 157, "catch", [99, 97, 116, 99, 104])
  | 15 => (RX5, 159, " push null load store inc dup pop swap add sub mul div rem and or xor shl shr neg goto eq ne lt le gt ge isnull notnull same other new array length aload astore get put cast is call send throw give back read write ", 32 :: flatW insW)
  | 16 => (RX5, 165, "N-KKI--------------LLLLLLLLLLLCE---FFTTFF-----", [78, 45, 75, 75, 73, 45, 45, 45, 45, 45, 45, 45, 45, 45, 45, 45, 45, 45, 45, 76, 76, 76, 76, 76, 76, 76, 76, 76, 76, 76, 67, 69, 45, 45, 45, 70, 70, 84, 84, 70, 70, 45, 45, 45, 45, 45])
  | _ => (RX5, 167, "int", [105, 110, 116])
/-- all text constants and what the JDK looks at, in a heap *H*, apart from what is written -/
def bt_G (aK aV : Nat → Nat) (A : Nat → Prop) (U : State) (H : Heap) : Prop := bt_J A U H ∧ ∀ i, i < 18 → vk_R (sT i).1 (sT i).2.1 (sT i).2.2.1 (aK i) U ∧ bt_T (sT i).2.2.2 (aK i) (aV i) A U H
theorem bt_G.kept {aK aV : Nat → Nat} {A : Nat → Prop} {U : State} {H H1 : Heap} (h : bt_G aK aV A U H) (hq : ∀ a : Nat, a < H.size → ¬ A a → H1[a]? = H[a]?) : bt_G aK aV A U H1 := ⟨h.1.kept hq, fun i hi => ⟨(h.2 i hi).1, (h.2 i hi).2.kept hq⟩⟩
theorem bt_G.narrow {aK aV : Nat → Nat} {A B : Nat → Prop} {U : State} {H : Heap} (h : bt_G aK aV A U H) (hAB : ∀ q, B q → A q) : bt_G aK aV B U H := ⟨h.1.narrow hAB, fun i hi => ⟨(h.2 i hi).1, (h.2 i hi).2.narrow hAB⟩⟩
theorem bt_G.warm {aK aV : Nat → Nat} {A : Nat → Prop} {s U : State} {H : Heap} (hW : s.WarmedH U.vm) (h : bt_G aK aV A s H) : bt_G aK aV A U H := ⟨bt_J.moved hW.alike h.1, fun i hi => ⟨vk_R.warm hW (h.2 i hi).1, bt_T.moved hW.alike (h.2 i hi).2⟩⟩
theorem bt_G.same {aK aV : Nat → Nat} {A : Nat → Prop} {u U : State} {H : Heap} (hv : U.vm = u.vm) (h : bt_G aK aV A u H) : bt_G aK aV A U H := ⟨bt_J.moved (by rw [hv]; exact Vm.Alike.refl u.vm) h.1, fun i hi => ⟨vk_R.same hv (h.2 i hi).1, bt_T.moved (by rw [hv]; exact Vm.Alike.refl u.vm) (h.2 i hi).2⟩⟩
def bt_RG (D : va_G) (cB cI : ClassId) (ws : va_W) (aK aV : Nat → Nat) (U : State) : Prop := bt_R D cB cI ws U ∧ bt_G aK aV (fun _ => False) U U.heap
theorem bt_RG.calling {D : va_G} {cB cI : ClassId} {ws : va_W} {aK aV : Nat → Nat} {U : State} {g : JFrame} {mk : MethodId} {a : Array Value} (h : bt_RG D cB cI ws aK aV U) : bt_RG D cB cI ws aK aV (U.calling g mk a) := ⟨h.1.calling, bt_G.same (u := U) (U := U.calling g mk a) rfl h.2⟩
theorem bt_RG.of {D : va_G} {cB cI : ClassId} {ws : va_W} {aK aV : Nat → Nat} {s U : State} {H : Heap} (hU : U.heap = H) (hW : s.WarmedH U.vm) (hP : va_P D vwCl ws H) (hK : va_K D vwCl [(cB, .byte), (cI, .int)] s) (hN : bt_N s) (hG : bt_G aK aV (fun _ => False) s H) : bt_RG D cB cI ws aK aV U := ⟨bt_R.of hU hW hP hK hN, by rw [hU]; exact hG.warm hW⟩
def bt_MG (D : va_G) (cB cI : ClassId) (sz : Nat) (ws : va_W) (aK aV : Nat → Nat) (U : State) : Prop := bt_M D cB cI sz ws U ∧ bt_G aK aV (va_A ws sz) U U.heap
theorem bt_MG.calling {D : va_G} {cB cI : ClassId} {sz : Nat} {ws : va_W} {aK aV : Nat → Nat} {U : State} {g : JFrame} {mk : MethodId} {a : Array Value} (h : bt_MG D cB cI sz ws aK aV U) : bt_MG D cB cI sz ws aK aV (U.calling g mk a) := ⟨h.1.calling, bt_G.same (u := U) (U := U.calling g mk a) rfl h.2⟩
theorem bt_MG.of {D : va_G} {cB cI : ClassId} {A : Nat → Prop} {ws : va_W} {aK aV : Nat → Nat} {s U : State} {H : Heap} (hU : U.heap = H) (hW : s.WarmedH U.vm) (hP : va_P D vwCl ws H) (hK : va_K D vwCl [(cB, .byte), (cI, .int)] s) (hN : bt_N s) (hD : va_D A ws) (hG : bt_G aK aV A s H) (hF : ∀ q, va_A ws H.size q → A q) : bt_MG D cB cI H.size ws aK aV U := ⟨bt_M.of hU hW hP hK hN hD, by rw [hU]; exact (hG.narrow hF).warm hW⟩
/-- one text beside the cells -/
def bt_RT (D : va_G) (cB cI : ClassId) (ws : va_W) (cs : List Nat) (aK aV : Nat) (U : State) : Prop := bt_R D cB cI ws U ∧ bt_TJ cs aK aV U
theorem bt_RT.calling {D : va_G} {cB cI : ClassId} {ws : va_W} {cs : List Nat} {aK aV : Nat} {U : State} {g : JFrame} {mk : MethodId} {a : Array Value} (h : bt_RT D cB cI ws cs aK aV U) : bt_RT D cB cI ws cs aK aV (U.calling g mk a) := ⟨h.1.calling, h.2.calling⟩
theorem bt_RT.of {D : va_G} {cB cI : ClassId} {ws : va_W} {cs : List Nat} {aK aV : Nat} {s U : State} {H : Heap} (hU : U.heap = H) (hW : s.WarmedH U.vm) (hP : va_P D vwCl ws H) (hK : va_K D vwCl [(cB, .byte), (cI, .int)] s) (hN : bt_N s) (hT : bt_T cs aK aV (fun _ => False) s H) (hJ : bt_J (fun _ => False) s H) : bt_RT D cB cI ws cs aK aV U := ⟨bt_R.of hU hW hP hK hN, bt_TJ.of hU hW hT hJ⟩
