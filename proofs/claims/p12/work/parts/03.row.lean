/-- how large a row's array is made: 16, 32 .. 8192, 16000 -/
def cp (k : Nat) : Nat := if k ≤ 16 then 16 else if k ≤ 32 then 32 else if k ≤ 64 then 64 else if k ≤ 128 then 128 else if k ≤ 256 then 256 else if k ≤ 512 then 512 else if k ≤ 1024 then 1024 else if k ≤ 2048 then 2048 else if k ≤ 4096 then 4096 else if k ≤ 8192 then 8192 else 16000
/-- a row's array of n behind k entries -/
def up (n k : Nat) : Nat := max n (cp k)
theorem cp_vals (k : Nat) : cp k = 16 ∨ cp k = 32 ∨ cp k = 64 ∨ cp k = 128 ∨ cp k = 256 ∨ cp k = 512 ∨ cp k = 1024 ∨ cp k = 2048 ∨ cp k = 4096 ∨ cp k = 8192 ∨ cp k = 16000 := by
  unfold cp
  repeat' split
  all_goals omega
theorem cp_lb (b : Nat) : 16 ≤ cp b ∧ (16 < b → 32 ≤ cp b) ∧ (32 < b → 64 ≤ cp b) ∧ (64 < b → 128 ≤ cp b) ∧ (128 < b → 256 ≤ cp b) ∧ (256 < b → 512 ≤ cp b) ∧ (512 < b → 1024 ≤ cp b) ∧ (1024 < b → 2048 ≤ cp b) ∧ (2048 < b → 4096 ≤ cp b) ∧ (4096 < b → 8192 ≤ cp b) ∧ (8192 < b → 16000 ≤ cp b) := by
  unfold cp
  repeat' split
  all_goals omega
theorem cp_ge {k : Nat} (h : k ≤ 16000) : k ≤ cp k := by
  unfold cp
  repeat' split
  all_goals omega
theorem cp_le (k : Nat) : cp k ≤ 16000 := by
  unfold cp
  repeat' split
  all_goals omega
theorem cp_16 (k : Nat) : 16 ≤ cp k := (cp_lb k).1
theorem cp_mono {a b : Nat} (h : a ≤ b) : cp a ≤ cp b := by
  have hb := cp_lb b
  generalize cp b = y at hb
  unfold cp
  repeat' split
  all_goals omega
theorem cp_cp (k : Nat) : cp (cp k) = cp k := by
  rcases cp_vals k with h | h | h | h | h | h | h | h | h | h | h <;> rw [h] <;> rfl
theorem cp_grow {n : Nat} (h : cp n = n) (h2 : n < 16000) : cp (n + 1) = min (2 * n) 16000 := by
  rcases cp_vals n with q | q | q | q | q | q | q | q | q | q | q <;> rw [h] at q <;> subst q <;> first | rfl | omega
theorem cp_seq {n : Nat} (h : cp n = n) (h2 : n < 16000) : n ≤ 8192 := by
  rcases cp_vals n with q | q | q | q | q | q | q | q | q | q | q <;> omega
theorem up_ge (n k : Nat) : n ≤ up n k := Nat.le_max_left _ _
theorem up_le {n k : Nat} (h : n ≤ 16000) : up n k ≤ 16000 := Nat.max_le.mpr ⟨h, cp_le k⟩
theorem up_in {n k : Nat} (h : k ≤ 16000) : k ≤ up n k := Nat.le_trans (cp_ge h) (Nat.le_max_right _ _)
theorem up_cp {n k : Nat} (h : cp n = n) : cp (up n k) = up n k := by
  unfold up
  rcases Nat.le_total n (cp k) with q | q
  · rw [Nat.max_eq_right q]; exact cp_cp k
  · rw [Nat.max_eq_left q]; exact h
theorem up_up {n k j : Nat} (h : k ≤ j) : up (up n k) j = up n j := by
  have := cp_mono h
  unfold up
  omega
theorem up_keep {n k : Nat} (h : cp n = n) (hk : k ≤ n) : up n k = n := by
  have := cp_mono hk
  unfold up
  omega
theorem up_full {n : Nat} (h : cp n = n) (h2 : n < 16000) : up n (n + 1) = min (2 * n) 16000 := by
  have := cp_grow h h2
  unfold up
  omega
theorem up_0 {n : Nat} (h : cp n = n) : up n 0 = n := up_keep h (Nat.zero_le n)
theorem cp_b {n : Nat} (h : cp n = n) : 16 ≤ n ∧ n ≤ 16000 := ⟨by rw [← h]; exact cp_16 n, by rw [← h]; exact cp_le n⟩
/-- what get answers -/
def rw_get (f : Nat → Int32) (k : Nat) (i : Int32) : Int32 := if 0 ≤ i.toInt ∧ i.toInt < k then f i.toInt.toNat else -1
theorem rw_get_lo {f : Nat → Int32} {k : Nat} {i : Int32} (h : i < 0) : rw_get f k i = -1 := by
  have h1 := Int32.lt_iff_toInt_lt.mp h
  have h0 : (0 : Int32).toInt = 0 := rfl
  unfold rw_get
  exact if_neg (by omega)
theorem rw_get_hi {f : Nat → Int32} {k : Nat} {i : Int32} (hk : k < 2 ^ 31) (h : nI k ≤ i) : rw_get f k i = -1 := by
  have h1 := Int32.le_iff_toInt_le.mp h
  rw [nI_toInt hk] at h1
  unfold rw_get
  exact if_neg (by omega)
theorem rw_get_in {f : Nat → Int32} {k j : Nat} (hk : k < 2 ^ 31) (h : j < k) : rw_get f k (nI j) = f j := by
  unfold rw_get
  rw [nI_toInt (by omega), if_pos (by omega)]
  rfl
theorem bt_ix {x : Int32} {n : Nat} (h0 : ¬ x < 0) (h1 : ¬ nI n ≤ x) (hn : n < 2 ^ 31) : ∃ j : Nat, j < n ∧ x = nI j := by
  rcases pk_ix x hn with h | h | h
  · exact absurd h h0
  · exact absurd h h1
  · exact h
theorem bt_cI {D : va_G} {cB cI cA : ClassId} {s : State} (h : va_K D vwCl [(cB, .byte), (cI, .int), (cA, .int)] s) : cA = cI := by
  have h1 := (h.2 1 _ rfl).2
  have h2 := (h.2 2 _ rfl).2
  exact (Option.some.inj ((show s.vm.findClass _ = some cI from h1).symm.trans (show s.vm.findClass _ = some cA from h2))).symm
theorem bt_cB {D : va_G} {cB cI cA : ClassId} {s : State} (h : va_K D vwCl [(cB, .byte), (cI, .int), (cA, .byte)] s) : cA = cB := by
  have h1 := (h.2 0 _ rfl).2
  have h2 := (h.2 2 _ rfl).2
  exact (Option.some.inj ((show s.vm.findClass _ = some cB from h1).symm.trans (show s.vm.findClass _ = some cA from h2))).symm
set_option maxHeartbeats 4000000 in
set_option maxRecDepth 100000 in
/-- Row.get(i) -/
theorem kX1_get (l : Launch) (D : va_G) (cB cI : ClassId) (a q n : Nat) (f : Nat → Int32) (k : Nat) (i : Int32) (hn : n ≤ 16000) (hk : k ≤ n) : Met l yX1_get wsX1_get ({ frames := 0, cells := 0, slots := 0, locals := 0 }) (va_Pc [.ref a, .int i] (bt_R D cB cI [(a, .inr (1, [.ref q, .int (nI k)])), (q, .inl (cI, n, .inl f))])) (vp_Si (fun r => r = rw_get f k i)) 0 0 (fun _ => False) := by
  refine Met.ofW (cc := cX1_get) (maxL := 2) (ret := (some .int)) (by decide) rfl ?_
  intro p e s m args below meth c s₁ B hml hv
  obtain ⟨rfl, hP, hK, hN⟩ := hv
  have hx := B.exec
  have hb := B.bytes
  have hr := B.returns
  have hts := atoms_spec (ws := wsX1_get) B.pre
  have hown : s.vm.findClass RX1 = some m.cls := findClass_of_methodNamed B.named
  have hlocks := B.notSynchronized
  have hl := lv_entry ([.ref a, .int i]) (n := 2) (Nat.le_of_ble_eq_true rfl)
  rw [lg_entry_eq]
  generalize (lg_sl ([.ref a, .int i]) ++ List.replicate (2 - (lg_sl ([.ref a, .int i])).length) Slot.unset).toArray = ls at hl ⊢
  have hl : lv_has ls 2 [(0, .ref a), (1, .int i)] := hl
  refine lv_iload_n hx hb dX1_get_0 rfl (lv_at hl 1 rfl) ?_
  refine lv_if_lt (tgt := 30) hx hb dX1_get_1 (by decide) (fun c_1 => ?_) (fun c_1 => ?_)
  · refine lv_iconst (v := -1) hx hb dX1_get_30 (by decide) ?_
    exact W.iret (v := (-1)) hx hb hr (fun t ht hW => ⟨(-1), rfl, (rw_get_lo c_1).symm, ht⟩) (fun _ h => by cases h) dX1_get_31
  · refine lv_iload_n hx hb dX1_get_4 rfl (lv_at hl 1 rfl) ?_
    refine lv_aload_n hx hb dX1_get_5 rfl (lv_at hl 0 rfl) ?_
    refine va_get (D := D) (ci := 1) (v := .int (nI k)) (C := RX1) (T := TX1) (N := 2) hx hb hts (by decide +kernel) hown hK hP 0 rfl rfl 1 (by decide) (hts (.fieldLink RX1 15 "BodyText$Row" "count" "I") (by decide +kernel)) (fun _ h9 => h9) rfl dX1_get_6 ?_
    refine lv_icmp_ge (tgt := 30) hx hb dX1_get_9 (by decide) (fun c_9 => ?_) (fun c_9 => ?_)
    · refine lv_iconst (v := -1) hx hb dX1_get_30 (by decide) ?_
      exact W.iret (v := (-1)) hx hb hr (fun t ht hW => ⟨(-1), rfl, (rw_get_hi (by omega) c_9).symm, ht⟩) (fun _ h => by cases h) dX1_get_31
    · obtain ⟨j, hj, rfl⟩ := bt_ix c_1 c_9 (by omega)
      refine lv_iload_n hx hb dX1_get_12 rfl (lv_at hl 1 rfl) ?_
      refine lv_aload_n hx hb dX1_get_13 rfl (lv_at hl 0 rfl) ?_
      refine va_get (D := D) (ci := 1) (v := .ref q) (C := RX1) (T := TX1) (N := 2) hx hb hts (by decide +kernel) hown hK hP 0 rfl rfl 0 (by decide) (hts (.fieldLink RX1 11 "BodyText$Row" "items" "[I") (by decide +kernel)) (fun _ h9 => h9) rfl dX1_get_14 ?_
      refine va_alen hx hb hK hP 1 1 rfl rfl (v := nI n) rfl dX1_get_17 ?_
      refine lv_icmp_ge (tgt := 30) hx hb dX1_get_18 (by decide) (fun c_18 => ?_) (fun c_18 => ?_)
      · have c_18 : n ≤ j := (nI_leI (by omega) (by omega)).mp c_18
        exfalso; omega
      · have c_18 : ¬ (n ≤ j) := fun h9 => c_18 ((nI_leI (by omega) (by omega)).mpr h9)
        refine lv_aload_n hx hb dX1_get_21 rfl (lv_at hl 0 rfl) ?_
        refine va_get (D := D) (ci := 1) (v := .ref q) (C := RX1) (T := TX1) (N := 2) hx hb hts (by decide +kernel) hown hK hP 0 rfl rfl 0 (by decide) (hts (.fieldLink RX1 11 "BodyText$Row" "items" "[I") (by decide +kernel)) (fun _ h9 => h9) rfl dX1_get_22 ?_
        refine lv_iload_n hx hb dX1_get_25 rfl (lv_at hl 1 rfl) ?_
        refine va_iald hx hb hK hP 1 1 rfl rfl (vp_in_nI (by omega) (by omega)) dX1_get_26 ?_
        rw [nI_clamp (by omega)]
        refine lv_goto (tgt := 31) hx hb dX1_get_27 (by decide) ?_
        exact W.iret (v := (f j)) hx hb hr (fun t ht hW => ⟨(f j), rfl, (rw_get_in (by omega) hj).symm, ht⟩) (fun _ h => by cases h) dX1_get_31
set_option maxHeartbeats 4000000 in
set_option maxRecDepth 100000 in
/-- Row.hasAny(i, b) -/
theorem kX1_hasAny (l : Launch) (D : va_G) (cB cI : ClassId) (a q n : Nat) (f : Nat → Int32) (k i : Nat) (b : Int32) (hn : n ≤ 16000) (hk : k ≤ n) (hi : i < 2 ^ 31) : Met l yX1_hasAny wsX1_hasAny ({ frames := 0, cells := 0, slots := 0, locals := 0 }) (va_Pc [.ref a, .int (nI i), .int b] (bt_R D cB cI [(a, .inr (1, [.ref q, .int (nI k)])), (q, .inl (cI, n, .inl f))])) (vp_Si (fun r => r = Bt (i < k ∧ ¬ f i &&& b = 0))) 0 0 (fun _ => False) := by
  refine Met.ofW (cc := cX1_hasAny) (maxL := 3) (ret := (some .boolean)) (by decide) rfl ?_
  intro p e s m args below meth c s₁ B hml hv
  obtain ⟨rfl, hP, hK, hN⟩ := hv
  have hx := B.exec
  have hb := B.bytes
  have hr := B.returns
  have hts := atoms_spec (ws := wsX1_hasAny) B.pre
  have hown : s.vm.findClass RX1 = some m.cls := findClass_of_methodNamed B.named
  have hlocks := B.notSynchronized
  have hl := lv_entry ([.ref a, .int (nI i), .int b]) (n := 3) (Nat.le_of_ble_eq_true rfl)
  rw [lg_entry_eq]
  generalize (lg_sl ([.ref a, .int (nI i), .int b]) ++ List.replicate (3 - (lg_sl ([.ref a, .int (nI i), .int b])).length) Slot.unset).toArray = ls at hl ⊢
  have hl : lv_has ls 3 [(0, .ref a), (1, .int (nI i)), (2, .int b)] := hl
  refine lv_iload_n hx hb dX1_hasAny_0 rfl (lv_at hl 1 rfl) ?_
  refine lv_if_lt (tgt := 36) hx hb dX1_hasAny_1 (by decide) (fun c_1 => ?_) (fun c_1 => ?_)
  · have c_1 : i < 0 := (nI_ltI (by omega) (by omega)).mp c_1
    exfalso; omega
  · have c_1 : ¬ (i < 0) := fun h9 => c_1 ((nI_ltI (by omega) (by omega)).mpr h9)
    refine lv_iload_n hx hb dX1_hasAny_4 rfl (lv_at hl 1 rfl) ?_
    refine lv_aload_n hx hb dX1_hasAny_5 rfl (lv_at hl 0 rfl) ?_
    refine va_get (D := D) (ci := 1) (v := .int (nI k)) (C := RX1) (T := TX1) (N := 2) hx hb hts (by decide +kernel) hown hK hP 0 rfl rfl 1 (by decide) (hts (.fieldLink RX1 15 "BodyText$Row" "count" "I") (by decide +kernel)) (fun _ h9 => h9) rfl dX1_hasAny_6 ?_
    refine lv_icmp_ge (tgt := 36) hx hb dX1_hasAny_9 (by decide) (fun c_9 => ?_) (fun c_9 => ?_)
    · have c_9 : k ≤ i := (nI_leI (by omega) (by omega)).mp c_9
      refine lv_iconst (v := nI 0) hx hb dX1_hasAny_36 (by decide) ?_
      exact W.zret (v := nI 0) hx hb hr (by decide) (fun t ht hW => ⟨nI 0, rfl, (Bt_f (fun h => by omega)).symm, ht⟩) (fun _ h => by cases h) dX1_hasAny_37
    · have c_9 : ¬ (k ≤ i) := fun h9 => c_9 ((nI_leI (by omega) (by omega)).mpr h9)
      refine lv_iload_n hx hb dX1_hasAny_12 rfl (lv_at hl 1 rfl) ?_
      refine lv_aload_n hx hb dX1_hasAny_13 rfl (lv_at hl 0 rfl) ?_
      refine va_get (D := D) (ci := 1) (v := .ref q) (C := RX1) (T := TX1) (N := 2) hx hb hts (by decide +kernel) hown hK hP 0 rfl rfl 0 (by decide) (hts (.fieldLink RX1 11 "BodyText$Row" "items" "[I") (by decide +kernel)) (fun _ h9 => h9) rfl dX1_hasAny_14 ?_
      refine va_alen hx hb hK hP 1 1 rfl rfl (v := nI n) rfl dX1_hasAny_17 ?_
      refine lv_icmp_ge (tgt := 36) hx hb dX1_hasAny_18 (by decide) (fun c_18 => ?_) (fun c_18 => ?_)
      · have c_18 : n ≤ i := (nI_leI (by omega) (by omega)).mp c_18
        exfalso; omega
      · have c_18 : ¬ (n ≤ i) := fun h9 => c_18 ((nI_leI (by omega) (by omega)).mpr h9)
        refine lv_aload_n hx hb dX1_hasAny_21 rfl (lv_at hl 0 rfl) ?_
        refine va_get (D := D) (ci := 1) (v := .ref q) (C := RX1) (T := TX1) (N := 2) hx hb hts (by decide +kernel) hown hK hP 0 rfl rfl 0 (by decide) (hts (.fieldLink RX1 11 "BodyText$Row" "items" "[I") (by decide +kernel)) (fun _ h9 => h9) rfl dX1_hasAny_22 ?_
        refine lv_iload_n hx hb dX1_hasAny_25 rfl (lv_at hl 1 rfl) ?_
        refine va_iald hx hb hK hP 1 1 rfl rfl (vp_in_nI (by omega) (by omega)) dX1_hasAny_26 ?_
        rw [nI_clamp (by omega)]
        refine lv_iload_n hx hb dX1_hasAny_27 rfl (lv_at hl 2 rfl) ?_
        refine lv_iand hx hb dX1_hasAny_28 ?_
        refine lv_if_eq (tgt := 36) hx hb dX1_hasAny_29 (by decide) (fun c_29 => ?_) (fun c_29 => ?_)
        · refine lv_iconst (v := nI 0) hx hb dX1_hasAny_36 (by decide) ?_
          exact W.zret (v := nI 0) hx hb hr (by decide) (fun t ht hW => ⟨nI 0, rfl, (Bt_f (fun h => h.2 c_29)).symm, ht⟩) (fun _ h => by cases h) dX1_hasAny_37
        · refine lv_iconst (v := nI 1) hx hb dX1_hasAny_32 (by decide) ?_
          refine lv_goto (tgt := 37) hx hb dX1_hasAny_33 (by decide) ?_
          exact W.zret (v := nI 1) hx hb hr (by decide) (fun t ht hW => ⟨nI 1, rfl, (Bt_t ⟨by omega, c_29⟩).symm, ht⟩) (fun _ h => by cases h) dX1_hasAny_37
set_option maxHeartbeats 4000000 in
set_option maxRecDepth 100000 in
/-- Row.clear() -/
theorem kX1_clear (l : Launch) (D : va_G) (cB cI : ClassId) (a q : Nat) (k : Nat) (sz : Nat) : Met l yX1_clear wsX1_clear ({ frames := 0, cells := 0, slots := 0, locals := 0 }) (va_Pc [.ref a] (bt_M D cB cI sz [(a, .inr (1, [.ref q, .int (nI k)]))])) (va_Qv (S := Unit) (fun _ => True) (fun u t9 => bt_L D (va_A [(a, .inr (1, [.ref q, .int (nI k)]))] sz) ((fun _ => [(a, .inr (1, [.ref q, .int (nI 0)]))]) u) t9) (va_A [(a, .inr (1, [.ref q, .int (nI k)]))] sz)) 0 0 (va_A [(a, .inr (1, [.ref q, .int (nI k)]))] sz) := by
  refine Met.ofW (cc := cX1_clear) (maxL := 1) (ret := none) (by decide) rfl ?_
  intro p e s m args below meth c s₁ B hml hv
  obtain ⟨rfl, hsz, hP, hK, hN, hD0⟩ := hv
  have hx := B.exec
  have hb := B.bytes
  have hr := B.returns
  have hts := atoms_spec (ws := wsX1_clear) B.pre
  have hown : s.vm.findClass RX1 = some m.cls := findClass_of_methodNamed B.named
  have hlocks := B.notSynchronized
  subst hsz
  have hD := hD0.self (sz := s.heap.size)
  generalize hAe : va_A [(a, .inr (1, [.ref q, .int (nI k)]))] s.heap.size = A at hD ⊢
  have hA : ∀ q : Nat, s.heap.size ≤ q → A q := fun q h => by rw [← hAe]; exact Or.inr h
  have hS : va_S A s.heap s.heap [] := va_S.rf
  have hl := lv_entry ([.ref a]) (n := 1) (Nat.le_of_ble_eq_true rfl)
  rw [lg_entry_eq]
  generalize (lg_sl ([.ref a]) ++ List.replicate (1 - (lg_sl ([.ref a])).length) Slot.unset).toArray = ls at hl ⊢
  have hl : lv_has ls 1 [(0, .ref a)] := hl
  refine lv_aload_n hx hb dX1_clear_0 rfl (lv_at hl 0 rfl) ?_
  refine lv_iconst (v := nI 0) hx hb dX1_clear_1 (by decide) ?_
  refine va_put (D := D) (ci := 1) (v := .int (nI 0)) (ty := .int) (C := RX1) (T := TX1) (N := 2) hx hb hts (by decide +kernel) tyX1 tyX1_ok nmX1 hown hK hP hD hS 0 rfl rfl 1 (by decide) (hts (.fieldLink RX1 15 "BodyText$Row" "count" "I") (by decide +kernel)) (fun _ h9 => h9) rfl (by decide +kernel) rfl rfl (Nat.le_of_ble_eq_true rfl) dX1_clear_2 (fun H locs hP hD hS => ?_)
  have hP : va_P D vwCl [(a, .inr (1, [.ref q, .int (nI 0)]))] H := hP
  have hD : va_D A [(a, .inr (1, [.ref q, .int (nI 0)]))] := hD
  have hP9 := hP.sub (ws' := [(a, .inr (1, [.ref q, .int (nI 0)]))]) [0] rfl
  have hD9 := hD.sub (ws' := [(a, .inr (1, [.ref q, .int (nI 0)]))]) [0] (by decide) rfl
  refine W.widen (k := 0) (n := 0) (show 0 ≤ 0 by omega) (show 0 ≤ 0 by omega) ?_
  exact W.vret hx hb hr (fun t9 ht hW => ⟨⟨(), rfl, trivial, by rw [ht]; exact hP9, hD9⟩, hS.F ht⟩) hS.2.2 dX1_clear_5
set_option maxHeartbeats 4000000 in
set_option maxRecDepth 100000 in
/-- Row() -/
theorem kX1_init (l : Launch) (D : va_G) (cB cI : ClassId) (a : Nat) (sz : Nat) : Met l yX1_init wsX1_init ({ frames := 1, cells := 1, slots := 16, locals := 12 }) (va_Pc [.ref a] (bt_M D cB cI sz [(a, .inr (1, [.null, .int (nI 0)]))])) (va_Qv (S := Nat) (fun _ => True) (fun u t9 => bt_L D (va_A [(a, .inr (1, [.null, .int (nI 0)]))] sz) ((fun q => [(a, .inr (1, [.ref q, .int (nI 0)])), (q, .inl (cI, 16, .inl (fun _ => 0)))]) u) t9) (va_A [(a, .inr (1, [.null, .int (nI 0)]))] sz)) 1 16 (va_A [(a, .inr (1, [.null, .int (nI 0)]))] sz) := by
  refine Met.ofW (cc := cX1_init) (maxL := 1) (ret := none) (by decide) rfl ?_
  intro p e s m args below meth c s₁ B hml hv
  obtain ⟨rfl, hsz, hP, hK, hN, hD0⟩ := hv
  have hx := B.exec
  have hb := B.bytes
  have hr := B.returns
  have hts := atoms_spec (ws := wsX1_init) B.pre
  have hown : s.vm.findClass RX1 = some m.cls := findClass_of_methodNamed B.named
  have hlocks := B.notSynchronized
  have hin : meth.name = "<init>" := (name_of_methodNamed B.named B.method).1
  subst hsz
  have hD := hD0.self (sz := s.heap.size)
  generalize hAe : va_A [(a, .inr (1, [.null, .int (nI 0)]))] s.heap.size = A at hD ⊢
  have hA : ∀ q : Nat, s.heap.size ≤ q → A q := fun q h => by rw [← hAe]; exact Or.inr h
  have hS : va_S A s.heap s.heap [] := va_S.rf
  have hl := lv_entry ([.ref a]) (n := 1) (Nat.le_of_ble_eq_true rfl)
  rw [lg_entry_eq]
  generalize (lg_sl ([.ref a]) ++ List.replicate (1 - (lg_sl ([.ref a])).length) Slot.unset).toArray = ls at hl ⊢
  have hl : lv_has ls 1 [(0, .ref a)] := hl
  refine lv_aload_n hx hb dX1_init_0 rfl (lv_at hl 0 rfl) ?_
  refine W.objInit hx hb hown (hts (.methodLink RX1 3 objectInit) (by decide +kernel)) (hts (.instanceMethod objectInit) (by decide +kernel)) (hts (.code objectInit ⟨#[0xb1]⟩ 1 none) (by decide +kernel)) rfl (by rw [hml]; exact hl.1) rfl dX1_init_1 (Nat.le_of_ble_eq_true rfl) (Nat.le_of_ble_eq_true rfl) ?_
  refine W.eq (g2 := F0 m 4 ls []) rfl ?_
  refine lv_aload_n hx hb dX1_init_4 rfl (lv_at hl 0 rfl) ?_
  refine lv_bipush (v := nI 16) hx hb dX1_init_5 (by decide) ?_
  refine va_newa (atype := .int) (ty := .int) (N' := 16) (a0 := (16, .inl (fun _ => 0))) hx hb (hts (.arrayClass .int) (by decide +kernel)) rfl hK hP hD hS hA (fun cA => rfl) (nI_pos (by omega)) (nI_clamp (by omega)) (show 16 * 4 ≤ 536870912 by omega) (show 0 + 1 ≤ 1 by omega) (show 0 + 16 ≤ 16 by omega) dX1_init_7 (fun q_7 cA H hK1 hP hD hS => ?_)
  rw [bt_cI hK1] at hP hD
  clear hK1
  have hP : va_P D vwCl [(a, .inr (1, [.null, .int (nI 0)])), (q_7, .inl (cI, 16, .inl (fun _ => 0)))] H := hP
  have hD : va_D A [(a, .inr (1, [.null, .int (nI 0)])), (q_7, .inl (cI, 16, .inl (fun _ => 0)))] := hD
  refine va_put (D := D) (ci := 1) (v := .ref q_7) (ty := .array .int) (C := RX1) (T := TX1) (N := 2) hx hb hts (by decide +kernel) tyX1 tyX1_ok nmX1 hown hK hP hD hS 0 rfl rfl 0 (by decide) (hts (.fieldLink RX1 11 "BodyText$Row" "items" "[I") (by decide +kernel)) (fun _ h9 => h9) rfl (by decide +kernel) rfl rfl (Nat.le_of_ble_eq_true rfl) dX1_init_9 (fun H locs hP hD hS => ?_)
  have hP : va_P D vwCl [(a, .inr (1, [.ref q_7, .int (nI 0)])), (q_7, .inl (cI, 16, .inl (fun _ => 0)))] H := hP
  have hD : va_D A [(a, .inr (1, [.ref q_7, .int (nI 0)])), (q_7, .inl (cI, 16, .inl (fun _ => 0)))] := hD
  refine lv_aload_n hx hb dX1_init_12 rfl (lv_at hl 0 rfl) ?_
  refine lv_iconst (v := nI 0) hx hb dX1_init_13 (by decide) ?_
  refine va_put (D := D) (ci := 1) (v := .int (nI 0)) (ty := .int) (C := RX1) (T := TX1) (N := 2) hx hb hts (by decide +kernel) tyX1 tyX1_ok nmX1 hown hK hP hD hS 0 rfl rfl 1 (by decide) (hts (.fieldLink RX1 15 "BodyText$Row" "count" "I") (by decide +kernel)) (fun _ h9 => h9) rfl (by decide +kernel) rfl rfl (Nat.le_of_ble_eq_true rfl) dX1_init_14 (fun H locs hP hD hS => ?_)
  have hP : va_P D vwCl [(a, .inr (1, [.ref q_7, .int (nI 0)])), (q_7, .inl (cI, 16, .inl (fun _ => 0)))] H := hP
  have hD : va_D A [(a, .inr (1, [.ref q_7, .int (nI 0)])), (q_7, .inl (cI, 16, .inl (fun _ => 0)))] := hD
  have hP9 := hP.sub (ws' := [(a, .inr (1, [.ref q_7, .int (nI 0)])), (q_7, .inl (cI, 16, .inl (fun _ => 0)))]) [0, 1] rfl
  have hD9 := hD.sub (ws' := [(a, .inr (1, [.ref q_7, .int (nI 0)])), (q_7, .inl (cI, 16, .inl (fun _ => 0)))]) [0, 1] (by decide) rfl
  refine W.widen (k := 1) (n := 16) (show (0 + 1) ≤ 1 by omega) (show (0 + 16) ≤ 16 by omega) ?_
  exact W.vret hx hb hr (fun t9 ht hW => ⟨⟨q_7, rfl, trivial, by rw [ht]; exact hP9, hD9⟩, hS.F ht⟩) hS.2.2 dX1_init_17
theorem bt_min {a b : Nat} (ha : a < 2 ^ 31) (hb : b < 2 ^ 31) : (if nI b < nI a then nI b else nI a) = nI (min a b) := by
  by_cases h : b < a
  · rw [if_pos ((nI_ltI hb ha).mpr h), Nat.min_eq_right (by omega)]
  · rw [if_neg (fun q => h ((nI_ltI hb ha).mp q)), Nat.min_eq_left (by omega)]
set_option maxHeartbeats 4000000 in
set_option maxRecDepth 100000 in
/-- Arrays.copyOf(a, N), N beyond its length -/
theorem kJ7_copyOf (l : Launch) (D : va_G) (cB cI : ClassId) (q n : Nat) (f : Nat → Int32) (N : Nat) (hn : n < N) (hN : N ≤ 16000) (sz : Nat) : Met l yJ7_copyOf_59c91 wsJ7_copyOf_59c91 ({ frames := 1, cells := 1, slots := N, locals := 40 }) (va_Pc [.ref q, .int (nI N)] (bt_M D cB cI sz [(q, .inl (cI, n, .inl f))])) (va_Qr (S := Nat → Int32) (fun g => ∀ j, j < n → g j = f j) (fun g a t => bt_L D (va_A [(q, .inl (cI, n, .inl f))] sz) [(q, .inl (cI, n, .inl f)), (a, .inl (cI, N, .inl g))] t) (va_A [(q, .inl (cI, n, .inl f))] sz)) 1 N (va_A [(q, .inl (cI, n, .inl f))] sz) := by
  refine Met.ofW (cc := cJ7_copyOf_59c91) (maxL := 3) (ret := (some (.array .int))) (by decide) rfl ?_
  intro p e s m args below meth c s₁ B hml hv
  obtain ⟨rfl, hsz, hP, hK, hN, hD0⟩ := hv
  have hx := B.exec
  have hb := B.bytes
  have hr := B.returns
  have hts := atoms_spec (ws := wsJ7_copyOf_59c91) B.pre
  have hown : s.vm.findClass RJ7 = some m.cls := findClass_of_methodNamed B.named
  have hlocks := B.notSynchronized
  subst hsz
  have hD := hD0.self (sz := s.heap.size)
  generalize hAe : va_A [(q, .inl (cI, n, .inl f))] s.heap.size = A at hD ⊢
  have hA : ∀ q : Nat, s.heap.size ≤ q → A q := fun q h => by rw [← hAe]; exact Or.inr h
  have hS : va_S A s.heap s.heap [] := va_S.rf
  have hl := lv_entry ([.ref q, .int (nI N)]) (n := 3) (Nat.le_of_ble_eq_true rfl)
  rw [lg_entry_eq]
  generalize (lg_sl ([.ref q, .int (nI N)]) ++ List.replicate (3 - (lg_sl ([.ref q, .int (nI N)])).length) Slot.unset).toArray = ls at hl ⊢
  have hl : lv_has ls 3 [(0, .ref q), (1, .int (nI N))] := hl
  refine lv_iload_n hx hb dJ7_copyOf_59c91_0 rfl (lv_at hl 1 rfl) ?_
  refine lv_aload_n hx hb dJ7_copyOf_59c91_1 rfl (lv_at hl 0 rfl) ?_
  refine va_alen hx hb hK hP 0 1 rfl rfl (v := nI n) rfl dJ7_copyOf_59c91_2 ?_
  refine lv_icmp_ne (tgt := 14) hx hb dJ7_copyOf_59c91_3 (by decide) (fun c_3 => ?_) (fun c_3 => ?_)
  · have c_3 : ¬ (N = n) := fun h9 => c_3 ((nI_eq (by omega) (by omega)).mpr h9)
    refine lv_iload_n hx hb dJ7_copyOf_59c91_14 rfl (lv_at hl 1 rfl) ?_
    refine va_newa (atype := .int) (ty := .int) (N' := N) (a0 := (N, .inl (fun _ => 0))) hx hb (hts (.arrayClass .int) (by decide +kernel)) rfl hK hP hD hS hA (fun cA => rfl) (nI_pos (by omega)) (nI_clamp (by omega)) (show N * 4 ≤ 536870912 by omega) (show 0 + 1 ≤ 1 by omega) (show 0 + N ≤ N by omega) dJ7_copyOf_59c91_15 (fun q_15 cA H hK1 hP hD hS => ?_)
    rw [bt_cI hK1] at hP hD
    clear hK1
    have hP : va_P D vwCl [(q, .inl (cI, n, .inl f)), (q_15, .inl (cI, N, .inl (fun _ => 0)))] H := hP
    have hD : va_D A [(q, .inl (cI, n, .inl f)), (q_15, .inl (cI, N, .inl (fun _ => 0)))] := hD
    refine lv_astore_n (lv' := [(2, .ref q_15), (0, .ref q), (1, .int (nI N))]) hx hb dJ7_copyOf_59c91_17 rfl hl (by decide) rfl (fun ls hl => ?_)
    refine lv_aload_n hx hb dJ7_copyOf_59c91_18 rfl (lv_at hl 1 rfl) ?_
    refine lv_iconst (v := nI 0) hx hb dJ7_copyOf_59c91_19 (by decide) ?_
    refine lv_aload_n hx hb dJ7_copyOf_59c91_20 rfl (lv_at hl 0 rfl) ?_
    refine lv_iconst (v := nI 0) hx hb dJ7_copyOf_59c91_21 (by decide) ?_
    refine lv_aload_n hx hb dJ7_copyOf_59c91_22 rfl (lv_at hl 1 rfl) ?_
    refine va_alen hx hb hK hP 0 1 rfl rfl (v := nI n) rfl dJ7_copyOf_59c91_23 ?_
    refine lv_iload_n hx hb dJ7_copyOf_59c91_24 rfl (lv_at hl 2 rfl) ?_
    refine va_mmin hx hb (by rw [hml]; exact hl.1.symm) hown (hts (.methodLink RJ7 304 Lib.Math.min.name) (by decide +kernel)) (hts (.static Lib.Math.min.name) (by decide +kernel)) (hts (.initialized "java/lang/Math") (by decide +kernel)) (hts (.code Lib.Math.min.name Lib.Math.min.code 2 (some .int)) (by decide +kernel)) (Nat.le_of_ble_eq_true rfl) (Nat.le_of_ble_eq_true rfl) (show (0 + 1) ≤ 1 by omega) (show (0 + N) ≤ N by omega) dJ7_copyOf_59c91_25 ?_
    refine bt_topi (y := nI (min n N)) (bt_min (by omega) (by omega)) ?_
    refine va_copyi hx hb (by rw [hml]; exact hl.1.symm) hown (hts (.methodLink RJ7 150 arraycopyName) (by decide +kernel)) (hts (.native arraycopyName) (by decide +kernel)) (hts (.static arraycopyName) (by decide +kernel)) (hts (.initialized "java/lang/System") (by decide +kernel)) hK hP hD hS 0 1 1 1 rfl rfl rfl rfl rfl (nI_pos (by omega)) (nI_pos (by omega)) (nI_pos (by omega)) (by rw [nI_clamp (by omega), nI_clamp (by omega)]; omega) (by rw [nI_clamp (by omega), nI_clamp (by omega)]; omega) (fun _ _ => rfl) (Nat.le_of_ble_eq_true rfl) (Nat.le_of_ble_eq_true rfl) dJ7_copyOf_59c91_28 (fun H locs hP hD hS => ?_)
    rw [nI_clamp (by omega), nI_clamp (by omega)] at hP hD
    have hP : va_P D vwCl [(q, .inl (cI, n, .inl f)), (q_15, .inl (cI, N, .inl (va_cpy f (fun _ => 0) 0 0 (min n N))))] H := hP
    have hD : va_D A [(q, .inl (cI, n, .inl f)), (q_15, .inl (cI, N, .inl (va_cpy f (fun _ => 0) 0 0 (min n N))))] := hD
    refine lv_aload_n hx hb dJ7_copyOf_59c91_31 rfl (lv_at hl 0 rfl) ?_
    refine W.widen (k := 1) (n := N) (show (0 + 1) ≤ 1 by omega) (show (0 + N) ≤ N by omega) ?_
    have hP9 := hP.sub (ws' := [(q, .inl (cI, n, .inl f)), (q_15, .inl (cI, N, .inl (va_cpy f (fun _ => 0) 0 0 (min n N))))]) [0, 1] rfl
    have hD9 := hD.sub (ws' := [(q, .inl (cI, n, .inl f)), (q_15, .inl (cI, N, .inl (va_cpy f (fun _ => 0) 0 0 (min n N))))]) [0, 1] (by decide) rfl
    exact W.aret hx hb hr (Or.inr ⟨_, rfl⟩) (Or.inr ⟨_, rfl⟩) (fun t ht hW => ⟨⟨(va_cpy f (fun _ => 0) 0 0 (min n N)), _, rfl, (fun j hj => pk_cpy_in (Nat.zero_le j) (by omega) |>.trans (by rw [Nat.zero_add, Nat.sub_zero])), by rw [ht]; exact hP9, hD9⟩, hS.F ht⟩) hS.2.2 dJ7_copyOf_59c91_32
  · have c_3 : N = n := (nI_eq (by omega) (by omega)).mp c_3
    exfalso; omega
set_option maxHeartbeats 4000000 in
set_option maxRecDepth 100000 in
/-- Row.add(x) -/
theorem kX1_add (l : Launch) (D : va_G) (cB cI : ClassId) (a q n : Nat) (f : Nat → Int32) (k : Nat) (x : Int32) (hc : cp n = n) (hk : k ≤ n) (hk2 : k < 16000) (sz : Nat) : Met l yX1_add wsX1_add ({ frames := 2, cells := (up n (k + 1) - n), slots := (3 * (up n (k + 1) - n)), locals := 62 }) (va_Pc [.ref a, .int x] (bt_M D cB cI sz [(a, .inr (1, [.ref q, .int (nI k)])), (q, .inl (cI, n, .inl f))])) (va_Qv (S := Nat × (Nat → Int32)) (fun u => (∀ j, j < k → u.2 j = f j) ∧ u.2 k = x) (fun u t9 => bt_L D (va_A [(a, .inr (1, [.ref q, .int (nI k)])), (q, .inl (cI, n, .inl f))] sz) ((fun u => [(a, .inr (1, [.ref u.1, .int (nI (k + 1))])), (u.1, .inl (cI, up n (k + 1), .inl u.2))]) u) t9) (va_A [(a, .inr (1, [.ref q, .int (nI k)])), (q, .inl (cI, n, .inl f))] sz)) (up n (k + 1) - n) (3 * (up n (k + 1) - n)) (va_A [(a, .inr (1, [.ref q, .int (nI k)])), (q, .inl (cI, n, .inl f))] sz) := by
  refine Met.ofW (cc := cX1_add) (maxL := 2) (ret := none) (by decide) rfl ?_
  intro p e s m args below meth c s₁ B hml hv
  obtain ⟨rfl, hsz, hP, hK, hN, hD0⟩ := hv
  have hx := B.exec
  have hb := B.bytes
  have hr := B.returns
  have hts := atoms_spec (ws := wsX1_add) B.pre
  have hown : s.vm.findClass RX1 = some m.cls := findClass_of_methodNamed B.named
  have hlocks := B.notSynchronized
  subst hsz
  have hD := hD0.self (sz := s.heap.size)
  generalize hAe : va_A [(a, .inr (1, [.ref q, .int (nI k)])), (q, .inl (cI, n, .inl f))] s.heap.size = A at hD ⊢
  have hA : ∀ q : Nat, s.heap.size ≤ q → A q := fun q h => by rw [← hAe]; exact Or.inr h
  have hS : va_S A s.heap s.heap [] := va_S.rf
  have hl := lv_entry ([.ref a, .int x]) (n := 2) (Nat.le_of_ble_eq_true rfl)
  rw [lg_entry_eq]
  generalize (lg_sl ([.ref a, .int x]) ++ List.replicate (2 - (lg_sl ([.ref a, .int x])).length) Slot.unset).toArray = ls at hl ⊢
  have hl : lv_has ls 2 [(0, .ref a), (1, .int x)] := hl
  obtain ⟨hn16, hn⟩ := cp_b hc
  have hup : up n (k + 1) ≤ 16000 := up_le hn
  have hful : k = n → up n (k + 1) = min (2 * n) 16000 ∧ cp (n + 1) = min (2 * n) 16000 := fun h => ⟨by rw [h]; exact up_full hc (by omega), cp_grow hc (by omega)⟩
  refine lv_aload_n hx hb dX1_add_0 rfl (lv_at hl 0 rfl) ?_
  refine va_get (D := D) (ci := 1) (v := .int (nI k)) (C := RX1) (T := TX1) (N := 2) hx hb hts (by decide +kernel) hown hK hP 0 rfl rfl 1 (by decide) (hts (.fieldLink RX1 15 "BodyText$Row" "count" "I") (by decide +kernel)) (fun _ h9 => h9) rfl dX1_add_1 ?_
  refine lv_aload_n hx hb dX1_add_4 rfl (lv_at hl 0 rfl) ?_
  refine va_get (D := D) (ci := 1) (v := .ref q) (C := RX1) (T := TX1) (N := 2) hx hb hts (by decide +kernel) hown hK hP 0 rfl rfl 0 (by decide) (hts (.fieldLink RX1 11 "BodyText$Row" "items" "[I") (by decide +kernel)) (fun _ h9 => h9) rfl dX1_add_5 ?_
  refine va_alen hx hb hK hP 1 1 rfl rfl (v := nI n) rfl dX1_add_8 ?_
  refine lv_icmp_lt (tgt := 47) hx hb dX1_add_9 (by decide) (fun c_9 => ?_) (fun c_9 => ?_)
  · have c_9 : k < n := (nI_ltI (by omega) (by omega)).mp c_9
    refine lv_aload_n hx hb dX1_add_47 rfl (lv_at hl 0 rfl) ?_
    refine va_get (D := D) (ci := 1) (v := .int (nI k)) (C := RX1) (T := TX1) (N := 2) hx hb hts (by decide +kernel) hown hK hP 0 rfl rfl 1 (by decide) (hts (.fieldLink RX1 15 "BodyText$Row" "count" "I") (by decide +kernel)) (fun _ h9 => h9) rfl dX1_add_48 ?_
    refine lv_if_lt (tgt := 86) hx hb dX1_add_51 (by decide) (fun c_51 => ?_) (fun c_51 => ?_)
    · have c_51 : k < 0 := (nI_ltI (by omega) (by omega)).mp c_51
      exfalso; omega
    · have c_51 : ¬ (k < 0) := fun h9 => c_51 ((nI_ltI (by omega) (by omega)).mpr h9)
      refine lv_aload_n hx hb dX1_add_54 rfl (lv_at hl 0 rfl) ?_
      refine va_get (D := D) (ci := 1) (v := .int (nI k)) (C := RX1) (T := TX1) (N := 2) hx hb hts (by decide +kernel) hown hK hP 0 rfl rfl 1 (by decide) (hts (.fieldLink RX1 15 "BodyText$Row" "count" "I") (by decide +kernel)) (fun _ h9 => h9) rfl dX1_add_55 ?_
      refine lv_aload_n hx hb dX1_add_58 rfl (lv_at hl 0 rfl) ?_
      refine va_get (D := D) (ci := 1) (v := .ref q) (C := RX1) (T := TX1) (N := 2) hx hb hts (by decide +kernel) hown hK hP 0 rfl rfl 0 (by decide) (hts (.fieldLink RX1 11 "BodyText$Row" "items" "[I") (by decide +kernel)) (fun _ h9 => h9) rfl dX1_add_59 ?_
      refine va_alen hx hb hK hP 1 1 rfl rfl (v := nI n) rfl dX1_add_62 ?_
      refine lv_icmp_ge (tgt := 86) hx hb dX1_add_63 (by decide) (fun c_63 => ?_) (fun c_63 => ?_)
      · have c_63 : n ≤ k := (nI_leI (by omega) (by omega)).mp c_63
        exfalso; omega
      · have c_63 : ¬ (n ≤ k) := fun h9 => c_63 ((nI_leI (by omega) (by omega)).mpr h9)
        refine lv_aload_n hx hb dX1_add_66 rfl (lv_at hl 0 rfl) ?_
        refine va_get (D := D) (ci := 1) (v := .ref q) (C := RX1) (T := TX1) (N := 2) hx hb hts (by decide +kernel) hown hK hP 0 rfl rfl 0 (by decide) (hts (.fieldLink RX1 11 "BodyText$Row" "items" "[I") (by decide +kernel)) (fun _ h9 => h9) rfl dX1_add_67 ?_
        refine lv_aload_n hx hb dX1_add_70 rfl (lv_at hl 0 rfl) ?_
        refine va_get (D := D) (ci := 1) (v := .int (nI k)) (C := RX1) (T := TX1) (N := 2) hx hb hts (by decide +kernel) hown hK hP 0 rfl rfl 1 (by decide) (hts (.fieldLink RX1 15 "BodyText$Row" "count" "I") (by decide +kernel)) (fun _ h9 => h9) rfl dX1_add_71 ?_
        refine lv_iload_n hx hb dX1_add_74 rfl (lv_at hl 1 rfl) ?_
        refine va_iast hx hb hK hP hD hS 1 1 rfl rfl (vp_in_nI (by omega) (by omega)) dX1_add_75 (fun H locs hP hD hS => ?_)
        rw [nI_clamp (by omega)] at hP hD
        have hP : va_P D vwCl [(a, .inr (1, [.ref q, .int (nI k)])), (q, .inl (cI, n, .inl (upd f k x)))] H := hP
        have hD : va_D A [(a, .inr (1, [.ref q, .int (nI k)])), (q, .inl (cI, n, .inl (upd f k x)))] := hD
        refine lv_aload_n hx hb dX1_add_76 rfl (lv_at hl 0 rfl) ?_
        refine lv_dup hx hb dX1_add_77 rfl ?_
        refine va_get (D := D) (ci := 1) (v := .int (nI k)) (C := RX1) (T := TX1) (N := 2) hx hb hts (by decide +kernel) hown hK hP 0 rfl rfl 1 (by decide) (hts (.fieldLink RX1 15 "BodyText$Row" "count" "I") (by decide +kernel)) (fun _ h9 => h9) rfl dX1_add_78 ?_
        refine lv_iconst (v := nI 1) hx hb dX1_add_81 (by decide) ?_
        refine lv_iadd hx hb dX1_add_82 ?_
        refine bt_topi (y := nI (k + 1)) (nI_add _ _) ?_
        refine va_put (D := D) (ci := 1) (v := .int (nI (k + 1))) (ty := .int) (C := RX1) (T := TX1) (N := 2) hx hb hts (by decide +kernel) tyX1 tyX1_ok nmX1 hown hK hP hD hS 0 rfl rfl 1 (by decide) (hts (.fieldLink RX1 15 "BodyText$Row" "count" "I") (by decide +kernel)) (fun _ h9 => h9) rfl (by decide +kernel) rfl rfl (Nat.le_of_ble_eq_true rfl) dX1_add_83 (fun H locs hP hD hS => ?_)
        have hP : va_P D vwCl [(a, .inr (1, [.ref q, .int (nI (k + 1))])), (q, .inl (cI, n, .inl (upd f k x)))] H := hP
        have hD : va_D A [(a, .inr (1, [.ref q, .int (nI (k + 1))])), (q, .inl (cI, n, .inl (upd f k x)))] := hD
        have e9 : n = up n (k + 1) := (up_keep hc (by omega)).symm
        have hP : va_P D vwCl [(a, .inr (1, [.ref q, .int (nI (k + 1))])), (q, .inl (cI, (up n (k + 1)), .inl (upd f k x)))] H := by rw [← e9]; exact hP
        have hD : va_D A [(a, .inr (1, [.ref q, .int (nI (k + 1))])), (q, .inl (cI, (up n (k + 1)), .inl (upd f k x)))] := by rw [← e9]; exact hD
        have hP9 := hP.sub (ws' := [(a, .inr (1, [.ref q, .int (nI (k + 1))])), (q, .inl (cI, (up n (k + 1)), .inl (upd f k x)))]) [0, 1] rfl
        have hD9 := hD.sub (ws' := [(a, .inr (1, [.ref q, .int (nI (k + 1))])), (q, .inl (cI, (up n (k + 1)), .inl (upd f k x)))]) [0, 1] (by decide) rfl
        refine W.widen (k := (up n (k + 1) - n)) (n := (3 * (up n (k + 1) - n))) (show 0 ≤ (up n (k + 1) - n) by omega) (show 0 ≤ (3 * (up n (k + 1) - n)) by omega) ?_
        exact W.vret hx hb hr (fun t9 ht hW => ⟨⟨(q, (upd f k x)), rfl, ⟨fun j hj => pk_un (by omega), pk_us⟩, by rw [ht]; exact hP9, hD9⟩, hS.F ht⟩) hS.2.2 dX1_add_86
  · have c_9 : ¬ (k < n) := fun h9 => c_9 ((nI_ltI (by omega) (by omega)).mpr h9)
    obtain ⟨hu1, hu2⟩ := hful (by omega)
    have hseq := cp_seq hc (by omega)
    refine lv_aload_n hx hb dX1_add_12 rfl (lv_at hl 0 rfl) ?_
    refine va_get (D := D) (ci := 1) (v := .ref q) (C := RX1) (T := TX1) (N := 2) hx hb hts (by decide +kernel) hown hK hP 0 rfl rfl 0 (by decide) (hts (.fieldLink RX1 11 "BodyText$Row" "items" "[I") (by decide +kernel)) (fun _ h9 => h9) rfl dX1_add_13 ?_
    refine va_alen hx hb hK hP 1 1 rfl rfl (v := nI n) rfl dX1_add_16 ?_
    refine lv_sipush (v := nI 16000) hx hb dX1_add_17 (by decide) ?_
    refine lv_icmp_ge (tgt := 47) hx hb dX1_add_20 (by decide) (fun c_20 => ?_) (fun c_20 => ?_)
    · have c_20 : 16000 ≤ n := (nI_leI (by omega) (by omega)).mp c_20
      exfalso; omega
    · have c_20 : ¬ (16000 ≤ n) := fun h9 => c_20 ((nI_leI (by omega) (by omega)).mpr h9)
      refine lv_aload_n hx hb dX1_add_23 rfl (lv_at hl 0 rfl) ?_
      refine lv_aload_n hx hb dX1_add_24 rfl (lv_at hl 0 rfl) ?_
      refine va_get (D := D) (ci := 1) (v := .ref q) (C := RX1) (T := TX1) (N := 2) hx hb hts (by decide +kernel) hown hK hP 0 rfl rfl 0 (by decide) (hts (.fieldLink RX1 11 "BodyText$Row" "items" "[I") (by decide +kernel)) (fun _ h9 => h9) rfl dX1_add_25 ?_
      refine lv_iconst (v := nI 2) hx hb dX1_add_28 (by decide) ?_
      refine lv_aload_n hx hb dX1_add_29 rfl (lv_at hl 0 rfl) ?_
      refine va_get (D := D) (ci := 1) (v := .ref q) (C := RX1) (T := TX1) (N := 2) hx hb hts (by decide +kernel) hown hK hP 0 rfl rfl 0 (by decide) (hts (.fieldLink RX1 11 "BodyText$Row" "items" "[I") (by decide +kernel)) (fun _ h9 => h9) rfl dX1_add_30 ?_
      refine va_alen hx hb hK hP 1 1 rfl rfl (v := nI n) rfl dX1_add_33 ?_
      refine lv_imul hx hb dX1_add_34 ?_
      refine bt_topi (y := nI (2 * n)) (pk_mul _ _) ?_
      refine lv_sipush (v := nI 16000) hx hb dX1_add_35 (by decide) ?_
      refine va_mmin hx hb (by rw [hml]; exact hl.1.symm) hown (hts (.methodLink RX1 19 Lib.Math.min.name) (by decide +kernel)) (hts (.static Lib.Math.min.name) (by decide +kernel)) (hts (.initialized "java/lang/Math") (by decide +kernel)) (hts (.code Lib.Math.min.name Lib.Math.min.code 2 (some .int)) (by decide +kernel)) (Nat.le_of_ble_eq_true rfl) (Nat.le_of_ble_eq_true rfl) (show 0 ≤ (up n (k + 1) - n) by omega) (show 0 ≤ (3 * (up n (k + 1) - n)) by omega) dX1_add_38 ?_
      refine bt_topi (y := nI (min (2 * n) 16000)) (bt_min (by omega) (by omega)) ?_
      refine bt_topi (y := nI (cp (n + 1))) (by rw [cp_grow hc (by omega)]) ?_
      have hPc := hP.sub (ws' := [(q, .inl (cI, n, .inl f))]) [1] rfl
      have hDc := hD.sub (ws' := [(q, .inl (cI, n, .inl f))]) [1] (by decide) rfl
      have hFc := va_free (wc := [(q, .inl (cI, n, .inl f))]) hD hS hA [1] rfl
      refine va_callr (va_runS (As := [.ref q, .int (nI (cp (n + 1)))]) (rest := [.ref a]) ⟨hx, hb, hml, hown, hts⟩ (kJ7_copyOf l D cB cI q n f (cp (n + 1)) (by rw [cp_grow hc (by omega)]; omega) (cp_le _) s.heap.size) (va_cwS 2 hts gX1_add_J7_copyOf_59c91 rfl rfl rfl (by decide +kernel) ⟨Nat.le_of_ble_eq_true rfl, Nat.le_of_ble_eq_true rfl⟩) ⟨fun a U g mk q => ⟨q.1, q.2.calling⟩, fun U hU hW => ⟨rfl, bt_M.of hU hW hPc hK hN hDc⟩⟩ rfl rfl hl.1 rfl (lv_room (Nat.le_of_ble_eq_true rfl)) dX1_add_41 ⟨(show 0 + 1 ≤ (up n (k + 1) - n) by omega), (show 0 + (cp (n + 1)) ≤ (3 * (up n (k + 1) - n)) by omega)⟩) hS (fun q _ h => hFc q h) hFc (fun g_41 ra_41 t9 H1 locs ht hvm hw hB hz1 hk1 hS => ?_)
      obtain ⟨hP1, hD1⟩ := hB
      rw [ht] at hP1
      try dsimp only at hw hP1 hD1
      obtain ⟨hP, hD⟩ := va_join (wr := [(a, .inr (1, [.ref q, .int (nI k)]))]) (w1 := [(q, .inl (cI, n, .inl f)), (ra_41, .inl (cI, (cp (n + 1)), .inl g_41))]) hP hD [1] [0] rfl rfl (by decide) (by decide) hk1 hFc hP1 hD1
      clear hP1 hD1 hPc hDc hFc hk1 hz1 hvm
      generalize H1 = H at hP hS ht ⊢
      have hP : va_P D vwCl [(a, .inr (1, [.ref q, .int (nI k)])), (q, .inl (cI, n, .inl f)), (ra_41, .inl (cI, (cp (n + 1)), .inl g_41))] H := hP
      have hD : va_D A [(a, .inr (1, [.ref q, .int (nI k)])), (q, .inl (cI, n, .inl f)), (ra_41, .inl (cI, (cp (n + 1)), .inl g_41))] := hD
      refine va_put (D := D) (ci := 1) (v := .ref ra_41) (ty := .array .int) (C := RX1) (T := TX1) (N := 2) hx hb hts (by decide +kernel) tyX1 tyX1_ok nmX1 hown hK hP hD hS 0 rfl rfl 0 (by decide) (hts (.fieldLink RX1 11 "BodyText$Row" "items" "[I") (by decide +kernel)) (fun _ h9 => h9) rfl (by decide +kernel) rfl rfl (Nat.le_of_ble_eq_true rfl) dX1_add_44 (fun H locs hP hD hS => ?_)
      have hP : va_P D vwCl [(a, .inr (1, [.ref ra_41, .int (nI k)])), (q, .inl (cI, n, .inl f)), (ra_41, .inl (cI, (cp (n + 1)), .inl g_41))] H := hP
      have hD : va_D A [(a, .inr (1, [.ref ra_41, .int (nI k)])), (q, .inl (cI, n, .inl f)), (ra_41, .inl (cI, (cp (n + 1)), .inl g_41))] := hD
      refine lv_aload_n hx hb dX1_add_47 rfl (lv_at hl 0 rfl) ?_
      refine va_get (D := D) (ci := 1) (v := .int (nI k)) (C := RX1) (T := TX1) (N := 2) hx hb hts (by decide +kernel) hown hK hP 0 rfl rfl 1 (by decide) (hts (.fieldLink RX1 15 "BodyText$Row" "count" "I") (by decide +kernel)) (fun _ h9 => h9) rfl dX1_add_48 ?_
      refine lv_if_lt (tgt := 86) hx hb dX1_add_51 (by decide) (fun c_51 => ?_) (fun c_51 => ?_)
      · have c_51 : k < 0 := (nI_ltI (by omega) (by omega)).mp c_51
        exfalso; omega
      · have c_51 : ¬ (k < 0) := fun h9 => c_51 ((nI_ltI (by omega) (by omega)).mpr h9)
        refine lv_aload_n hx hb dX1_add_54 rfl (lv_at hl 0 rfl) ?_
        refine va_get (D := D) (ci := 1) (v := .int (nI k)) (C := RX1) (T := TX1) (N := 2) hx hb hts (by decide +kernel) hown hK hP 0 rfl rfl 1 (by decide) (hts (.fieldLink RX1 15 "BodyText$Row" "count" "I") (by decide +kernel)) (fun _ h9 => h9) rfl dX1_add_55 ?_
        refine lv_aload_n hx hb dX1_add_58 rfl (lv_at hl 0 rfl) ?_
        refine va_get (D := D) (ci := 1) (v := .ref ra_41) (C := RX1) (T := TX1) (N := 2) hx hb hts (by decide +kernel) hown hK hP 0 rfl rfl 0 (by decide) (hts (.fieldLink RX1 11 "BodyText$Row" "items" "[I") (by decide +kernel)) (fun _ h9 => h9) rfl dX1_add_59 ?_
        refine va_alen hx hb hK hP 2 1 rfl rfl (v := nI (cp (n + 1))) rfl dX1_add_62 ?_
        refine lv_icmp_ge (tgt := 86) hx hb dX1_add_63 (by decide) (fun c_63 => ?_) (fun c_63 => ?_)
        · have c_63 : (cp (n + 1)) ≤ k := (nI_leI (by omega) (by omega)).mp c_63
          exfalso; omega
        · have c_63 : ¬ ((cp (n + 1)) ≤ k) := fun h9 => c_63 ((nI_leI (by omega) (by omega)).mpr h9)
          refine lv_aload_n hx hb dX1_add_66 rfl (lv_at hl 0 rfl) ?_
          refine va_get (D := D) (ci := 1) (v := .ref ra_41) (C := RX1) (T := TX1) (N := 2) hx hb hts (by decide +kernel) hown hK hP 0 rfl rfl 0 (by decide) (hts (.fieldLink RX1 11 "BodyText$Row" "items" "[I") (by decide +kernel)) (fun _ h9 => h9) rfl dX1_add_67 ?_
          refine lv_aload_n hx hb dX1_add_70 rfl (lv_at hl 0 rfl) ?_
          refine va_get (D := D) (ci := 1) (v := .int (nI k)) (C := RX1) (T := TX1) (N := 2) hx hb hts (by decide +kernel) hown hK hP 0 rfl rfl 1 (by decide) (hts (.fieldLink RX1 15 "BodyText$Row" "count" "I") (by decide +kernel)) (fun _ h9 => h9) rfl dX1_add_71 ?_
          refine lv_iload_n hx hb dX1_add_74 rfl (lv_at hl 1 rfl) ?_
          refine va_iast hx hb hK hP hD hS 2 1 rfl rfl (vp_in_nI (by omega) (by omega)) dX1_add_75 (fun H locs hP hD hS => ?_)
          rw [nI_clamp (by omega)] at hP hD
          have hP : va_P D vwCl [(a, .inr (1, [.ref ra_41, .int (nI k)])), (q, .inl (cI, n, .inl f)), (ra_41, .inl (cI, (cp (n + 1)), .inl (upd g_41 k x)))] H := hP
          have hD : va_D A [(a, .inr (1, [.ref ra_41, .int (nI k)])), (q, .inl (cI, n, .inl f)), (ra_41, .inl (cI, (cp (n + 1)), .inl (upd g_41 k x)))] := hD
          refine lv_aload_n hx hb dX1_add_76 rfl (lv_at hl 0 rfl) ?_
          refine lv_dup hx hb dX1_add_77 rfl ?_
          refine va_get (D := D) (ci := 1) (v := .int (nI k)) (C := RX1) (T := TX1) (N := 2) hx hb hts (by decide +kernel) hown hK hP 0 rfl rfl 1 (by decide) (hts (.fieldLink RX1 15 "BodyText$Row" "count" "I") (by decide +kernel)) (fun _ h9 => h9) rfl dX1_add_78 ?_
          refine lv_iconst (v := nI 1) hx hb dX1_add_81 (by decide) ?_
          refine lv_iadd hx hb dX1_add_82 ?_
          refine bt_topi (y := nI (k + 1)) (nI_add _ _) ?_
          refine va_put (D := D) (ci := 1) (v := .int (nI (k + 1))) (ty := .int) (C := RX1) (T := TX1) (N := 2) hx hb hts (by decide +kernel) tyX1 tyX1_ok nmX1 hown hK hP hD hS 0 rfl rfl 1 (by decide) (hts (.fieldLink RX1 15 "BodyText$Row" "count" "I") (by decide +kernel)) (fun _ h9 => h9) rfl (by decide +kernel) rfl rfl (Nat.le_of_ble_eq_true rfl) dX1_add_83 (fun H locs hP hD hS => ?_)
          have hP : va_P D vwCl [(a, .inr (1, [.ref ra_41, .int (nI (k + 1))])), (q, .inl (cI, n, .inl f)), (ra_41, .inl (cI, (cp (n + 1)), .inl (upd g_41 k x)))] H := hP
          have hD : va_D A [(a, .inr (1, [.ref ra_41, .int (nI (k + 1))])), (q, .inl (cI, n, .inl f)), (ra_41, .inl (cI, (cp (n + 1)), .inl (upd g_41 k x)))] := hD
          have e9 : cp (n + 1) = up n (k + 1) := by rw [show k = n by omega, up_full hc (by omega), cp_grow hc (by omega)]
          have hP : va_P D vwCl [(a, .inr (1, [.ref ra_41, .int (nI (k + 1))])), (q, .inl (cI, n, .inl f)), (ra_41, .inl (cI, (up n (k + 1)), .inl (upd g_41 k x)))] H := by rw [← e9]; exact hP
          have hD : va_D A [(a, .inr (1, [.ref ra_41, .int (nI (k + 1))])), (q, .inl (cI, n, .inl f)), (ra_41, .inl (cI, (up n (k + 1)), .inl (upd g_41 k x)))] := by rw [← e9]; exact hD
          have hP9 := hP.sub (ws' := [(a, .inr (1, [.ref ra_41, .int (nI (k + 1))])), (ra_41, .inl (cI, (up n (k + 1)), .inl (upd g_41 k x)))]) [0, 2] rfl
          have hD9 := hD.sub (ws' := [(a, .inr (1, [.ref ra_41, .int (nI (k + 1))])), (ra_41, .inl (cI, (up n (k + 1)), .inl (upd g_41 k x)))]) [0, 2] (by decide) rfl
          refine W.widen (k := (up n (k + 1) - n)) (n := (3 * (up n (k + 1) - n))) (show (0 + 1) ≤ (up n (k + 1) - n) by omega) (show (0 + (cp (n + 1))) ≤ (3 * (up n (k + 1) - n)) by omega) ?_
          exact W.vret hx hb hr (fun t9 ht hW => ⟨⟨(ra_41, (upd g_41 k x)), rfl, ⟨fun j hj => (pk_un (by omega)).trans (hw j (by omega)), pk_us⟩, by rw [ht]; exact hP9, hD9⟩, hS.F ht⟩) hS.2.2 dX1_add_86
