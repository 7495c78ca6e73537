def mk4 {α : Type} (a b c d : α) : Nat → α := fun i => match i with
  | 0 => a
  | 1 => b
  | 2 => c
  | _ => d
def mk6 {α : Type} (a b c d e f : α) : Nat → α := fun i => match i with
  | 0 => a
  | 1 => b
  | 2 => c
  | 3 => d
  | 4 => e
  | _ => f
set_option maxHeartbeats 4000000 in
set_option maxRecDepth 100000 in
/-- Text() -/
theorem kX2_init (l : Launch) (D : va_G) (cB cI : ClassId) (tx : Nat) (sz : Nat) : Met l yX2_init wsX2_init ({ frames := 2, cells := 2, slots := 18, locals := 32 }) (va_Pc [.ref tx] (bt_M D cB cI sz [(tx, .inr (2, [.null, .int (nI 0)]))])) (va_Qv (S := Nat × Nat) (fun _ => True) (fun u t9 => bt_L D (va_A [(tx, .inr (2, [.null, .int (nI 0)]))] sz) ((fun u => [(tx, .inr (2, [.ref u.1, .int (nI 0)])), (u.1, .inr (1, [.ref u.2, .int (nI 0)])), (u.2, .inl (cI, 16, .inl (fun _ => 0)))]) u) t9) (va_A [(tx, .inr (2, [.null, .int (nI 0)]))] sz)) 2 18 (va_A [(tx, .inr (2, [.null, .int (nI 0)]))] sz) := by
  refine Met.ofW (cc := cX2_init) (maxL := 1) (ret := none) (by decide) rfl ?_
  intro p e s m args below meth c s₁ B hml hv
  obtain ⟨rfl, hsz, hP, hK, hN, hD0⟩ := hv
  have hx := B.exec
  have hb := B.bytes
  have hr := B.returns
  have hts := atoms_spec (ws := wsX2_init) B.pre
  have hown : s.vm.findClass RX2 = some m.cls := findClass_of_methodNamed B.named
  have hlocks := B.notSynchronized
  have hin : meth.name = "<init>" := (name_of_methodNamed B.named B.method).1
  subst hsz
  have hD := hD0.self (sz := s.heap.size)
  generalize hAe : va_A [(tx, .inr (2, [.null, .int (nI 0)]))] s.heap.size = A at hD ⊢
  have hA : ∀ q : Nat, s.heap.size ≤ q → A q := fun q h => by rw [← hAe]; exact Or.inr h
  have hS : va_S A s.heap s.heap [] := va_S.rf
  have hl := lv_entry ([.ref tx]) (n := 1) (Nat.le_of_ble_eq_true rfl)
  rw [lg_entry_eq]
  generalize (lg_sl ([.ref tx]) ++ List.replicate (1 - (lg_sl ([.ref tx])).length) Slot.unset).toArray = ls at hl ⊢
  have hl : lv_has ls 1 [(0, .ref tx)] := hl
  refine lv_aload_n hx hb dX2_init_0 rfl (lv_at hl 0 rfl) ?_
  refine W.objInit hx hb hown (hts (.methodLink RX2 3 objectInit) (by decide +kernel)) (hts (.instanceMethod objectInit) (by decide +kernel)) (hts (.code objectInit ⟨#[0xb1]⟩ 1 none) (by decide +kernel)) rfl (by rw [hml]; exact hl.1) rfl dX2_init_1 (Nat.le_of_ble_eq_true rfl) (Nat.le_of_ble_eq_true rfl) ?_
  refine W.eq (g2 := F0 m 4 ls []) rfl ?_
  refine lv_aload_n hx hb dX2_init_4 rfl (lv_at hl 0 rfl) ?_
  refine va_new (ci := 1) (fs := [.null, .int (nI 0)]) (C := RX1) (T := TX1) (N := 2) hx hb hts (by decide +kernel) tyX1 tyX1_ok hown (hts (.classLink RX2 9 RX1) (by decide +kernel)) (hts (.instantiable RX1 2) (by decide +kernel)) (hts (.initialized RX1) (by decide +kernel)) hK hP hD hS hA rfl (fun j hj => by rcases (show j = 0 ∨ j = 1 by omega) with rfl | rfl <;> rfl) (show 0 + 1 ≤ 2 by omega) (show 0 + 2 ≤ 18 by omega) dX2_init_5 (fun q_5 H hP hD hS => ?_)
  have hP : va_P D vwCl [(tx, .inr (2, [.null, .int (nI 0)])), (q_5, .inr (1, [.null, .int (nI 0)]))] H := hP
  have hD : va_D A [(tx, .inr (2, [.null, .int (nI 0)])), (q_5, .inr (1, [.null, .int (nI 0)]))] := hD
  refine lv_dup hx hb dX2_init_8 rfl ?_
  have hPc := hP.sub (ws' := [(q_5, .inr (1, [.null, .int (nI 0)]))]) [1] rfl
  have hDc := hD.sub (ws' := [(q_5, .inr (1, [.null, .int (nI 0)]))]) [1] (by decide) rfl
  have hFc := va_free (wc := [(q_5, .inr (1, [.null, .int (nI 0)]))]) hD hS hA [1] rfl
  refine va_callv (va_runIN (As := []) (rest := [.ref q_5, .ref tx]) ⟨hx, hb, hml, hown, hts⟩ (kX1_init l D cB cI q_5 H.size) ⟨va_cnB (host := "BodyText") 0 hts gX2_init_X1_init_n11 rfl rfl rfl (bt_nw hN (.methodLinkNest "BodyText$Text" 11 ⟨"BodyText$Row", "<init>", "()V"⟩ "BodyText") (by decide +kernel)) (hts (.initialized RX1) (by decide +kernel)) (by decide +kernel) ⟨Nat.le_of_ble_eq_true rfl, Nat.le_of_ble_eq_true rfl⟩, rfl, hts (.instanceMethod yX1_init) (by decide +kernel)⟩ ⟨fun a U g mk q => ⟨q.1, q.2.calling⟩, fun U hU hW => ⟨rfl, bt_M.of hU hW hPc hK hN hDc⟩⟩ rfl rfl hl.1 rfl (lv_room (Nat.le_of_ble_eq_true rfl)) dX2_init_9 ⟨(show (0 + 1) + 1 ≤ 2 by omega), (show (0 + 2) + 16 ≤ 18 by omega)⟩) hS (fun q _ h => hFc q h) hFc (fun qa_9 t9 H1 locs ht hvm hw hB hz1 hk1 hS => ?_)
  obtain ⟨hP1, hD1⟩ := hB
  rw [ht] at hP1
  try dsimp only at hw hP1 hD1
  obtain ⟨hP, hD⟩ := va_join (wr := [(tx, .inr (2, [.null, .int (nI 0)]))]) (w1 := [(q_5, .inr (1, [.ref qa_9, .int (nI 0)])), (qa_9, .inl (cI, 16, .inl (fun _ => 0)))]) hP hD [1] [0] rfl rfl (by decide) (by decide) hk1 hFc hP1 hD1
  clear hP1 hD1 hPc hDc hFc hk1 hz1 hvm
  generalize H1 = H at hP hS ht ⊢
  have hP : va_P D vwCl [(tx, .inr (2, [.null, .int (nI 0)])), (q_5, .inr (1, [.ref qa_9, .int (nI 0)])), (qa_9, .inl (cI, 16, .inl (fun _ => 0)))] H := hP
  have hD : va_D A [(tx, .inr (2, [.null, .int (nI 0)])), (q_5, .inr (1, [.ref qa_9, .int (nI 0)])), (qa_9, .inl (cI, 16, .inl (fun _ => 0)))] := hD
  refine va_put (D := D) (ci := 2) (v := .ref q_5) (ty := .object "BodyText$Row") (C := RX2) (T := TX2) (N := 2) hx hb hts (by decide +kernel) tyX2 tyX2_ok nmX2 hown hK hP hD hS 0 rfl rfl 0 (by decide) (hts (.fieldLink RX2 12 "BodyText$Text" "fours" "LBodyText$Row;") (by decide +kernel)) (fun _ h9 => h9) rfl (by decide +kernel) rfl rfl (Nat.le_of_ble_eq_true rfl) dX2_init_12 (fun H locs hP hD hS => ?_)
  have hP : va_P D vwCl [(tx, .inr (2, [.ref q_5, .int (nI 0)])), (q_5, .inr (1, [.ref qa_9, .int (nI 0)])), (qa_9, .inl (cI, 16, .inl (fun _ => 0)))] H := hP
  have hD : va_D A [(tx, .inr (2, [.ref q_5, .int (nI 0)])), (q_5, .inr (1, [.ref qa_9, .int (nI 0)])), (qa_9, .inl (cI, 16, .inl (fun _ => 0)))] := hD
  refine lv_aload_n hx hb dX2_init_15 rfl (lv_at hl 0 rfl) ?_
  refine lv_iconst (v := nI 0) hx hb dX2_init_16 (by decide) ?_
  refine va_put (D := D) (ci := 2) (v := .int (nI 0)) (ty := .int) (C := RX2) (T := TX2) (N := 2) hx hb hts (by decide +kernel) tyX2 tyX2_ok nmX2 hown hK hP hD hS 0 rfl rfl 1 (by decide) (hts (.fieldLink RX2 18 "BodyText$Text" "length" "I") (by decide +kernel)) (fun _ h9 => h9) rfl (by decide +kernel) rfl rfl (Nat.le_of_ble_eq_true rfl) dX2_init_17 (fun H locs hP hD hS => ?_)
  have hP : va_P D vwCl [(tx, .inr (2, [.ref q_5, .int (nI 0)])), (q_5, .inr (1, [.ref qa_9, .int (nI 0)])), (qa_9, .inl (cI, 16, .inl (fun _ => 0)))] H := hP
  have hD : va_D A [(tx, .inr (2, [.ref q_5, .int (nI 0)])), (q_5, .inr (1, [.ref qa_9, .int (nI 0)])), (qa_9, .inl (cI, 16, .inl (fun _ => 0)))] := hD
  have hP9 := hP.sub (ws' := [(tx, .inr (2, [.ref q_5, .int (nI 0)])), (q_5, .inr (1, [.ref qa_9, .int (nI 0)])), (qa_9, .inl (cI, 16, .inl (fun _ => 0)))]) [0, 1, 2] rfl
  have hD9 := hD.sub (ws' := [(tx, .inr (2, [.ref q_5, .int (nI 0)])), (q_5, .inr (1, [.ref qa_9, .int (nI 0)])), (qa_9, .inl (cI, 16, .inl (fun _ => 0)))]) [0, 1, 2] (by decide) rfl
  refine W.widen (k := 2) (n := 18) (show ((0 + 1) + 1) ≤ 2 by omega) (show ((0 + 2) + 16) ≤ 18 by omega) ?_
  exact W.vret hx hb hr (fun t9 ht hW => ⟨⟨(q_5, qa_9), rfl, trivial, by rw [ht]; exact hP9, hD9⟩, hS.F ht⟩) hS.2.2 dX2_init_20
set_option maxHeartbeats 4000000 in
set_option maxRecDepth 100000 in
/-- Text.clear() -/
theorem kX2_clear (l : Launch) (D : va_G) (cB cI : ClassId) (tx r0 q0 len k0 : Nat) (sz : Nat) : Met l yX2_clear wsX2_clear ({ frames := 1, cells := 0, slots := 0, locals := 20 }) (va_Pc [.ref tx] (bt_M D cB cI sz [(tx, .inr (2, [.ref r0, .int (nI len)])), (r0, .inr (1, [.ref q0, .int (nI k0)]))])) (va_Qv (S := Unit) (fun _ => True) (fun u t9 => bt_L D (va_A [(tx, .inr (2, [.ref r0, .int (nI len)])), (r0, .inr (1, [.ref q0, .int (nI k0)]))] sz) ((fun _ => [(tx, .inr (2, [.ref r0, .int (nI 0)])), (r0, .inr (1, [.ref q0, .int (nI 0)]))]) u) t9) (va_A [(tx, .inr (2, [.ref r0, .int (nI len)])), (r0, .inr (1, [.ref q0, .int (nI k0)]))] sz)) 0 0 (va_A [(tx, .inr (2, [.ref r0, .int (nI len)])), (r0, .inr (1, [.ref q0, .int (nI k0)]))] sz) := by
  refine Met.ofW (cc := cX2_clear) (maxL := 1) (ret := none) (by decide) rfl ?_
  intro p e s m args below meth c s₁ B hml hv
  obtain ⟨rfl, hsz, hP, hK, hN, hD0⟩ := hv
  have hx := B.exec
  have hb := B.bytes
  have hr := B.returns
  have hts := atoms_spec (ws := wsX2_clear) B.pre
  have hown : s.vm.findClass RX2 = some m.cls := findClass_of_methodNamed B.named
  have hlocks := B.notSynchronized
  subst hsz
  have hD := hD0.self (sz := s.heap.size)
  generalize hAe : va_A [(tx, .inr (2, [.ref r0, .int (nI len)])), (r0, .inr (1, [.ref q0, .int (nI k0)]))] s.heap.size = A at hD ⊢
  have hA : ∀ q : Nat, s.heap.size ≤ q → A q := fun q h => by rw [← hAe]; exact Or.inr h
  have hS : va_S A s.heap s.heap [] := va_S.rf
  have hl := lv_entry ([.ref tx]) (n := 1) (Nat.le_of_ble_eq_true rfl)
  rw [lg_entry_eq]
  generalize (lg_sl ([.ref tx]) ++ List.replicate (1 - (lg_sl ([.ref tx])).length) Slot.unset).toArray = ls at hl ⊢
  have hl : lv_has ls 1 [(0, .ref tx)] := hl
  refine lv_aload_n hx hb dX2_clear_0 rfl (lv_at hl 0 rfl) ?_
  refine va_get (D := D) (ci := 2) (v := .ref r0) (C := RX2) (T := TX2) (N := 2) hx hb hts (by decide +kernel) hown hK hP 0 rfl rfl 0 (by decide) (hts (.fieldLink RX2 12 "BodyText$Text" "fours" "LBodyText$Row;") (by decide +kernel)) (fun _ h9 => h9) rfl dX2_clear_1 ?_
  have hPc := hP.sub (ws' := [(r0, .inr (1, [.ref q0, .int (nI k0)]))]) [1] rfl
  have hDc := hD.sub (ws' := [(r0, .inr (1, [.ref q0, .int (nI k0)]))]) [1] (by decide) rfl
  have hFc := va_free (wc := [(r0, .inr (1, [.ref q0, .int (nI k0)]))]) hD hS hA [1] rfl
  refine va_callv (va_runV (As := []) (rest := []) ⟨hx, hb, hml, hown, hts⟩ (kX1_clear l D cB cI r0 q0 k0 s.heap.size) (cwV 0 hts gX2_clear_X1_clear rfl rfl rfl (by decide +kernel) ⟨Nat.le_of_ble_eq_true rfl, Nat.le_of_ble_eq_true rfl⟩) ⟨fun a U g mk q => ⟨q.1, q.2.calling⟩, va_recv hK hPc (ci := 1) (q0 := 0) rfl rfl, fun U hU hW => ⟨rfl, bt_M.of hU hW hPc hK hN hDc⟩⟩ rfl rfl hl.1 rfl (lv_room (Nat.le_of_ble_eq_true rfl)) dX2_clear_4 ⟨(show 0 + 0 ≤ 0 by omega), (show 0 + 0 ≤ 0 by omega)⟩) hS (fun q _ h => hFc q h) hFc (fun u t9 H1 locs ht hvm hw hB hz1 hk1 hS => ?_)
  obtain ⟨hP1, hD1⟩ := hB
  rw [ht] at hP1
  try dsimp only at hw hP1 hD1
  obtain ⟨hP, hD⟩ := va_join (wr := [(tx, .inr (2, [.ref r0, .int (nI len)]))]) (w1 := [(r0, .inr (1, [.ref q0, .int (nI 0)]))]) hP hD [1] [0] rfl rfl (by decide) (by decide) hk1 hFc hP1 hD1
  clear hP1 hD1 hPc hDc hFc hk1 hz1 hvm
  generalize H1 = H at hP hS ht ⊢
  have hP : va_P D vwCl [(tx, .inr (2, [.ref r0, .int (nI len)])), (r0, .inr (1, [.ref q0, .int (nI 0)]))] H := hP
  have hD : va_D A [(tx, .inr (2, [.ref r0, .int (nI len)])), (r0, .inr (1, [.ref q0, .int (nI 0)]))] := hD
  refine W.widen (k := 0) (n := 0) (Nat.le_refl _) (Nat.le_refl _) ?_
  refine lv_aload_n hx hb dX2_clear_7 rfl (lv_at hl 0 rfl) ?_
  refine lv_iconst (v := nI 0) hx hb dX2_clear_8 (by decide) ?_
  refine va_put (D := D) (ci := 2) (v := .int (nI 0)) (ty := .int) (C := RX2) (T := TX2) (N := 2) hx hb hts (by decide +kernel) tyX2 tyX2_ok nmX2 hown hK hP hD hS 0 rfl rfl 1 (by decide) (hts (.fieldLink RX2 18 "BodyText$Text" "length" "I") (by decide +kernel)) (fun _ h9 => h9) rfl (by decide +kernel) rfl rfl (Nat.le_of_ble_eq_true rfl) dX2_clear_9 (fun H locs hP hD hS => ?_)
  have hP : va_P D vwCl [(tx, .inr (2, [.ref r0, .int (nI 0)])), (r0, .inr (1, [.ref q0, .int (nI 0)]))] H := hP
  have hD : va_D A [(tx, .inr (2, [.ref r0, .int (nI 0)])), (r0, .inr (1, [.ref q0, .int (nI 0)]))] := hD
  have hP9 := hP.sub (ws' := [(tx, .inr (2, [.ref r0, .int (nI 0)])), (r0, .inr (1, [.ref q0, .int (nI 0)]))]) [0, 1] rfl
  have hD9 := hD.sub (ws' := [(tx, .inr (2, [.ref r0, .int (nI 0)])), (r0, .inr (1, [.ref q0, .int (nI 0)]))]) [0, 1] (by decide) rfl
  refine W.widen (k := 0) (n := 0) (show 0 ≤ 0 by omega) (show 0 ≤ 0 by omega) ?_
  exact W.vret hx hb hr (fun t9 ht hW => ⟨⟨(), rfl, trivial, by rw [ht]; exact hP9, hD9⟩, hS.F ht⟩) hS.2.2 dX2_clear_12
set_option maxHeartbeats 4000000 in
set_option maxRecDepth 100000 in
/-- Text.addFour(x) -/
theorem kX2_addFour (l : Launch) (D : va_G) (cB cI : ClassId) (tx r0 q0 len k0 n0 : Nat) (f0 : Nat → Int32) (x : Int32) (hc : cp n0 = n0) (hk : k0 ≤ n0) (hk2 : k0 < 16000) (hl0 : len < 2 ^ 30) (sz : Nat) : Met l yX2_addFour wsX2_addFour ({ frames := 3, cells := (up n0 (k0 + 1) - n0), slots := (3 * (up n0 (k0 + 1) - n0)), locals := 83 }) (va_Pc [.ref tx, .int x] (bt_M D cB cI sz [(tx, .inr (2, [.ref r0, .int (nI len)])), (r0, .inr (1, [.ref q0, .int (nI k0)])), (q0, .inl (cI, n0, .inl f0))])) (va_Qv (S := Nat × (Nat → Int32)) (fun u => (∀ j, j < k0 → u.2 j = f0 j) ∧ u.2 k0 = x) (fun u t9 => bt_L D (va_A [(tx, .inr (2, [.ref r0, .int (nI len)])), (r0, .inr (1, [.ref q0, .int (nI k0)])), (q0, .inl (cI, n0, .inl f0))] sz) ((fun u => [(tx, .inr (2, [.ref r0, .int (nI (len + 4))])), (r0, .inr (1, [.ref u.1, .int (nI (k0 + 1))])), (u.1, .inl (cI, up n0 (k0 + 1), .inl u.2))]) u) t9) (va_A [(tx, .inr (2, [.ref r0, .int (nI len)])), (r0, .inr (1, [.ref q0, .int (nI k0)])), (q0, .inl (cI, n0, .inl f0))] sz)) (up n0 (k0 + 1) - n0) (3 * (up n0 (k0 + 1) - n0)) (va_A [(tx, .inr (2, [.ref r0, .int (nI len)])), (r0, .inr (1, [.ref q0, .int (nI k0)])), (q0, .inl (cI, n0, .inl f0))] sz) := by
  refine Met.ofW (cc := cX2_addFour) (maxL := 2) (ret := none) (by decide) rfl ?_
  intro p e s m args below meth c s₁ B hml hv
  obtain ⟨rfl, hsz, hP, hK, hN, hD0⟩ := hv
  have hx := B.exec
  have hb := B.bytes
  have hr := B.returns
  have hts := atoms_spec (ws := wsX2_addFour) B.pre
  have hown : s.vm.findClass RX2 = some m.cls := findClass_of_methodNamed B.named
  have hlocks := B.notSynchronized
  subst hsz
  have hD := hD0.self (sz := s.heap.size)
  generalize hAe : va_A [(tx, .inr (2, [.ref r0, .int (nI len)])), (r0, .inr (1, [.ref q0, .int (nI k0)])), (q0, .inl (cI, n0, .inl f0))] s.heap.size = A at hD ⊢
  have hA : ∀ q : Nat, s.heap.size ≤ q → A q := fun q h => by rw [← hAe]; exact Or.inr h
  have hS : va_S A s.heap s.heap [] := va_S.rf
  have hl := lv_entry ([.ref tx, .int x]) (n := 2) (Nat.le_of_ble_eq_true rfl)
  rw [lg_entry_eq]
  generalize (lg_sl ([.ref tx, .int x]) ++ List.replicate (2 - (lg_sl ([.ref tx, .int x])).length) Slot.unset).toArray = ls at hl ⊢
  have hl : lv_has ls 2 [(0, .ref tx), (1, .int x)] := hl
  refine lv_aload_n hx hb dX2_addFour_0 rfl (lv_at hl 0 rfl) ?_
  refine va_get (D := D) (ci := 2) (v := .ref r0) (C := RX2) (T := TX2) (N := 2) hx hb hts (by decide +kernel) hown hK hP 0 rfl rfl 0 (by decide) (hts (.fieldLink RX2 12 "BodyText$Text" "fours" "LBodyText$Row;") (by decide +kernel)) (fun _ h9 => h9) rfl dX2_addFour_1 ?_
  refine lv_iload_n hx hb dX2_addFour_4 rfl (lv_at hl 1 rfl) ?_
  have hPc := hP.sub (ws' := [(r0, .inr (1, [.ref q0, .int (nI k0)])), (q0, .inl (cI, n0, .inl f0))]) [1, 2] rfl
  have hDc := hD.sub (ws' := [(r0, .inr (1, [.ref q0, .int (nI k0)])), (q0, .inl (cI, n0, .inl f0))]) [1, 2] (by decide) rfl
  have hFc := va_free (wc := [(r0, .inr (1, [.ref q0, .int (nI k0)])), (q0, .inl (cI, n0, .inl f0))]) hD hS hA [1, 2] rfl
  refine va_callv (va_runV (As := [.int x]) (rest := []) ⟨hx, hb, hml, hown, hts⟩ (kX1_add l D cB cI r0 q0 n0 f0 k0 x hc (by omega) (by omega) s.heap.size) (cwV 1 hts gX2_addFour_X1_add rfl rfl rfl (by decide +kernel) ⟨Nat.le_of_ble_eq_true rfl, Nat.le_of_ble_eq_true rfl⟩) ⟨fun a U g mk q => ⟨q.1, q.2.calling⟩, va_recv hK hPc (ci := 1) (q0 := 0) rfl rfl, fun U hU hW => ⟨rfl, bt_M.of hU hW hPc hK hN hDc⟩⟩ rfl rfl hl.1 rfl (lv_room (Nat.le_of_ble_eq_true rfl)) dX2_addFour_5 ⟨(show 0 + (up n0 (k0 + 1) - n0) ≤ (up n0 (k0 + 1) - n0) by omega), (show 0 + (3 * (up n0 (k0 + 1) - n0)) ≤ (3 * (up n0 (k0 + 1) - n0)) by omega)⟩) hS (fun q _ h => hFc q h) hFc (fun u t9 H1 locs ht hvm hw hB hz1 hk1 hS => ?_)
  obtain ⟨q_5, f_5⟩ := u
  obtain ⟨hP1, hD1⟩ := hB
  rw [ht] at hP1
  try dsimp only at hw hP1 hD1
  obtain ⟨hP, hD⟩ := va_join (wr := [(tx, .inr (2, [.ref r0, .int (nI len)]))]) (w1 := [(r0, .inr (1, [.ref q_5, .int (nI (k0 + 1))])), (q_5, .inl (cI, (up n0 (k0 + 1)), .inl f_5))]) hP hD [1, 2] [0] rfl rfl (by decide) (by decide) hk1 hFc hP1 hD1
  clear hP1 hD1 hPc hDc hFc hk1 hz1 hvm
  generalize H1 = H at hP hS ht ⊢
  have hP : va_P D vwCl [(tx, .inr (2, [.ref r0, .int (nI len)])), (r0, .inr (1, [.ref q_5, .int (nI (k0 + 1))])), (q_5, .inl (cI, (up n0 (k0 + 1)), .inl f_5))] H := hP
  have hD : va_D A [(tx, .inr (2, [.ref r0, .int (nI len)])), (r0, .inr (1, [.ref q_5, .int (nI (k0 + 1))])), (q_5, .inl (cI, (up n0 (k0 + 1)), .inl f_5))] := hD
  have hw_5 := hw
  refine lv_aload_n hx hb dX2_addFour_8 rfl (lv_at hl 0 rfl) ?_
  refine lv_dup hx hb dX2_addFour_9 rfl ?_
  refine va_get (D := D) (ci := 2) (v := .int (nI len)) (C := RX2) (T := TX2) (N := 2) hx hb hts (by decide +kernel) hown hK hP 0 rfl rfl 1 (by decide) (hts (.fieldLink RX2 18 "BodyText$Text" "length" "I") (by decide +kernel)) (fun _ h9 => h9) rfl dX2_addFour_10 ?_
  refine lv_iconst (v := nI 4) hx hb dX2_addFour_13 (by decide) ?_
  refine lv_iadd hx hb dX2_addFour_14 ?_
  refine bt_topi (y := nI (len + 4)) (nI_add _ _) ?_
  refine va_put (D := D) (ci := 2) (v := .int (nI (len + 4))) (ty := .int) (C := RX2) (T := TX2) (N := 2) hx hb hts (by decide +kernel) tyX2 tyX2_ok nmX2 hown hK hP hD hS 0 rfl rfl 1 (by decide) (hts (.fieldLink RX2 18 "BodyText$Text" "length" "I") (by decide +kernel)) (fun _ h9 => h9) rfl (by decide +kernel) rfl rfl (Nat.le_of_ble_eq_true rfl) dX2_addFour_15 (fun H locs hP hD hS => ?_)
  have hP : va_P D vwCl [(tx, .inr (2, [.ref r0, .int (nI (len + 4))])), (r0, .inr (1, [.ref q_5, .int (nI (k0 + 1))])), (q_5, .inl (cI, (up n0 (k0 + 1)), .inl f_5))] H := hP
  have hD : va_D A [(tx, .inr (2, [.ref r0, .int (nI (len + 4))])), (r0, .inr (1, [.ref q_5, .int (nI (k0 + 1))])), (q_5, .inl (cI, (up n0 (k0 + 1)), .inl f_5))] := hD
  have hP9 := hP.sub (ws' := [(tx, .inr (2, [.ref r0, .int (nI (len + 4))])), (r0, .inr (1, [.ref q_5, .int (nI (k0 + 1))])), (q_5, .inl (cI, (up n0 (k0 + 1)), .inl f_5))]) [0, 1, 2] rfl
  have hD9 := hD.sub (ws' := [(tx, .inr (2, [.ref r0, .int (nI (len + 4))])), (r0, .inr (1, [.ref q_5, .int (nI (k0 + 1))])), (q_5, .inl (cI, (up n0 (k0 + 1)), .inl f_5))]) [0, 1, 2] (by decide) rfl
  refine W.widen (k := (up n0 (k0 + 1) - n0)) (n := (3 * (up n0 (k0 + 1) - n0))) (show (0 + (up n0 (k0 + 1) - n0)) ≤ (up n0 (k0 + 1) - n0) by omega) (show (0 + (3 * (up n0 (k0 + 1) - n0))) ≤ (3 * (up n0 (k0 + 1) - n0)) by omega) ?_
  exact W.vret hx hb hr (fun t9 ht hW => ⟨⟨(q_5, f_5), rfl, hw_5, by rw [ht]; exact hP9, hD9⟩, hS.F ht⟩) hS.2.2 dX2_addFour_18
set_option maxHeartbeats 4000000 in
set_option maxRecDepth 100000 in
/-- Text.takeOver(other, n) -/
theorem kX2_takeOver (l : Launch) (D : va_G) (cB cI : ClassId) (tx ox r0 r9 q0 len l9 k0 n : Nat) (sz : Nat) : Met l yX2_takeOver wsX2_takeOver ({ frames := 2, cells := 0, slots := 0, locals := 40 }) (va_Pc [.ref tx, .ref ox, .int (nI n)] (bt_M D cB cI sz [(tx, .inr (2, [.ref r0, .int (nI len)])), (ox, .inr (2, [.ref r9, .int (nI l9)])), (r0, .inr (1, [.ref q0, .int (nI k0)]))])) (va_Qv (S := Unit) (fun _ => True) (fun u t9 => bt_L D (va_A [(tx, .inr (2, [.ref r0, .int (nI len)])), (ox, .inr (2, [.ref r9, .int (nI l9)])), (r0, .inr (1, [.ref q0, .int (nI k0)]))] sz) ((fun _ => [(tx, .inr (2, [.ref r9, .int (nI n)])), (ox, .inr (2, [.ref r0, .int (nI 0)])), (r0, .inr (1, [.ref q0, .int (nI 0)]))]) u) t9) (va_A [(tx, .inr (2, [.ref r0, .int (nI len)])), (ox, .inr (2, [.ref r9, .int (nI l9)])), (r0, .inr (1, [.ref q0, .int (nI k0)]))] sz)) 0 0 (va_A [(tx, .inr (2, [.ref r0, .int (nI len)])), (ox, .inr (2, [.ref r9, .int (nI l9)])), (r0, .inr (1, [.ref q0, .int (nI k0)]))] sz) := by
  refine Met.ofW (cc := cX2_takeOver) (maxL := 4) (ret := none) (by decide) rfl ?_
  intro p e s m args below meth c s₁ B hml hv
  obtain ⟨rfl, hsz, hP, hK, hN, hD0⟩ := hv
  have hx := B.exec
  have hb := B.bytes
  have hr := B.returns
  have hts := atoms_spec (ws := wsX2_takeOver) B.pre
  have hown : s.vm.findClass RX2 = some m.cls := findClass_of_methodNamed B.named
  have hlocks := B.notSynchronized
  subst hsz
  have hD := hD0.self (sz := s.heap.size)
  generalize hAe : va_A [(tx, .inr (2, [.ref r0, .int (nI len)])), (ox, .inr (2, [.ref r9, .int (nI l9)])), (r0, .inr (1, [.ref q0, .int (nI k0)]))] s.heap.size = A at hD ⊢
  have hA : ∀ q : Nat, s.heap.size ≤ q → A q := fun q h => by rw [← hAe]; exact Or.inr h
  have hS : va_S A s.heap s.heap [] := va_S.rf
  have hl := lv_entry ([.ref tx, .ref ox, .int (nI n)]) (n := 4) (Nat.le_of_ble_eq_true rfl)
  rw [lg_entry_eq]
  generalize (lg_sl ([.ref tx, .ref ox, .int (nI n)]) ++ List.replicate (4 - (lg_sl ([.ref tx, .ref ox, .int (nI n)])).length) Slot.unset).toArray = ls at hl ⊢
  have hl : lv_has ls 4 [(0, .ref tx), (1, .ref ox), (2, .int (nI n))] := hl
  refine lv_aload_n hx hb dX2_takeOver_0 rfl (lv_at hl 0 rfl) ?_
  refine va_get (D := D) (ci := 2) (v := .ref r0) (C := RX2) (T := TX2) (N := 2) hx hb hts (by decide +kernel) hown hK hP 0 rfl rfl 0 (by decide) (hts (.fieldLink RX2 12 "BodyText$Text" "fours" "LBodyText$Row;") (by decide +kernel)) (fun _ h9 => h9) rfl dX2_takeOver_1 ?_
  refine lv_astore_n (lv' := [(3, .ref r0), (0, .ref tx), (1, .ref ox), (2, .int (nI n))]) hx hb dX2_takeOver_4 rfl hl (by decide) rfl (fun ls hl => ?_)
  refine lv_aload_n hx hb dX2_takeOver_5 rfl (lv_at hl 1 rfl) ?_
  refine lv_aload_n hx hb dX2_takeOver_6 rfl (lv_at hl 2 rfl) ?_
  refine va_get (D := D) (ci := 2) (v := .ref r9) (C := RX2) (T := TX2) (N := 2) hx hb hts (by decide +kernel) hown hK hP 1 rfl rfl 0 (by decide) (hts (.fieldLink RX2 12 "BodyText$Text" "fours" "LBodyText$Row;") (by decide +kernel)) (fun _ h9 => h9) rfl dX2_takeOver_7 ?_
  refine va_put (D := D) (ci := 2) (v := .ref r9) (ty := .object "BodyText$Row") (C := RX2) (T := TX2) (N := 2) hx hb hts (by decide +kernel) tyX2 tyX2_ok nmX2 hown hK hP hD hS 0 rfl rfl 0 (by decide) (hts (.fieldLink RX2 12 "BodyText$Text" "fours" "LBodyText$Row;") (by decide +kernel)) (fun _ h9 => h9) rfl (by decide +kernel) rfl rfl (Nat.le_of_ble_eq_true rfl) dX2_takeOver_10 (fun H locs hP hD hS => ?_)
  have hP : va_P D vwCl [(tx, .inr (2, [.ref r9, .int (nI len)])), (ox, .inr (2, [.ref r9, .int (nI l9)])), (r0, .inr (1, [.ref q0, .int (nI k0)]))] H := hP
  have hD : va_D A [(tx, .inr (2, [.ref r9, .int (nI len)])), (ox, .inr (2, [.ref r9, .int (nI l9)])), (r0, .inr (1, [.ref q0, .int (nI k0)]))] := hD
  refine lv_aload_n hx hb dX2_takeOver_13 rfl (lv_at hl 1 rfl) ?_
  refine lv_iload_n hx hb dX2_takeOver_14 rfl (lv_at hl 3 rfl) ?_
  refine va_put (D := D) (ci := 2) (v := .int (nI n)) (ty := .int) (C := RX2) (T := TX2) (N := 2) hx hb hts (by decide +kernel) tyX2 tyX2_ok nmX2 hown hK hP hD hS 0 rfl rfl 1 (by decide) (hts (.fieldLink RX2 18 "BodyText$Text" "length" "I") (by decide +kernel)) (fun _ h9 => h9) rfl (by decide +kernel) rfl rfl (Nat.le_of_ble_eq_true rfl) dX2_takeOver_15 (fun H locs hP hD hS => ?_)
  have hP : va_P D vwCl [(tx, .inr (2, [.ref r9, .int (nI n)])), (ox, .inr (2, [.ref r9, .int (nI l9)])), (r0, .inr (1, [.ref q0, .int (nI k0)]))] H := hP
  have hD : va_D A [(tx, .inr (2, [.ref r9, .int (nI n)])), (ox, .inr (2, [.ref r9, .int (nI l9)])), (r0, .inr (1, [.ref q0, .int (nI k0)]))] := hD
  refine lv_aload_n hx hb dX2_takeOver_18 rfl (lv_at hl 2 rfl) ?_
  refine lv_aload_n hx hb dX2_takeOver_19 rfl (lv_at hl 0 rfl) ?_
  refine va_put (D := D) (ci := 2) (v := .ref r0) (ty := .object "BodyText$Row") (C := RX2) (T := TX2) (N := 2) hx hb hts (by decide +kernel) tyX2 tyX2_ok nmX2 hown hK hP hD hS 1 rfl rfl 0 (by decide) (hts (.fieldLink RX2 12 "BodyText$Text" "fours" "LBodyText$Row;") (by decide +kernel)) (fun _ h9 => h9) rfl (by decide +kernel) rfl rfl (Nat.le_of_ble_eq_true rfl) dX2_takeOver_20 (fun H locs hP hD hS => ?_)
  have hP : va_P D vwCl [(tx, .inr (2, [.ref r9, .int (nI n)])), (ox, .inr (2, [.ref r0, .int (nI l9)])), (r0, .inr (1, [.ref q0, .int (nI k0)]))] H := hP
  have hD : va_D A [(tx, .inr (2, [.ref r9, .int (nI n)])), (ox, .inr (2, [.ref r0, .int (nI l9)])), (r0, .inr (1, [.ref q0, .int (nI k0)]))] := hD
  refine lv_aload_n hx hb dX2_takeOver_23 rfl (lv_at hl 2 rfl) ?_
  have hPc := hP.sub (ws' := [(ox, .inr (2, [.ref r0, .int (nI l9)])), (r0, .inr (1, [.ref q0, .int (nI k0)]))]) [1, 2] rfl
  have hDc := hD.sub (ws' := [(ox, .inr (2, [.ref r0, .int (nI l9)])), (r0, .inr (1, [.ref q0, .int (nI k0)]))]) [1, 2] (by decide) rfl
  have hFc := va_free (wc := [(ox, .inr (2, [.ref r0, .int (nI l9)])), (r0, .inr (1, [.ref q0, .int (nI k0)]))]) hD hS hA [1, 2] rfl
  refine va_callv (va_runV (As := []) (rest := []) ⟨hx, hb, hml, hown, hts⟩ (kX2_clear l D cB cI ox r0 q0 l9 k0 H.size) (cwV 0 hts gX2_takeOver_X2_clear rfl rfl rfl (by decide +kernel) ⟨Nat.le_of_ble_eq_true rfl, Nat.le_of_ble_eq_true rfl⟩) ⟨fun a U g mk q => ⟨q.1, q.2.calling⟩, va_recv hK hPc (ci := 2) (q0 := 0) rfl rfl, fun U hU hW => ⟨rfl, bt_M.of hU hW hPc hK hN hDc⟩⟩ rfl rfl hl.1 rfl (lv_room (Nat.le_of_ble_eq_true rfl)) dX2_takeOver_24 ⟨(show 0 + 0 ≤ 0 by omega), (show 0 + 0 ≤ 0 by omega)⟩) hS (fun q _ h => hFc q h) hFc (fun u t9 H1 locs ht hvm hw hB hz1 hk1 hS => ?_)
  obtain ⟨hP1, hD1⟩ := hB
  rw [ht] at hP1
  try dsimp only at hw hP1 hD1
  obtain ⟨hP, hD⟩ := va_join (wr := [(tx, .inr (2, [.ref r9, .int (nI n)]))]) (w1 := [(ox, .inr (2, [.ref r0, .int (nI 0)])), (r0, .inr (1, [.ref q0, .int (nI 0)]))]) hP hD [1, 2] [0] rfl rfl (by decide) (by decide) hk1 hFc hP1 hD1
  clear hP1 hD1 hPc hDc hFc hk1 hz1 hvm
  generalize H1 = H at hP hS ht ⊢
  have hP : va_P D vwCl [(tx, .inr (2, [.ref r9, .int (nI n)])), (ox, .inr (2, [.ref r0, .int (nI 0)])), (r0, .inr (1, [.ref q0, .int (nI 0)]))] H := hP
  have hD : va_D A [(tx, .inr (2, [.ref r9, .int (nI n)])), (ox, .inr (2, [.ref r0, .int (nI 0)])), (r0, .inr (1, [.ref q0, .int (nI 0)]))] := hD
  refine W.widen (k := 0) (n := 0) (Nat.le_refl _) (Nat.le_refl _) ?_
  have hP9 := hP.sub (ws' := [(tx, .inr (2, [.ref r9, .int (nI n)])), (ox, .inr (2, [.ref r0, .int (nI 0)])), (r0, .inr (1, [.ref q0, .int (nI 0)]))]) [0, 1, 2] rfl
  have hD9 := hD.sub (ws' := [(tx, .inr (2, [.ref r9, .int (nI n)])), (ox, .inr (2, [.ref r0, .int (nI 0)])), (r0, .inr (1, [.ref q0, .int (nI 0)]))]) [0, 1, 2] (by decide) rfl
  refine W.widen (k := 0) (n := 0) (show 0 ≤ 0 by omega) (show 0 ≤ 0 by omega) ?_
  exact W.vret hx hb hr (fun t9 ht hW => ⟨⟨(), rfl, trivial, by rw [ht]; exact hP9, hD9⟩, hS.F ht⟩) hS.2.2 dX2_takeOver_27
set_option maxHeartbeats 4000000 in
set_option maxRecDepth 100000 in
/-- Tokens.count() -/
theorem kX3_count (l : Launch) (D : va_G) (cB cI : ClassId) (t tx r1 r2 r3 r4 : Nat) (wd : Int32) (q : Nat → Nat) (n k : Nat) (f : Nat → Nat → Int32) : Met l yX3_count wsX3_count ({ frames := 0, cells := 0, slots := 0, locals := 0 }) (va_Pc [.ref t] (bt_R D cB cI [(t, .inr (3, [.ref tx, .ref r1, .ref r2, .ref r3, .ref r4, .int wd])), (r1, .inr (1, [.ref (q 0), .int (nI k)]))])) (vp_Si (fun r => r = nI k)) 0 0 (fun _ => False) := by
  refine Met.ofW (cc := cX3_count) (maxL := 1) (ret := (some .int)) (by decide) rfl ?_
  intro p e s m args below meth c s₁ B hml hv
  obtain ⟨rfl, hP, hK, hN⟩ := hv
  have hx := B.exec
  have hb := B.bytes
  have hr := B.returns
  have hts := atoms_spec (ws := wsX3_count) B.pre
  have hown : s.vm.findClass RX3 = some m.cls := findClass_of_methodNamed B.named
  have hlocks := B.notSynchronized
  have hl := lv_entry ([.ref t]) (n := 1) (Nat.le_of_ble_eq_true rfl)
  rw [lg_entry_eq]
  generalize (lg_sl ([.ref t]) ++ List.replicate (1 - (lg_sl ([.ref t])).length) Slot.unset).toArray = ls at hl ⊢
  have hl : lv_has ls 1 [(0, .ref t)] := hl
  refine lv_aload_n hx hb dX3_count_0 rfl (lv_at hl 0 rfl) ?_
  refine va_get (D := D) (ci := 3) (v := .ref r1) (C := RX3) (T := TX3) (N := 6) hx hb hts (by decide +kernel) hown hK hP 0 rfl rfl 1 (by decide) (hts (.fieldLink RX3 12 "BodyText$Tokens" "starts" "LBodyText$Row;") (by decide +kernel)) (fun _ h9 => h9) rfl dX3_count_1 ?_
  refine va_getN (D := D) (ci := 1) (v := .int (nI k)) (C := RX1) (T := TX1) (N := 2) hx hb hts (by decide +kernel) hown hK hP 1 rfl rfl 1 (by decide) (bt_nf hN (.fieldLinkNest "BodyText$Tokens" 35 "BodyText$Row" "count" "I" "BodyText") (by decide +kernel)) (fun _ h9 => h9) rfl dX3_count_4 ?_
  exact W.iret (v := nI k) hx hb hr (fun t9 ht hW => ⟨nI k, rfl, rfl, ht⟩) (fun _ h => by cases h) dX3_count_7
set_option maxHeartbeats 4000000 in
set_option maxRecDepth 100000 in
/-- Tokens(tx) -/
theorem kX3_init (l : Launch) (D : va_G) (cB cI : ClassId) (t tx : Nat) (sz : Nat) : Met l yX3_init wsX3_init ({ frames := 2, cells := 8, slots := 72, locals := 32 }) (va_Pc [.ref t, .ref tx] (bt_M D cB cI sz [(t, .inr (3, [.null, .null, .null, .null, .null, .int (nI 0)]))])) (va_Qv (S := (Nat → Nat) × (Nat → Nat)) (fun _ => True) (fun u t9 => bt_L D (va_A [(t, .inr (3, [.null, .null, .null, .null, .null, .int (nI 0)]))] sz) ((fun u => [(t, .inr (3, [.ref tx, .ref (u.1 0), .ref (u.1 1), .ref (u.1 2), .ref (u.1 3), .int (-1)])), (u.1 0, .inr (1, [.ref (u.2 0), .int (nI 0)])), (u.2 0, .inl (cI, 16, .inl (fun _ => 0))), (u.1 1, .inr (1, [.ref (u.2 1), .int (nI 0)])), (u.2 1, .inl (cI, 16, .inl (fun _ => 0))), (u.1 2, .inr (1, [.ref (u.2 2), .int (nI 0)])), (u.2 2, .inl (cI, 16, .inl (fun _ => 0))), (u.1 3, .inr (1, [.ref (u.2 3), .int (nI 0)])), (u.2 3, .inl (cI, 16, .inl (fun _ => 0)))]) u) t9) (va_A [(t, .inr (3, [.null, .null, .null, .null, .null, .int (nI 0)]))] sz)) 8 72 (va_A [(t, .inr (3, [.null, .null, .null, .null, .null, .int (nI 0)]))] sz) := by
  refine Met.ofW (cc := cX3_init) (maxL := 2) (ret := none) (by decide) rfl ?_
  intro p e s m args below meth c s₁ B hml hv
  obtain ⟨rfl, hsz, hP, hK, hN, hD0⟩ := hv
  have hx := B.exec
  have hb := B.bytes
  have hr := B.returns
  have hts := atoms_spec (ws := wsX3_init) B.pre
  have hown : s.vm.findClass RX3 = some m.cls := findClass_of_methodNamed B.named
  have hlocks := B.notSynchronized
  have hin : meth.name = "<init>" := (name_of_methodNamed B.named B.method).1
  subst hsz
  have hD := hD0.self (sz := s.heap.size)
  generalize hAe : va_A [(t, .inr (3, [.null, .null, .null, .null, .null, .int (nI 0)]))] s.heap.size = A at hD ⊢
  have hA : ∀ q : Nat, s.heap.size ≤ q → A q := fun q h => by rw [← hAe]; exact Or.inr h
  have hS : va_S A s.heap s.heap [] := va_S.rf
  have hl := lv_entry ([.ref t, .ref tx]) (n := 2) (Nat.le_of_ble_eq_true rfl)
  rw [lg_entry_eq]
  generalize (lg_sl ([.ref t, .ref tx]) ++ List.replicate (2 - (lg_sl ([.ref t, .ref tx])).length) Slot.unset).toArray = ls at hl ⊢
  have hl : lv_has ls 2 [(0, .ref t), (1, .ref tx)] := hl
  refine lv_aload_n hx hb dX3_init_0 rfl (lv_at hl 0 rfl) ?_
  refine W.objInit hx hb hown (hts (.methodLink RX3 3 objectInit) (by decide +kernel)) (hts (.instanceMethod objectInit) (by decide +kernel)) (hts (.code objectInit ⟨#[0xb1]⟩ 1 none) (by decide +kernel)) rfl (by rw [hml]; exact hl.1) rfl dX3_init_1 (Nat.le_of_ble_eq_true rfl) (Nat.le_of_ble_eq_true rfl) ?_
  refine W.eq (g2 := F0 m 4 ls []) rfl ?_
  refine lv_aload_n hx hb dX3_init_4 rfl (lv_at hl 0 rfl) ?_
  refine va_new (ci := 1) (fs := [.null, .int (nI 0)]) (C := RX1) (T := TX1) (N := 2) hx hb hts (by decide +kernel) tyX1 tyX1_ok hown (hts (.classLink RX3 9 RX1) (by decide +kernel)) (hts (.instantiable RX1 2) (by decide +kernel)) (hts (.initialized RX1) (by decide +kernel)) hK hP hD hS hA rfl (fun j hj => by rcases (show j = 0 ∨ j = 1 by omega) with rfl | rfl <;> rfl) (show 0 + 1 ≤ 8 by omega) (show 0 + 2 ≤ 72 by omega) dX3_init_5 (fun q_5 H hP hD hS => ?_)
  have hP : va_P D vwCl [(t, .inr (3, [.null, .null, .null, .null, .null, .int (nI 0)])), (q_5, .inr (1, [.null, .int (nI 0)]))] H := hP
  have hD : va_D A [(t, .inr (3, [.null, .null, .null, .null, .null, .int (nI 0)])), (q_5, .inr (1, [.null, .int (nI 0)]))] := hD
  refine lv_dup hx hb dX3_init_8 rfl ?_
  have hPc := hP.sub (ws' := [(q_5, .inr (1, [.null, .int (nI 0)]))]) [1] rfl
  have hDc := hD.sub (ws' := [(q_5, .inr (1, [.null, .int (nI 0)]))]) [1] (by decide) rfl
  have hFc := va_free (wc := [(q_5, .inr (1, [.null, .int (nI 0)]))]) hD hS hA [1] rfl
  refine va_callv (va_runIN (As := []) (rest := [.ref q_5, .ref t]) ⟨hx, hb, hml, hown, hts⟩ (kX1_init l D cB cI q_5 H.size) ⟨va_cnB (host := "BodyText") 0 hts gX3_init_X1_init_n11 rfl rfl rfl (bt_nw hN (.methodLinkNest "BodyText$Tokens" 11 ⟨"BodyText$Row", "<init>", "()V"⟩ "BodyText") (by decide +kernel)) (hts (.initialized RX1) (by decide +kernel)) (by decide +kernel) ⟨Nat.le_of_ble_eq_true rfl, Nat.le_of_ble_eq_true rfl⟩, rfl, hts (.instanceMethod yX1_init) (by decide +kernel)⟩ ⟨fun a U g mk q => ⟨q.1, q.2.calling⟩, fun U hU hW => ⟨rfl, bt_M.of hU hW hPc hK hN hDc⟩⟩ rfl rfl hl.1 rfl (lv_room (Nat.le_of_ble_eq_true rfl)) dX3_init_9 ⟨(show (0 + 1) + 1 ≤ 8 by omega), (show (0 + 2) + 16 ≤ 72 by omega)⟩) hS (fun q _ h => hFc q h) hFc (fun qa_9 t9 H1 locs ht hvm hw hB hz1 hk1 hS => ?_)
  obtain ⟨hP1, hD1⟩ := hB
  rw [ht] at hP1
  try dsimp only at hw hP1 hD1
  obtain ⟨hP, hD⟩ := va_join (wr := [(t, .inr (3, [.null, .null, .null, .null, .null, .int (nI 0)]))]) (w1 := [(q_5, .inr (1, [.ref qa_9, .int (nI 0)])), (qa_9, .inl (cI, 16, .inl (fun _ => 0)))]) hP hD [1] [0] rfl rfl (by decide) (by decide) hk1 hFc hP1 hD1
  clear hP1 hD1 hPc hDc hFc hk1 hz1 hvm
  generalize H1 = H at hP hS ht ⊢
  have hP : va_P D vwCl [(t, .inr (3, [.null, .null, .null, .null, .null, .int (nI 0)])), (q_5, .inr (1, [.ref qa_9, .int (nI 0)])), (qa_9, .inl (cI, 16, .inl (fun _ => 0)))] H := hP
  have hD : va_D A [(t, .inr (3, [.null, .null, .null, .null, .null, .int (nI 0)])), (q_5, .inr (1, [.ref qa_9, .int (nI 0)])), (qa_9, .inl (cI, 16, .inl (fun _ => 0)))] := hD
  refine va_putF (D := D) (ci := 3) (v := .ref q_5) (ty := .object "BodyText$Row") (C := RX3) (T := TX3) (N := 6) hx hb hts (by decide +kernel) tyX3 tyX3_ok nmX3 hown hK hP hD hS 0 rfl rfl 1 (by decide) (hts (.fieldLink RX3 12 "BodyText$Tokens" "starts" "LBodyText$Row;") (by decide +kernel)) (fun _ h9 => h9) rfl hin rfl (by decide +kernel) rfl rfl (Nat.le_of_ble_eq_true rfl) dX3_init_12 (fun H locs hP hD hS => ?_)
  have hP : va_P D vwCl [(t, .inr (3, [.null, .ref q_5, .null, .null, .null, .int (nI 0)])), (q_5, .inr (1, [.ref qa_9, .int (nI 0)])), (qa_9, .inl (cI, 16, .inl (fun _ => 0)))] H := hP
  have hD : va_D A [(t, .inr (3, [.null, .ref q_5, .null, .null, .null, .int (nI 0)])), (q_5, .inr (1, [.ref qa_9, .int (nI 0)])), (qa_9, .inl (cI, 16, .inl (fun _ => 0)))] := hD
  refine lv_aload_n hx hb dX3_init_15 rfl (lv_at hl 0 rfl) ?_
  refine va_new (ci := 1) (fs := [.null, .int (nI 0)]) (C := RX1) (T := TX1) (N := 2) hx hb hts (by decide +kernel) tyX1 tyX1_ok hown (hts (.classLink RX3 9 RX1) (by decide +kernel)) (hts (.instantiable RX1 2) (by decide +kernel)) (hts (.initialized RX1) (by decide +kernel)) hK hP hD hS hA rfl (fun j hj => by rcases (show j = 0 ∨ j = 1 by omega) with rfl | rfl <;> rfl) (show ((0 + 1) + 1) + 1 ≤ 8 by omega) (show ((0 + 2) + 16) + 2 ≤ 72 by omega) dX3_init_16 (fun q_16 H hP hD hS => ?_)
  have hP : va_P D vwCl [(t, .inr (3, [.null, .ref q_5, .null, .null, .null, .int (nI 0)])), (q_5, .inr (1, [.ref qa_9, .int (nI 0)])), (qa_9, .inl (cI, 16, .inl (fun _ => 0))), (q_16, .inr (1, [.null, .int (nI 0)]))] H := hP
  have hD : va_D A [(t, .inr (3, [.null, .ref q_5, .null, .null, .null, .int (nI 0)])), (q_5, .inr (1, [.ref qa_9, .int (nI 0)])), (qa_9, .inl (cI, 16, .inl (fun _ => 0))), (q_16, .inr (1, [.null, .int (nI 0)]))] := hD
  refine lv_dup hx hb dX3_init_19 rfl ?_
  have hPc := hP.sub (ws' := [(q_16, .inr (1, [.null, .int (nI 0)]))]) [3] rfl
  have hDc := hD.sub (ws' := [(q_16, .inr (1, [.null, .int (nI 0)]))]) [3] (by decide) rfl
  have hFc := va_free (wc := [(q_16, .inr (1, [.null, .int (nI 0)]))]) hD hS hA [3] rfl
  refine va_callv (va_runIN (As := []) (rest := [.ref q_16, .ref t]) ⟨hx, hb, hml, hown, hts⟩ (kX1_init l D cB cI q_16 H.size) ⟨va_cnB (host := "BodyText") 0 hts gX3_init_X1_init_n11 rfl rfl rfl (bt_nw hN (.methodLinkNest "BodyText$Tokens" 11 ⟨"BodyText$Row", "<init>", "()V"⟩ "BodyText") (by decide +kernel)) (hts (.initialized RX1) (by decide +kernel)) (by decide +kernel) ⟨Nat.le_of_ble_eq_true rfl, Nat.le_of_ble_eq_true rfl⟩, rfl, hts (.instanceMethod yX1_init) (by decide +kernel)⟩ ⟨fun a U g mk q => ⟨q.1, q.2.calling⟩, fun U hU hW => ⟨rfl, bt_M.of hU hW hPc hK hN hDc⟩⟩ rfl rfl hl.1 rfl (lv_room (Nat.le_of_ble_eq_true rfl)) dX3_init_20 ⟨(show (((0 + 1) + 1) + 1) + 1 ≤ 8 by omega), (show (((0 + 2) + 16) + 2) + 16 ≤ 72 by omega)⟩) hS (fun q _ h => hFc q h) hFc (fun qa_20 t9 H1 locs ht hvm hw hB hz1 hk1 hS => ?_)
  obtain ⟨hP1, hD1⟩ := hB
  rw [ht] at hP1
  try dsimp only at hw hP1 hD1
  obtain ⟨hP, hD⟩ := va_join (wr := [(t, .inr (3, [.null, .ref q_5, .null, .null, .null, .int (nI 0)])), (q_5, .inr (1, [.ref qa_9, .int (nI 0)])), (qa_9, .inl (cI, 16, .inl (fun _ => 0)))]) (w1 := [(q_16, .inr (1, [.ref qa_20, .int (nI 0)])), (qa_20, .inl (cI, 16, .inl (fun _ => 0)))]) hP hD [3] [0, 1, 2] rfl rfl (by decide) (by decide) hk1 hFc hP1 hD1
  clear hP1 hD1 hPc hDc hFc hk1 hz1 hvm
  generalize H1 = H at hP hS ht ⊢
  have hP : va_P D vwCl [(t, .inr (3, [.null, .ref q_5, .null, .null, .null, .int (nI 0)])), (q_5, .inr (1, [.ref qa_9, .int (nI 0)])), (qa_9, .inl (cI, 16, .inl (fun _ => 0))), (q_16, .inr (1, [.ref qa_20, .int (nI 0)])), (qa_20, .inl (cI, 16, .inl (fun _ => 0)))] H := hP
  have hD : va_D A [(t, .inr (3, [.null, .ref q_5, .null, .null, .null, .int (nI 0)])), (q_5, .inr (1, [.ref qa_9, .int (nI 0)])), (qa_9, .inl (cI, 16, .inl (fun _ => 0))), (q_16, .inr (1, [.ref qa_20, .int (nI 0)])), (qa_20, .inl (cI, 16, .inl (fun _ => 0)))] := hD
  refine va_putF (D := D) (ci := 3) (v := .ref q_16) (ty := .object "BodyText$Row") (C := RX3) (T := TX3) (N := 6) hx hb hts (by decide +kernel) tyX3 tyX3_ok nmX3 hown hK hP hD hS 0 rfl rfl 2 (by decide) (hts (.fieldLink RX3 18 "BodyText$Tokens" "ends" "LBodyText$Row;") (by decide +kernel)) (fun _ h9 => h9) rfl hin rfl (by decide +kernel) rfl rfl (Nat.le_of_ble_eq_true rfl) dX3_init_23 (fun H locs hP hD hS => ?_)
  have hP : va_P D vwCl [(t, .inr (3, [.null, .ref q_5, .ref q_16, .null, .null, .int (nI 0)])), (q_5, .inr (1, [.ref qa_9, .int (nI 0)])), (qa_9, .inl (cI, 16, .inl (fun _ => 0))), (q_16, .inr (1, [.ref qa_20, .int (nI 0)])), (qa_20, .inl (cI, 16, .inl (fun _ => 0)))] H := hP
  have hD : va_D A [(t, .inr (3, [.null, .ref q_5, .ref q_16, .null, .null, .int (nI 0)])), (q_5, .inr (1, [.ref qa_9, .int (nI 0)])), (qa_9, .inl (cI, 16, .inl (fun _ => 0))), (q_16, .inr (1, [.ref qa_20, .int (nI 0)])), (qa_20, .inl (cI, 16, .inl (fun _ => 0)))] := hD
  refine lv_aload_n hx hb dX3_init_26 rfl (lv_at hl 0 rfl) ?_
  refine va_new (ci := 1) (fs := [.null, .int (nI 0)]) (C := RX1) (T := TX1) (N := 2) hx hb hts (by decide +kernel) tyX1 tyX1_ok hown (hts (.classLink RX3 9 RX1) (by decide +kernel)) (hts (.instantiable RX1 2) (by decide +kernel)) (hts (.initialized RX1) (by decide +kernel)) hK hP hD hS hA rfl (fun j hj => by rcases (show j = 0 ∨ j = 1 by omega) with rfl | rfl <;> rfl) (show ((((0 + 1) + 1) + 1) + 1) + 1 ≤ 8 by omega) (show ((((0 + 2) + 16) + 2) + 16) + 2 ≤ 72 by omega) dX3_init_27 (fun q_27 H hP hD hS => ?_)
  have hP : va_P D vwCl [(t, .inr (3, [.null, .ref q_5, .ref q_16, .null, .null, .int (nI 0)])), (q_5, .inr (1, [.ref qa_9, .int (nI 0)])), (qa_9, .inl (cI, 16, .inl (fun _ => 0))), (q_16, .inr (1, [.ref qa_20, .int (nI 0)])), (qa_20, .inl (cI, 16, .inl (fun _ => 0))), (q_27, .inr (1, [.null, .int (nI 0)]))] H := hP
  have hD : va_D A [(t, .inr (3, [.null, .ref q_5, .ref q_16, .null, .null, .int (nI 0)])), (q_5, .inr (1, [.ref qa_9, .int (nI 0)])), (qa_9, .inl (cI, 16, .inl (fun _ => 0))), (q_16, .inr (1, [.ref qa_20, .int (nI 0)])), (qa_20, .inl (cI, 16, .inl (fun _ => 0))), (q_27, .inr (1, [.null, .int (nI 0)]))] := hD
  refine lv_dup hx hb dX3_init_30 rfl ?_
  have hPc := hP.sub (ws' := [(q_27, .inr (1, [.null, .int (nI 0)]))]) [5] rfl
  have hDc := hD.sub (ws' := [(q_27, .inr (1, [.null, .int (nI 0)]))]) [5] (by decide) rfl
  have hFc := va_free (wc := [(q_27, .inr (1, [.null, .int (nI 0)]))]) hD hS hA [5] rfl
  refine va_callv (va_runIN (As := []) (rest := [.ref q_27, .ref t]) ⟨hx, hb, hml, hown, hts⟩ (kX1_init l D cB cI q_27 H.size) ⟨va_cnB (host := "BodyText") 0 hts gX3_init_X1_init_n11 rfl rfl rfl (bt_nw hN (.methodLinkNest "BodyText$Tokens" 11 ⟨"BodyText$Row", "<init>", "()V"⟩ "BodyText") (by decide +kernel)) (hts (.initialized RX1) (by decide +kernel)) (by decide +kernel) ⟨Nat.le_of_ble_eq_true rfl, Nat.le_of_ble_eq_true rfl⟩, rfl, hts (.instanceMethod yX1_init) (by decide +kernel)⟩ ⟨fun a U g mk q => ⟨q.1, q.2.calling⟩, fun U hU hW => ⟨rfl, bt_M.of hU hW hPc hK hN hDc⟩⟩ rfl rfl hl.1 rfl (lv_room (Nat.le_of_ble_eq_true rfl)) dX3_init_31 ⟨(show (((((0 + 1) + 1) + 1) + 1) + 1) + 1 ≤ 8 by omega), (show (((((0 + 2) + 16) + 2) + 16) + 2) + 16 ≤ 72 by omega)⟩) hS (fun q _ h => hFc q h) hFc (fun qa_31 t9 H1 locs ht hvm hw hB hz1 hk1 hS => ?_)
  obtain ⟨hP1, hD1⟩ := hB
  rw [ht] at hP1
  try dsimp only at hw hP1 hD1
  obtain ⟨hP, hD⟩ := va_join (wr := [(t, .inr (3, [.null, .ref q_5, .ref q_16, .null, .null, .int (nI 0)])), (q_5, .inr (1, [.ref qa_9, .int (nI 0)])), (qa_9, .inl (cI, 16, .inl (fun _ => 0))), (q_16, .inr (1, [.ref qa_20, .int (nI 0)])), (qa_20, .inl (cI, 16, .inl (fun _ => 0)))]) (w1 := [(q_27, .inr (1, [.ref qa_31, .int (nI 0)])), (qa_31, .inl (cI, 16, .inl (fun _ => 0)))]) hP hD [5] [0, 1, 2, 3, 4] rfl rfl (by decide) (by decide) hk1 hFc hP1 hD1
  clear hP1 hD1 hPc hDc hFc hk1 hz1 hvm
  generalize H1 = H at hP hS ht ⊢
  have hP : va_P D vwCl [(t, .inr (3, [.null, .ref q_5, .ref q_16, .null, .null, .int (nI 0)])), (q_5, .inr (1, [.ref qa_9, .int (nI 0)])), (qa_9, .inl (cI, 16, .inl (fun _ => 0))), (q_16, .inr (1, [.ref qa_20, .int (nI 0)])), (qa_20, .inl (cI, 16, .inl (fun _ => 0))), (q_27, .inr (1, [.ref qa_31, .int (nI 0)])), (qa_31, .inl (cI, 16, .inl (fun _ => 0)))] H := hP
  have hD : va_D A [(t, .inr (3, [.null, .ref q_5, .ref q_16, .null, .null, .int (nI 0)])), (q_5, .inr (1, [.ref qa_9, .int (nI 0)])), (qa_9, .inl (cI, 16, .inl (fun _ => 0))), (q_16, .inr (1, [.ref qa_20, .int (nI 0)])), (qa_20, .inl (cI, 16, .inl (fun _ => 0))), (q_27, .inr (1, [.ref qa_31, .int (nI 0)])), (qa_31, .inl (cI, 16, .inl (fun _ => 0)))] := hD
  refine va_putF (D := D) (ci := 3) (v := .ref q_27) (ty := .object "BodyText$Row") (C := RX3) (T := TX3) (N := 6) hx hb hts (by decide +kernel) tyX3 tyX3_ok nmX3 hown hK hP hD hS 0 rfl rfl 3 (by decide) (hts (.fieldLink RX3 21 "BodyText$Tokens" "kinds" "LBodyText$Row;") (by decide +kernel)) (fun _ h9 => h9) rfl hin rfl (by decide +kernel) rfl rfl (Nat.le_of_ble_eq_true rfl) dX3_init_34 (fun H locs hP hD hS => ?_)
  have hP : va_P D vwCl [(t, .inr (3, [.null, .ref q_5, .ref q_16, .ref q_27, .null, .int (nI 0)])), (q_5, .inr (1, [.ref qa_9, .int (nI 0)])), (qa_9, .inl (cI, 16, .inl (fun _ => 0))), (q_16, .inr (1, [.ref qa_20, .int (nI 0)])), (qa_20, .inl (cI, 16, .inl (fun _ => 0))), (q_27, .inr (1, [.ref qa_31, .int (nI 0)])), (qa_31, .inl (cI, 16, .inl (fun _ => 0)))] H := hP
  have hD : va_D A [(t, .inr (3, [.null, .ref q_5, .ref q_16, .ref q_27, .null, .int (nI 0)])), (q_5, .inr (1, [.ref qa_9, .int (nI 0)])), (qa_9, .inl (cI, 16, .inl (fun _ => 0))), (q_16, .inr (1, [.ref qa_20, .int (nI 0)])), (qa_20, .inl (cI, 16, .inl (fun _ => 0))), (q_27, .inr (1, [.ref qa_31, .int (nI 0)])), (qa_31, .inl (cI, 16, .inl (fun _ => 0)))] := hD
  refine lv_aload_n hx hb dX3_init_37 rfl (lv_at hl 0 rfl) ?_
  refine va_new (ci := 1) (fs := [.null, .int (nI 0)]) (C := RX1) (T := TX1) (N := 2) hx hb hts (by decide +kernel) tyX1 tyX1_ok hown (hts (.classLink RX3 9 RX1) (by decide +kernel)) (hts (.instantiable RX1 2) (by decide +kernel)) (hts (.initialized RX1) (by decide +kernel)) hK hP hD hS hA rfl (fun j hj => by rcases (show j = 0 ∨ j = 1 by omega) with rfl | rfl <;> rfl) (show ((((((0 + 1) + 1) + 1) + 1) + 1) + 1) + 1 ≤ 8 by omega) (show ((((((0 + 2) + 16) + 2) + 16) + 2) + 16) + 2 ≤ 72 by omega) dX3_init_38 (fun q_38 H hP hD hS => ?_)
  have hP : va_P D vwCl [(t, .inr (3, [.null, .ref q_5, .ref q_16, .ref q_27, .null, .int (nI 0)])), (q_5, .inr (1, [.ref qa_9, .int (nI 0)])), (qa_9, .inl (cI, 16, .inl (fun _ => 0))), (q_16, .inr (1, [.ref qa_20, .int (nI 0)])), (qa_20, .inl (cI, 16, .inl (fun _ => 0))), (q_27, .inr (1, [.ref qa_31, .int (nI 0)])), (qa_31, .inl (cI, 16, .inl (fun _ => 0))), (q_38, .inr (1, [.null, .int (nI 0)]))] H := hP
  have hD : va_D A [(t, .inr (3, [.null, .ref q_5, .ref q_16, .ref q_27, .null, .int (nI 0)])), (q_5, .inr (1, [.ref qa_9, .int (nI 0)])), (qa_9, .inl (cI, 16, .inl (fun _ => 0))), (q_16, .inr (1, [.ref qa_20, .int (nI 0)])), (qa_20, .inl (cI, 16, .inl (fun _ => 0))), (q_27, .inr (1, [.ref qa_31, .int (nI 0)])), (qa_31, .inl (cI, 16, .inl (fun _ => 0))), (q_38, .inr (1, [.null, .int (nI 0)]))] := hD
  refine lv_dup hx hb dX3_init_41 rfl ?_
  have hPc := hP.sub (ws' := [(q_38, .inr (1, [.null, .int (nI 0)]))]) [7] rfl
  have hDc := hD.sub (ws' := [(q_38, .inr (1, [.null, .int (nI 0)]))]) [7] (by decide) rfl
  have hFc := va_free (wc := [(q_38, .inr (1, [.null, .int (nI 0)]))]) hD hS hA [7] rfl
  refine va_callv (va_runIN (As := []) (rest := [.ref q_38, .ref t]) ⟨hx, hb, hml, hown, hts⟩ (kX1_init l D cB cI q_38 H.size) ⟨va_cnB (host := "BodyText") 0 hts gX3_init_X1_init_n11 rfl rfl rfl (bt_nw hN (.methodLinkNest "BodyText$Tokens" 11 ⟨"BodyText$Row", "<init>", "()V"⟩ "BodyText") (by decide +kernel)) (hts (.initialized RX1) (by decide +kernel)) (by decide +kernel) ⟨Nat.le_of_ble_eq_true rfl, Nat.le_of_ble_eq_true rfl⟩, rfl, hts (.instanceMethod yX1_init) (by decide +kernel)⟩ ⟨fun a U g mk q => ⟨q.1, q.2.calling⟩, fun U hU hW => ⟨rfl, bt_M.of hU hW hPc hK hN hDc⟩⟩ rfl rfl hl.1 rfl (lv_room (Nat.le_of_ble_eq_true rfl)) dX3_init_42 ⟨(show (((((((0 + 1) + 1) + 1) + 1) + 1) + 1) + 1) + 1 ≤ 8 by omega), (show (((((((0 + 2) + 16) + 2) + 16) + 2) + 16) + 2) + 16 ≤ 72 by omega)⟩) hS (fun q _ h => hFc q h) hFc (fun qa_42 t9 H1 locs ht hvm hw hB hz1 hk1 hS => ?_)
  obtain ⟨hP1, hD1⟩ := hB
  rw [ht] at hP1
  try dsimp only at hw hP1 hD1
  obtain ⟨hP, hD⟩ := va_join (wr := [(t, .inr (3, [.null, .ref q_5, .ref q_16, .ref q_27, .null, .int (nI 0)])), (q_5, .inr (1, [.ref qa_9, .int (nI 0)])), (qa_9, .inl (cI, 16, .inl (fun _ => 0))), (q_16, .inr (1, [.ref qa_20, .int (nI 0)])), (qa_20, .inl (cI, 16, .inl (fun _ => 0))), (q_27, .inr (1, [.ref qa_31, .int (nI 0)])), (qa_31, .inl (cI, 16, .inl (fun _ => 0)))]) (w1 := [(q_38, .inr (1, [.ref qa_42, .int (nI 0)])), (qa_42, .inl (cI, 16, .inl (fun _ => 0)))]) hP hD [7] [0, 1, 2, 3, 4, 5, 6] rfl rfl (by decide) (by decide) hk1 hFc hP1 hD1
  clear hP1 hD1 hPc hDc hFc hk1 hz1 hvm
  generalize H1 = H at hP hS ht ⊢
  have hP : va_P D vwCl [(t, .inr (3, [.null, .ref q_5, .ref q_16, .ref q_27, .null, .int (nI 0)])), (q_5, .inr (1, [.ref qa_9, .int (nI 0)])), (qa_9, .inl (cI, 16, .inl (fun _ => 0))), (q_16, .inr (1, [.ref qa_20, .int (nI 0)])), (qa_20, .inl (cI, 16, .inl (fun _ => 0))), (q_27, .inr (1, [.ref qa_31, .int (nI 0)])), (qa_31, .inl (cI, 16, .inl (fun _ => 0))), (q_38, .inr (1, [.ref qa_42, .int (nI 0)])), (qa_42, .inl (cI, 16, .inl (fun _ => 0)))] H := hP
  have hD : va_D A [(t, .inr (3, [.null, .ref q_5, .ref q_16, .ref q_27, .null, .int (nI 0)])), (q_5, .inr (1, [.ref qa_9, .int (nI 0)])), (qa_9, .inl (cI, 16, .inl (fun _ => 0))), (q_16, .inr (1, [.ref qa_20, .int (nI 0)])), (qa_20, .inl (cI, 16, .inl (fun _ => 0))), (q_27, .inr (1, [.ref qa_31, .int (nI 0)])), (qa_31, .inl (cI, 16, .inl (fun _ => 0))), (q_38, .inr (1, [.ref qa_42, .int (nI 0)])), (qa_42, .inl (cI, 16, .inl (fun _ => 0)))] := hD
  refine va_putF (D := D) (ci := 3) (v := .ref q_38) (ty := .object "BodyText$Row") (C := RX3) (T := TX3) (N := 6) hx hb hts (by decide +kernel) tyX3 tyX3_ok nmX3 hown hK hP hD hS 0 rfl rfl 4 (by decide) (hts (.fieldLink RX3 24 "BodyText$Tokens" "instructions" "LBodyText$Row;") (by decide +kernel)) (fun _ h9 => h9) rfl hin rfl (by decide +kernel) rfl rfl (Nat.le_of_ble_eq_true rfl) dX3_init_45 (fun H locs hP hD hS => ?_)
  have hP : va_P D vwCl [(t, .inr (3, [.null, .ref q_5, .ref q_16, .ref q_27, .ref q_38, .int (nI 0)])), (q_5, .inr (1, [.ref qa_9, .int (nI 0)])), (qa_9, .inl (cI, 16, .inl (fun _ => 0))), (q_16, .inr (1, [.ref qa_20, .int (nI 0)])), (qa_20, .inl (cI, 16, .inl (fun _ => 0))), (q_27, .inr (1, [.ref qa_31, .int (nI 0)])), (qa_31, .inl (cI, 16, .inl (fun _ => 0))), (q_38, .inr (1, [.ref qa_42, .int (nI 0)])), (qa_42, .inl (cI, 16, .inl (fun _ => 0)))] H := hP
  have hD : va_D A [(t, .inr (3, [.null, .ref q_5, .ref q_16, .ref q_27, .ref q_38, .int (nI 0)])), (q_5, .inr (1, [.ref qa_9, .int (nI 0)])), (qa_9, .inl (cI, 16, .inl (fun _ => 0))), (q_16, .inr (1, [.ref qa_20, .int (nI 0)])), (qa_20, .inl (cI, 16, .inl (fun _ => 0))), (q_27, .inr (1, [.ref qa_31, .int (nI 0)])), (qa_31, .inl (cI, 16, .inl (fun _ => 0))), (q_38, .inr (1, [.ref qa_42, .int (nI 0)])), (qa_42, .inl (cI, 16, .inl (fun _ => 0)))] := hD
  refine lv_aload_n hx hb dX3_init_48 rfl (lv_at hl 0 rfl) ?_
  refine lv_iconst (v := -1) hx hb dX3_init_49 (by decide) ?_
  refine va_put (D := D) (ci := 3) (v := .int (-1)) (ty := .int) (C := RX3) (T := TX3) (N := 6) hx hb hts (by decide +kernel) tyX3 tyX3_ok nmX3 hown hK hP hD hS 0 rfl rfl 5 (by decide) (hts (.fieldLink RX3 27 "BodyText$Tokens" "wordStart" "I") (by decide +kernel)) (fun _ h9 => h9) rfl (by decide +kernel) rfl rfl (Nat.le_of_ble_eq_true rfl) dX3_init_50 (fun H locs hP hD hS => ?_)
  have hP : va_P D vwCl [(t, .inr (3, [.null, .ref q_5, .ref q_16, .ref q_27, .ref q_38, .int (-1)])), (q_5, .inr (1, [.ref qa_9, .int (nI 0)])), (qa_9, .inl (cI, 16, .inl (fun _ => 0))), (q_16, .inr (1, [.ref qa_20, .int (nI 0)])), (qa_20, .inl (cI, 16, .inl (fun _ => 0))), (q_27, .inr (1, [.ref qa_31, .int (nI 0)])), (qa_31, .inl (cI, 16, .inl (fun _ => 0))), (q_38, .inr (1, [.ref qa_42, .int (nI 0)])), (qa_42, .inl (cI, 16, .inl (fun _ => 0)))] H := hP
  have hD : va_D A [(t, .inr (3, [.null, .ref q_5, .ref q_16, .ref q_27, .ref q_38, .int (-1)])), (q_5, .inr (1, [.ref qa_9, .int (nI 0)])), (qa_9, .inl (cI, 16, .inl (fun _ => 0))), (q_16, .inr (1, [.ref qa_20, .int (nI 0)])), (qa_20, .inl (cI, 16, .inl (fun _ => 0))), (q_27, .inr (1, [.ref qa_31, .int (nI 0)])), (qa_31, .inl (cI, 16, .inl (fun _ => 0))), (q_38, .inr (1, [.ref qa_42, .int (nI 0)])), (qa_42, .inl (cI, 16, .inl (fun _ => 0)))] := hD
  refine lv_aload_n hx hb dX3_init_53 rfl (lv_at hl 0 rfl) ?_
  refine lv_aload_n hx hb dX3_init_54 rfl (lv_at hl 1 rfl) ?_
  refine va_putF (D := D) (ci := 3) (v := .ref tx) (ty := .object "BodyText$Text") (C := RX3) (T := TX3) (N := 6) hx hb hts (by decide +kernel) tyX3 tyX3_ok nmX3 hown hK hP hD hS 0 rfl rfl 0 (by decide) (hts (.fieldLink RX3 31 "BodyText$Tokens" "text" "LBodyText$Text;") (by decide +kernel)) (fun _ h9 => h9) rfl hin rfl (by decide +kernel) rfl rfl (Nat.le_of_ble_eq_true rfl) dX3_init_55 (fun H locs hP hD hS => ?_)
  have hP : va_P D vwCl [(t, .inr (3, [.ref tx, .ref q_5, .ref q_16, .ref q_27, .ref q_38, .int (-1)])), (q_5, .inr (1, [.ref qa_9, .int (nI 0)])), (qa_9, .inl (cI, 16, .inl (fun _ => 0))), (q_16, .inr (1, [.ref qa_20, .int (nI 0)])), (qa_20, .inl (cI, 16, .inl (fun _ => 0))), (q_27, .inr (1, [.ref qa_31, .int (nI 0)])), (qa_31, .inl (cI, 16, .inl (fun _ => 0))), (q_38, .inr (1, [.ref qa_42, .int (nI 0)])), (qa_42, .inl (cI, 16, .inl (fun _ => 0)))] H := hP
  have hD : va_D A [(t, .inr (3, [.ref tx, .ref q_5, .ref q_16, .ref q_27, .ref q_38, .int (-1)])), (q_5, .inr (1, [.ref qa_9, .int (nI 0)])), (qa_9, .inl (cI, 16, .inl (fun _ => 0))), (q_16, .inr (1, [.ref qa_20, .int (nI 0)])), (qa_20, .inl (cI, 16, .inl (fun _ => 0))), (q_27, .inr (1, [.ref qa_31, .int (nI 0)])), (qa_31, .inl (cI, 16, .inl (fun _ => 0))), (q_38, .inr (1, [.ref qa_42, .int (nI 0)])), (qa_42, .inl (cI, 16, .inl (fun _ => 0)))] := hD
  have hP9 := hP.sub (ws' := [(t, .inr (3, [.ref tx, .ref q_5, .ref q_16, .ref q_27, .ref q_38, .int (-1)])), (q_5, .inr (1, [.ref qa_9, .int (nI 0)])), (qa_9, .inl (cI, 16, .inl (fun _ => 0))), (q_16, .inr (1, [.ref qa_20, .int (nI 0)])), (qa_20, .inl (cI, 16, .inl (fun _ => 0))), (q_27, .inr (1, [.ref qa_31, .int (nI 0)])), (qa_31, .inl (cI, 16, .inl (fun _ => 0))), (q_38, .inr (1, [.ref qa_42, .int (nI 0)])), (qa_42, .inl (cI, 16, .inl (fun _ => 0)))]) [0, 1, 2, 3, 4, 5, 6, 7, 8] rfl
  have hD9 := hD.sub (ws' := [(t, .inr (3, [.ref tx, .ref q_5, .ref q_16, .ref q_27, .ref q_38, .int (-1)])), (q_5, .inr (1, [.ref qa_9, .int (nI 0)])), (qa_9, .inl (cI, 16, .inl (fun _ => 0))), (q_16, .inr (1, [.ref qa_20, .int (nI 0)])), (qa_20, .inl (cI, 16, .inl (fun _ => 0))), (q_27, .inr (1, [.ref qa_31, .int (nI 0)])), (qa_31, .inl (cI, 16, .inl (fun _ => 0))), (q_38, .inr (1, [.ref qa_42, .int (nI 0)])), (qa_42, .inl (cI, 16, .inl (fun _ => 0)))]) [0, 1, 2, 3, 4, 5, 6, 7, 8] (by decide) rfl
  refine W.widen (k := 8) (n := 72) (show ((((((((0 + 1) + 1) + 1) + 1) + 1) + 1) + 1) + 1) ≤ 8 by omega) (show ((((((((0 + 2) + 16) + 2) + 16) + 2) + 16) + 2) + 16) ≤ 72 by omega) ?_
  exact W.vret hx hb hr (fun t9 ht hW => ⟨⟨(mk4 q_5 q_16 q_27 q_38, mk4 qa_9 qa_20 qa_31 qa_42), rfl, trivial, by rw [ht]; exact hP9, hD9⟩, hS.F ht⟩) hS.2.2 dX3_init_58
set_option maxHeartbeats 4000000 in
set_option maxRecDepth 100000 in
/-- Tokens.clear() -/
theorem kX3_clear (l : Launch) (D : va_G) (cB cI : ClassId) (t tx r1 r2 r3 r4 : Nat) (wd : Int32) (q : Nat → Nat) (k : Nat) (sz : Nat) : Met l yX3_clear wsX3_clear ({ frames := 1, cells := 0, slots := 0, locals := 20 }) (va_Pc [.ref t] (bt_M D cB cI sz [(t, .inr (3, [.ref tx, .ref r1, .ref r2, .ref r3, .ref r4, .int wd])), (r1, .inr (1, [.ref (q 0), .int (nI k)])), (r2, .inr (1, [.ref (q 1), .int (nI k)])), (r3, .inr (1, [.ref (q 2), .int (nI k)])), (r4, .inr (1, [.ref (q 3), .int (nI k)]))])) (va_Qv (S := Unit) (fun _ => True) (fun u t9 => bt_L D (va_A [(t, .inr (3, [.ref tx, .ref r1, .ref r2, .ref r3, .ref r4, .int wd])), (r1, .inr (1, [.ref (q 0), .int (nI k)])), (r2, .inr (1, [.ref (q 1), .int (nI k)])), (r3, .inr (1, [.ref (q 2), .int (nI k)])), (r4, .inr (1, [.ref (q 3), .int (nI k)]))] sz) ((fun _ => [(t, .inr (3, [.ref tx, .ref r1, .ref r2, .ref r3, .ref r4, .int (-1)])), (r1, .inr (1, [.ref (q 0), .int (nI 0)])), (r2, .inr (1, [.ref (q 1), .int (nI 0)])), (r3, .inr (1, [.ref (q 2), .int (nI 0)])), (r4, .inr (1, [.ref (q 3), .int (nI 0)]))]) u) t9) (va_A [(t, .inr (3, [.ref tx, .ref r1, .ref r2, .ref r3, .ref r4, .int wd])), (r1, .inr (1, [.ref (q 0), .int (nI k)])), (r2, .inr (1, [.ref (q 1), .int (nI k)])), (r3, .inr (1, [.ref (q 2), .int (nI k)])), (r4, .inr (1, [.ref (q 3), .int (nI k)]))] sz)) 0 0 (va_A [(t, .inr (3, [.ref tx, .ref r1, .ref r2, .ref r3, .ref r4, .int wd])), (r1, .inr (1, [.ref (q 0), .int (nI k)])), (r2, .inr (1, [.ref (q 1), .int (nI k)])), (r3, .inr (1, [.ref (q 2), .int (nI k)])), (r4, .inr (1, [.ref (q 3), .int (nI k)]))] sz) := by
  refine Met.ofW (cc := cX3_clear) (maxL := 1) (ret := none) (by decide) rfl ?_
  intro p e s m args below meth c s₁ B hml hv
  obtain ⟨rfl, hsz, hP, hK, hN, hD0⟩ := hv
  have hx := B.exec
  have hb := B.bytes
  have hr := B.returns
  have hts := atoms_spec (ws := wsX3_clear) B.pre
  have hown : s.vm.findClass RX3 = some m.cls := findClass_of_methodNamed B.named
  have hlocks := B.notSynchronized
  subst hsz
  have hD := hD0.self (sz := s.heap.size)
  generalize hAe : va_A [(t, .inr (3, [.ref tx, .ref r1, .ref r2, .ref r3, .ref r4, .int wd])), (r1, .inr (1, [.ref (q 0), .int (nI k)])), (r2, .inr (1, [.ref (q 1), .int (nI k)])), (r3, .inr (1, [.ref (q 2), .int (nI k)])), (r4, .inr (1, [.ref (q 3), .int (nI k)]))] s.heap.size = A at hD ⊢
  have hA : ∀ q : Nat, s.heap.size ≤ q → A q := fun q h => by rw [← hAe]; exact Or.inr h
  have hS : va_S A s.heap s.heap [] := va_S.rf
  have hl := lv_entry ([.ref t]) (n := 1) (Nat.le_of_ble_eq_true rfl)
  rw [lg_entry_eq]
  generalize (lg_sl ([.ref t]) ++ List.replicate (1 - (lg_sl ([.ref t])).length) Slot.unset).toArray = ls at hl ⊢
  have hl : lv_has ls 1 [(0, .ref t)] := hl
  refine lv_aload_n hx hb dX3_clear_0 rfl (lv_at hl 0 rfl) ?_
  refine va_get (D := D) (ci := 3) (v := .ref r1) (C := RX3) (T := TX3) (N := 6) hx hb hts (by decide +kernel) hown hK hP 0 rfl rfl 1 (by decide) (hts (.fieldLink RX3 12 "BodyText$Tokens" "starts" "LBodyText$Row;") (by decide +kernel)) (fun _ h9 => h9) rfl dX3_clear_1 ?_
  have hPc := hP.sub (ws' := [(r1, .inr (1, [.ref (q 0), .int (nI k)]))]) [1] rfl
  have hDc := hD.sub (ws' := [(r1, .inr (1, [.ref (q 0), .int (nI k)]))]) [1] (by decide) rfl
  have hFc := va_free (wc := [(r1, .inr (1, [.ref (q 0), .int (nI k)]))]) hD hS hA [1] rfl
  refine va_callv (va_runV (As := []) (rest := []) ⟨hx, hb, hml, hown, hts⟩ (kX1_clear l D cB cI r1 (q 0) k s.heap.size) (cwV 0 hts gX3_clear_X1_clear rfl rfl rfl (by decide +kernel) ⟨Nat.le_of_ble_eq_true rfl, Nat.le_of_ble_eq_true rfl⟩) ⟨fun a U g mk q => ⟨q.1, q.2.calling⟩, va_recv hK hPc (ci := 1) (q0 := 0) rfl rfl, fun U hU hW => ⟨rfl, bt_M.of hU hW hPc hK hN hDc⟩⟩ rfl rfl hl.1 rfl (lv_room (Nat.le_of_ble_eq_true rfl)) dX3_clear_4 ⟨(show 0 + 0 ≤ 0 by omega), (show 0 + 0 ≤ 0 by omega)⟩) hS (fun q _ h => hFc q h) hFc (fun u t9 H1 locs ht hvm hw hB hz1 hk1 hS => ?_)
  obtain ⟨hP1, hD1⟩ := hB
  rw [ht] at hP1
  try dsimp only at hw hP1 hD1
  obtain ⟨hP, hD⟩ := va_join (wr := [(t, .inr (3, [.ref tx, .ref r1, .ref r2, .ref r3, .ref r4, .int wd])), (r2, .inr (1, [.ref (q 1), .int (nI k)])), (r3, .inr (1, [.ref (q 2), .int (nI k)])), (r4, .inr (1, [.ref (q 3), .int (nI k)]))]) (w1 := [(r1, .inr (1, [.ref (q 0), .int (nI 0)]))]) hP hD [1] [0, 2, 3, 4] rfl rfl (by decide) (by decide) hk1 hFc hP1 hD1
  clear hP1 hD1 hPc hDc hFc hk1 hz1 hvm
  generalize H1 = H at hP hS ht ⊢
  have hP : va_P D vwCl [(t, .inr (3, [.ref tx, .ref r1, .ref r2, .ref r3, .ref r4, .int wd])), (r2, .inr (1, [.ref (q 1), .int (nI k)])), (r3, .inr (1, [.ref (q 2), .int (nI k)])), (r4, .inr (1, [.ref (q 3), .int (nI k)])), (r1, .inr (1, [.ref (q 0), .int (nI 0)]))] H := hP
  have hD : va_D A [(t, .inr (3, [.ref tx, .ref r1, .ref r2, .ref r3, .ref r4, .int wd])), (r2, .inr (1, [.ref (q 1), .int (nI k)])), (r3, .inr (1, [.ref (q 2), .int (nI k)])), (r4, .inr (1, [.ref (q 3), .int (nI k)])), (r1, .inr (1, [.ref (q 0), .int (nI 0)]))] := hD
  refine W.widen (k := 0) (n := 0) (Nat.le_refl _) (Nat.le_refl _) ?_
  refine lv_aload_n hx hb dX3_clear_7 rfl (lv_at hl 0 rfl) ?_
  refine va_get (D := D) (ci := 3) (v := .ref r2) (C := RX3) (T := TX3) (N := 6) hx hb hts (by decide +kernel) hown hK hP 0 rfl rfl 2 (by decide) (hts (.fieldLink RX3 18 "BodyText$Tokens" "ends" "LBodyText$Row;") (by decide +kernel)) (fun _ h9 => h9) rfl dX3_clear_8 ?_
  have hPc := hP.sub (ws' := [(r2, .inr (1, [.ref (q 1), .int (nI k)]))]) [1] rfl
  have hDc := hD.sub (ws' := [(r2, .inr (1, [.ref (q 1), .int (nI k)]))]) [1] (by decide) rfl
  have hFc := va_free (wc := [(r2, .inr (1, [.ref (q 1), .int (nI k)]))]) hD hS hA [1] rfl
  refine va_callv (va_runV (As := []) (rest := []) ⟨hx, hb, hml, hown, hts⟩ (kX1_clear l D cB cI r2 (q 1) k H.size) (cwV 0 hts gX3_clear_X1_clear rfl rfl rfl (by decide +kernel) ⟨Nat.le_of_ble_eq_true rfl, Nat.le_of_ble_eq_true rfl⟩) ⟨fun a U g mk q => ⟨q.1, q.2.calling⟩, va_recv hK hPc (ci := 1) (q0 := 0) rfl rfl, fun U hU hW => ⟨rfl, bt_M.of hU hW hPc hK hN hDc⟩⟩ rfl rfl hl.1 rfl (lv_room (Nat.le_of_ble_eq_true rfl)) dX3_clear_11 ⟨(show 0 + 0 ≤ 0 by omega), (show 0 + 0 ≤ 0 by omega)⟩) hS (fun q _ h => hFc q h) hFc (fun u t9 H1 locs ht hvm hw hB hz1 hk1 hS => ?_)
  obtain ⟨hP1, hD1⟩ := hB
  rw [ht] at hP1
  try dsimp only at hw hP1 hD1
  obtain ⟨hP, hD⟩ := va_join (wr := [(t, .inr (3, [.ref tx, .ref r1, .ref r2, .ref r3, .ref r4, .int wd])), (r3, .inr (1, [.ref (q 2), .int (nI k)])), (r4, .inr (1, [.ref (q 3), .int (nI k)])), (r1, .inr (1, [.ref (q 0), .int (nI 0)]))]) (w1 := [(r2, .inr (1, [.ref (q 1), .int (nI 0)]))]) hP hD [1] [0, 2, 3, 4] rfl rfl (by decide) (by decide) hk1 hFc hP1 hD1
  clear hP1 hD1 hPc hDc hFc hk1 hz1 hvm
  generalize H1 = H at hP hS ht ⊢
  have hP : va_P D vwCl [(t, .inr (3, [.ref tx, .ref r1, .ref r2, .ref r3, .ref r4, .int wd])), (r3, .inr (1, [.ref (q 2), .int (nI k)])), (r4, .inr (1, [.ref (q 3), .int (nI k)])), (r1, .inr (1, [.ref (q 0), .int (nI 0)])), (r2, .inr (1, [.ref (q 1), .int (nI 0)]))] H := hP
  have hD : va_D A [(t, .inr (3, [.ref tx, .ref r1, .ref r2, .ref r3, .ref r4, .int wd])), (r3, .inr (1, [.ref (q 2), .int (nI k)])), (r4, .inr (1, [.ref (q 3), .int (nI k)])), (r1, .inr (1, [.ref (q 0), .int (nI 0)])), (r2, .inr (1, [.ref (q 1), .int (nI 0)]))] := hD
  refine W.widen (k := 0) (n := 0) (Nat.le_refl _) (Nat.le_refl _) ?_
  refine lv_aload_n hx hb dX3_clear_14 rfl (lv_at hl 0 rfl) ?_
  refine va_get (D := D) (ci := 3) (v := .ref r3) (C := RX3) (T := TX3) (N := 6) hx hb hts (by decide +kernel) hown hK hP 0 rfl rfl 3 (by decide) (hts (.fieldLink RX3 21 "BodyText$Tokens" "kinds" "LBodyText$Row;") (by decide +kernel)) (fun _ h9 => h9) rfl dX3_clear_15 ?_
  have hPc := hP.sub (ws' := [(r3, .inr (1, [.ref (q 2), .int (nI k)]))]) [1] rfl
  have hDc := hD.sub (ws' := [(r3, .inr (1, [.ref (q 2), .int (nI k)]))]) [1] (by decide) rfl
  have hFc := va_free (wc := [(r3, .inr (1, [.ref (q 2), .int (nI k)]))]) hD hS hA [1] rfl
  refine va_callv (va_runV (As := []) (rest := []) ⟨hx, hb, hml, hown, hts⟩ (kX1_clear l D cB cI r3 (q 2) k H.size) (cwV 0 hts gX3_clear_X1_clear rfl rfl rfl (by decide +kernel) ⟨Nat.le_of_ble_eq_true rfl, Nat.le_of_ble_eq_true rfl⟩) ⟨fun a U g mk q => ⟨q.1, q.2.calling⟩, va_recv hK hPc (ci := 1) (q0 := 0) rfl rfl, fun U hU hW => ⟨rfl, bt_M.of hU hW hPc hK hN hDc⟩⟩ rfl rfl hl.1 rfl (lv_room (Nat.le_of_ble_eq_true rfl)) dX3_clear_18 ⟨(show 0 + 0 ≤ 0 by omega), (show 0 + 0 ≤ 0 by omega)⟩) hS (fun q _ h => hFc q h) hFc (fun u t9 H1 locs ht hvm hw hB hz1 hk1 hS => ?_)
  obtain ⟨hP1, hD1⟩ := hB
  rw [ht] at hP1
  try dsimp only at hw hP1 hD1
  obtain ⟨hP, hD⟩ := va_join (wr := [(t, .inr (3, [.ref tx, .ref r1, .ref r2, .ref r3, .ref r4, .int wd])), (r4, .inr (1, [.ref (q 3), .int (nI k)])), (r1, .inr (1, [.ref (q 0), .int (nI 0)])), (r2, .inr (1, [.ref (q 1), .int (nI 0)]))]) (w1 := [(r3, .inr (1, [.ref (q 2), .int (nI 0)]))]) hP hD [1] [0, 2, 3, 4] rfl rfl (by decide) (by decide) hk1 hFc hP1 hD1
  clear hP1 hD1 hPc hDc hFc hk1 hz1 hvm
  generalize H1 = H at hP hS ht ⊢
  have hP : va_P D vwCl [(t, .inr (3, [.ref tx, .ref r1, .ref r2, .ref r3, .ref r4, .int wd])), (r4, .inr (1, [.ref (q 3), .int (nI k)])), (r1, .inr (1, [.ref (q 0), .int (nI 0)])), (r2, .inr (1, [.ref (q 1), .int (nI 0)])), (r3, .inr (1, [.ref (q 2), .int (nI 0)]))] H := hP
  have hD : va_D A [(t, .inr (3, [.ref tx, .ref r1, .ref r2, .ref r3, .ref r4, .int wd])), (r4, .inr (1, [.ref (q 3), .int (nI k)])), (r1, .inr (1, [.ref (q 0), .int (nI 0)])), (r2, .inr (1, [.ref (q 1), .int (nI 0)])), (r3, .inr (1, [.ref (q 2), .int (nI 0)]))] := hD
  refine W.widen (k := 0) (n := 0) (Nat.le_refl _) (Nat.le_refl _) ?_
  refine lv_aload_n hx hb dX3_clear_21 rfl (lv_at hl 0 rfl) ?_
  refine va_get (D := D) (ci := 3) (v := .ref r4) (C := RX3) (T := TX3) (N := 6) hx hb hts (by decide +kernel) hown hK hP 0 rfl rfl 4 (by decide) (hts (.fieldLink RX3 24 "BodyText$Tokens" "instructions" "LBodyText$Row;") (by decide +kernel)) (fun _ h9 => h9) rfl dX3_clear_22 ?_
  have hPc := hP.sub (ws' := [(r4, .inr (1, [.ref (q 3), .int (nI k)]))]) [1] rfl
  have hDc := hD.sub (ws' := [(r4, .inr (1, [.ref (q 3), .int (nI k)]))]) [1] (by decide) rfl
  have hFc := va_free (wc := [(r4, .inr (1, [.ref (q 3), .int (nI k)]))]) hD hS hA [1] rfl
  refine va_callv (va_runV (As := []) (rest := []) ⟨hx, hb, hml, hown, hts⟩ (kX1_clear l D cB cI r4 (q 3) k H.size) (cwV 0 hts gX3_clear_X1_clear rfl rfl rfl (by decide +kernel) ⟨Nat.le_of_ble_eq_true rfl, Nat.le_of_ble_eq_true rfl⟩) ⟨fun a U g mk q => ⟨q.1, q.2.calling⟩, va_recv hK hPc (ci := 1) (q0 := 0) rfl rfl, fun U hU hW => ⟨rfl, bt_M.of hU hW hPc hK hN hDc⟩⟩ rfl rfl hl.1 rfl (lv_room (Nat.le_of_ble_eq_true rfl)) dX3_clear_25 ⟨(show 0 + 0 ≤ 0 by omega), (show 0 + 0 ≤ 0 by omega)⟩) hS (fun q _ h => hFc q h) hFc (fun u t9 H1 locs ht hvm hw hB hz1 hk1 hS => ?_)
  obtain ⟨hP1, hD1⟩ := hB
  rw [ht] at hP1
  try dsimp only at hw hP1 hD1
  obtain ⟨hP, hD⟩ := va_join (wr := [(t, .inr (3, [.ref tx, .ref r1, .ref r2, .ref r3, .ref r4, .int wd])), (r1, .inr (1, [.ref (q 0), .int (nI 0)])), (r2, .inr (1, [.ref (q 1), .int (nI 0)])), (r3, .inr (1, [.ref (q 2), .int (nI 0)]))]) (w1 := [(r4, .inr (1, [.ref (q 3), .int (nI 0)]))]) hP hD [1] [0, 2, 3, 4] rfl rfl (by decide) (by decide) hk1 hFc hP1 hD1
  clear hP1 hD1 hPc hDc hFc hk1 hz1 hvm
  generalize H1 = H at hP hS ht ⊢
  have hP : va_P D vwCl [(t, .inr (3, [.ref tx, .ref r1, .ref r2, .ref r3, .ref r4, .int wd])), (r1, .inr (1, [.ref (q 0), .int (nI 0)])), (r2, .inr (1, [.ref (q 1), .int (nI 0)])), (r3, .inr (1, [.ref (q 2), .int (nI 0)])), (r4, .inr (1, [.ref (q 3), .int (nI 0)]))] H := hP
  have hD : va_D A [(t, .inr (3, [.ref tx, .ref r1, .ref r2, .ref r3, .ref r4, .int wd])), (r1, .inr (1, [.ref (q 0), .int (nI 0)])), (r2, .inr (1, [.ref (q 1), .int (nI 0)])), (r3, .inr (1, [.ref (q 2), .int (nI 0)])), (r4, .inr (1, [.ref (q 3), .int (nI 0)]))] := hD
  refine W.widen (k := 0) (n := 0) (Nat.le_refl _) (Nat.le_refl _) ?_
  refine lv_aload_n hx hb dX3_clear_28 rfl (lv_at hl 0 rfl) ?_
  refine lv_iconst (v := -1) hx hb dX3_clear_29 (by decide) ?_
  refine va_put (D := D) (ci := 3) (v := .int (-1)) (ty := .int) (C := RX3) (T := TX3) (N := 6) hx hb hts (by decide +kernel) tyX3 tyX3_ok nmX3 hown hK hP hD hS 0 rfl rfl 5 (by decide) (hts (.fieldLink RX3 27 "BodyText$Tokens" "wordStart" "I") (by decide +kernel)) (fun _ h9 => h9) rfl (by decide +kernel) rfl rfl (Nat.le_of_ble_eq_true rfl) dX3_clear_30 (fun H locs hP hD hS => ?_)
  have hP : va_P D vwCl [(t, .inr (3, [.ref tx, .ref r1, .ref r2, .ref r3, .ref r4, .int (-1)])), (r1, .inr (1, [.ref (q 0), .int (nI 0)])), (r2, .inr (1, [.ref (q 1), .int (nI 0)])), (r3, .inr (1, [.ref (q 2), .int (nI 0)])), (r4, .inr (1, [.ref (q 3), .int (nI 0)]))] H := hP
  have hD : va_D A [(t, .inr (3, [.ref tx, .ref r1, .ref r2, .ref r3, .ref r4, .int (-1)])), (r1, .inr (1, [.ref (q 0), .int (nI 0)])), (r2, .inr (1, [.ref (q 1), .int (nI 0)])), (r3, .inr (1, [.ref (q 2), .int (nI 0)])), (r4, .inr (1, [.ref (q 3), .int (nI 0)]))] := hD
  have hP9 := hP.sub (ws' := [(t, .inr (3, [.ref tx, .ref r1, .ref r2, .ref r3, .ref r4, .int (-1)])), (r1, .inr (1, [.ref (q 0), .int (nI 0)])), (r2, .inr (1, [.ref (q 1), .int (nI 0)])), (r3, .inr (1, [.ref (q 2), .int (nI 0)])), (r4, .inr (1, [.ref (q 3), .int (nI 0)]))]) [0, 1, 2, 3, 4] rfl
  have hD9 := hD.sub (ws' := [(t, .inr (3, [.ref tx, .ref r1, .ref r2, .ref r3, .ref r4, .int (-1)])), (r1, .inr (1, [.ref (q 0), .int (nI 0)])), (r2, .inr (1, [.ref (q 1), .int (nI 0)])), (r3, .inr (1, [.ref (q 2), .int (nI 0)])), (r4, .inr (1, [.ref (q 3), .int (nI 0)]))]) [0, 1, 2, 3, 4] (by decide) rfl
  refine W.widen (k := 0) (n := 0) (show 0 ≤ 0 by omega) (show 0 ≤ 0 by omega) ?_
  exact W.vret hx hb hr (fun t9 ht hW => ⟨⟨(), rfl, trivial, by rw [ht]; exact hP9, hD9⟩, hS.F ht⟩) hS.2.2 dX3_clear_33
set_option maxHeartbeats 4000000 in
set_option maxRecDepth 100000 in
/-- Tokens.addToken -/
theorem kX3_addToken (l : Launch) (D : va_G) (cB cI : ClassId) (t tx r1 r2 r3 r4 : Nat) (wd : Int32) (q : Nat → Nat) (n k : Nat) (f : Nat → Nat → Int32) (x1 x2 x3 x4 : Int32) (hc : cp n = n) (hk : k ≤ n) (hk2 : k < 16000) (sz : Nat) : Met l yX3_addToken wsX3_addToken ({ frames := 3, cells := (4 * (up n (k + 1) - n)), slots := (12 * (up n (k + 1) - n)), locals := 83 }) (va_Pc [.ref t, .int x1, .int x2, .int x3, .int x4] (bt_M D cB cI sz [(t, .inr (3, [.ref tx, .ref r1, .ref r2, .ref r3, .ref r4, .int wd])), (r1, .inr (1, [.ref (q 0), .int (nI k)])), ((q 0), .inl (cI, n, .inl (f 0))), (r2, .inr (1, [.ref (q 1), .int (nI k)])), ((q 1), .inl (cI, n, .inl (f 1))), (r3, .inr (1, [.ref (q 2), .int (nI k)])), ((q 2), .inl (cI, n, .inl (f 2))), (r4, .inr (1, [.ref (q 3), .int (nI k)])), ((q 3), .inl (cI, n, .inl (f 3)))])) (va_Qv (S := (Nat → Nat) × (Nat → Nat → Int32)) (fun u => (∀ i j, i < 4 → j < k → u.2 i j = f i j) ∧ u.2 0 k = x1 ∧ u.2 1 k = x2 ∧ u.2 2 k = x3 ∧ u.2 3 k = x4) (fun u t9 => bt_L D (va_A [(t, .inr (3, [.ref tx, .ref r1, .ref r2, .ref r3, .ref r4, .int wd])), (r1, .inr (1, [.ref (q 0), .int (nI k)])), ((q 0), .inl (cI, n, .inl (f 0))), (r2, .inr (1, [.ref (q 1), .int (nI k)])), ((q 1), .inl (cI, n, .inl (f 1))), (r3, .inr (1, [.ref (q 2), .int (nI k)])), ((q 2), .inl (cI, n, .inl (f 2))), (r4, .inr (1, [.ref (q 3), .int (nI k)])), ((q 3), .inl (cI, n, .inl (f 3)))] sz) ((fun u => [(t, .inr (3, [.ref tx, .ref r1, .ref r2, .ref r3, .ref r4, .int wd])), (r1, .inr (1, [.ref (u.1 0), .int (nI (k + 1))])), (u.1 0, .inl (cI, up n (k + 1), .inl (u.2 0))), (r2, .inr (1, [.ref (u.1 1), .int (nI (k + 1))])), (u.1 1, .inl (cI, up n (k + 1), .inl (u.2 1))), (r3, .inr (1, [.ref (u.1 2), .int (nI (k + 1))])), (u.1 2, .inl (cI, up n (k + 1), .inl (u.2 2))), (r4, .inr (1, [.ref (u.1 3), .int (nI (k + 1))])), (u.1 3, .inl (cI, up n (k + 1), .inl (u.2 3)))]) u) t9) (va_A [(t, .inr (3, [.ref tx, .ref r1, .ref r2, .ref r3, .ref r4, .int wd])), (r1, .inr (1, [.ref (q 0), .int (nI k)])), ((q 0), .inl (cI, n, .inl (f 0))), (r2, .inr (1, [.ref (q 1), .int (nI k)])), ((q 1), .inl (cI, n, .inl (f 1))), (r3, .inr (1, [.ref (q 2), .int (nI k)])), ((q 2), .inl (cI, n, .inl (f 2))), (r4, .inr (1, [.ref (q 3), .int (nI k)])), ((q 3), .inl (cI, n, .inl (f 3)))] sz)) (4 * (up n (k + 1) - n)) (12 * (up n (k + 1) - n)) (va_A [(t, .inr (3, [.ref tx, .ref r1, .ref r2, .ref r3, .ref r4, .int wd])), (r1, .inr (1, [.ref (q 0), .int (nI k)])), ((q 0), .inl (cI, n, .inl (f 0))), (r2, .inr (1, [.ref (q 1), .int (nI k)])), ((q 1), .inl (cI, n, .inl (f 1))), (r3, .inr (1, [.ref (q 2), .int (nI k)])), ((q 2), .inl (cI, n, .inl (f 2))), (r4, .inr (1, [.ref (q 3), .int (nI k)])), ((q 3), .inl (cI, n, .inl (f 3)))] sz) := by
  refine Met.ofW (cc := cX3_addToken) (maxL := 5) (ret := none) (by decide) rfl ?_
  intro p e s m args below meth c s₁ B hml hv
  obtain ⟨rfl, hsz, hP, hK, hN, hD0⟩ := hv
  have hx := B.exec
  have hb := B.bytes
  have hr := B.returns
  have hts := atoms_spec (ws := wsX3_addToken) B.pre
  have hown : s.vm.findClass RX3 = some m.cls := findClass_of_methodNamed B.named
  have hlocks := B.notSynchronized
  subst hsz
  have hD := hD0.self (sz := s.heap.size)
  generalize hAe : va_A [(t, .inr (3, [.ref tx, .ref r1, .ref r2, .ref r3, .ref r4, .int wd])), (r1, .inr (1, [.ref (q 0), .int (nI k)])), ((q 0), .inl (cI, n, .inl (f 0))), (r2, .inr (1, [.ref (q 1), .int (nI k)])), ((q 1), .inl (cI, n, .inl (f 1))), (r3, .inr (1, [.ref (q 2), .int (nI k)])), ((q 2), .inl (cI, n, .inl (f 2))), (r4, .inr (1, [.ref (q 3), .int (nI k)])), ((q 3), .inl (cI, n, .inl (f 3)))] s.heap.size = A at hD ⊢
  have hA : ∀ q : Nat, s.heap.size ≤ q → A q := fun q h => by rw [← hAe]; exact Or.inr h
  have hS : va_S A s.heap s.heap [] := va_S.rf
  have hl := lv_entry ([.ref t, .int x1, .int x2, .int x3, .int x4]) (n := 5) (Nat.le_of_ble_eq_true rfl)
  rw [lg_entry_eq]
  generalize (lg_sl ([.ref t, .int x1, .int x2, .int x3, .int x4]) ++ List.replicate (5 - (lg_sl ([.ref t, .int x1, .int x2, .int x3, .int x4])).length) Slot.unset).toArray = ls at hl ⊢
  have hl : lv_has ls 5 [(0, .ref t), (1, .int x1), (2, .int x2), (3, .int x3), (4, .int x4)] := hl
  refine lv_aload_n hx hb dX3_addToken_0 rfl (lv_at hl 0 rfl) ?_
  refine va_get (D := D) (ci := 3) (v := .ref r1) (C := RX3) (T := TX3) (N := 6) hx hb hts (by decide +kernel) hown hK hP 0 rfl rfl 1 (by decide) (hts (.fieldLink RX3 12 "BodyText$Tokens" "starts" "LBodyText$Row;") (by decide +kernel)) (fun _ h9 => h9) rfl dX3_addToken_1 ?_
  refine lv_iload_n hx hb dX3_addToken_4 rfl (lv_at hl 1 rfl) ?_
  have hPc := hP.sub (ws' := [(r1, .inr (1, [.ref (q 0), .int (nI k)])), ((q 0), .inl (cI, n, .inl (f 0)))]) [1, 2] rfl
  have hDc := hD.sub (ws' := [(r1, .inr (1, [.ref (q 0), .int (nI k)])), ((q 0), .inl (cI, n, .inl (f 0)))]) [1, 2] (by decide) rfl
  have hFc := va_free (wc := [(r1, .inr (1, [.ref (q 0), .int (nI k)])), ((q 0), .inl (cI, n, .inl (f 0)))]) hD hS hA [1, 2] rfl
  refine va_callv (va_runV (As := [.int x1]) (rest := []) ⟨hx, hb, hml, hown, hts⟩ (kX1_add l D cB cI r1 (q 0) n (f 0) k x1 hc (by omega) (by omega) s.heap.size) (cwV 1 hts gX3_addToken_X1_add rfl rfl rfl (by decide +kernel) ⟨Nat.le_of_ble_eq_true rfl, Nat.le_of_ble_eq_true rfl⟩) ⟨fun a U g mk q => ⟨q.1, q.2.calling⟩, va_recv hK hPc (ci := 1) (q0 := 0) rfl rfl, fun U hU hW => ⟨rfl, bt_M.of hU hW hPc hK hN hDc⟩⟩ rfl rfl hl.1 rfl (lv_room (Nat.le_of_ble_eq_true rfl)) dX3_addToken_5 ⟨(show 0 + (up n (k + 1) - n) ≤ (4 * (up n (k + 1) - n)) by omega), (show 0 + (3 * (up n (k + 1) - n)) ≤ (12 * (up n (k + 1) - n)) by omega)⟩) hS (fun q _ h => hFc q h) hFc (fun u t9 H1 locs ht hvm hw hB hz1 hk1 hS => ?_)
  obtain ⟨q_5, f_5⟩ := u
  obtain ⟨hP1, hD1⟩ := hB
  rw [ht] at hP1
  try dsimp only at hw hP1 hD1
  obtain ⟨hP, hD⟩ := va_join (wr := [(t, .inr (3, [.ref tx, .ref r1, .ref r2, .ref r3, .ref r4, .int wd])), (r2, .inr (1, [.ref (q 1), .int (nI k)])), ((q 1), .inl (cI, n, .inl (f 1))), (r3, .inr (1, [.ref (q 2), .int (nI k)])), ((q 2), .inl (cI, n, .inl (f 2))), (r4, .inr (1, [.ref (q 3), .int (nI k)])), ((q 3), .inl (cI, n, .inl (f 3)))]) (w1 := [(r1, .inr (1, [.ref q_5, .int (nI (k + 1))])), (q_5, .inl (cI, (up n (k + 1)), .inl f_5))]) hP hD [1, 2] [0, 3, 4, 5, 6, 7, 8] rfl rfl (by decide) (by decide) hk1 hFc hP1 hD1
  clear hP1 hD1 hPc hDc hFc hk1 hz1 hvm
  generalize H1 = H at hP hS ht ⊢
  have hP : va_P D vwCl [(t, .inr (3, [.ref tx, .ref r1, .ref r2, .ref r3, .ref r4, .int wd])), (r2, .inr (1, [.ref (q 1), .int (nI k)])), ((q 1), .inl (cI, n, .inl (f 1))), (r3, .inr (1, [.ref (q 2), .int (nI k)])), ((q 2), .inl (cI, n, .inl (f 2))), (r4, .inr (1, [.ref (q 3), .int (nI k)])), ((q 3), .inl (cI, n, .inl (f 3))), (r1, .inr (1, [.ref q_5, .int (nI (k + 1))])), (q_5, .inl (cI, (up n (k + 1)), .inl f_5))] H := hP
  have hD : va_D A [(t, .inr (3, [.ref tx, .ref r1, .ref r2, .ref r3, .ref r4, .int wd])), (r2, .inr (1, [.ref (q 1), .int (nI k)])), ((q 1), .inl (cI, n, .inl (f 1))), (r3, .inr (1, [.ref (q 2), .int (nI k)])), ((q 2), .inl (cI, n, .inl (f 2))), (r4, .inr (1, [.ref (q 3), .int (nI k)])), ((q 3), .inl (cI, n, .inl (f 3))), (r1, .inr (1, [.ref q_5, .int (nI (k + 1))])), (q_5, .inl (cI, (up n (k + 1)), .inl f_5))] := hD
  have hw_5 := hw
  refine lv_aload_n hx hb dX3_addToken_8 rfl (lv_at hl 0 rfl) ?_
  refine va_get (D := D) (ci := 3) (v := .ref r2) (C := RX3) (T := TX3) (N := 6) hx hb hts (by decide +kernel) hown hK hP 0 rfl rfl 2 (by decide) (hts (.fieldLink RX3 18 "BodyText$Tokens" "ends" "LBodyText$Row;") (by decide +kernel)) (fun _ h9 => h9) rfl dX3_addToken_9 ?_
  refine lv_iload_n hx hb dX3_addToken_12 rfl (lv_at hl 2 rfl) ?_
  have hPc := hP.sub (ws' := [(r2, .inr (1, [.ref (q 1), .int (nI k)])), ((q 1), .inl (cI, n, .inl (f 1)))]) [1, 2] rfl
  have hDc := hD.sub (ws' := [(r2, .inr (1, [.ref (q 1), .int (nI k)])), ((q 1), .inl (cI, n, .inl (f 1)))]) [1, 2] (by decide) rfl
  have hFc := va_free (wc := [(r2, .inr (1, [.ref (q 1), .int (nI k)])), ((q 1), .inl (cI, n, .inl (f 1)))]) hD hS hA [1, 2] rfl
  refine va_callv (va_runV (As := [.int x2]) (rest := []) ⟨hx, hb, hml, hown, hts⟩ (kX1_add l D cB cI r2 (q 1) n (f 1) k x2 hc (by omega) (by omega) H.size) (cwV 1 hts gX3_addToken_X1_add rfl rfl rfl (by decide +kernel) ⟨Nat.le_of_ble_eq_true rfl, Nat.le_of_ble_eq_true rfl⟩) ⟨fun a U g mk q => ⟨q.1, q.2.calling⟩, va_recv hK hPc (ci := 1) (q0 := 0) rfl rfl, fun U hU hW => ⟨rfl, bt_M.of hU hW hPc hK hN hDc⟩⟩ rfl rfl hl.1 rfl (lv_room (Nat.le_of_ble_eq_true rfl)) dX3_addToken_13 ⟨(show (0 + (up n (k + 1) - n)) + (up n (k + 1) - n) ≤ (4 * (up n (k + 1) - n)) by omega), (show (0 + (3 * (up n (k + 1) - n))) + (3 * (up n (k + 1) - n)) ≤ (12 * (up n (k + 1) - n)) by omega)⟩) hS (fun q _ h => hFc q h) hFc (fun u t9 H1 locs ht hvm hw hB hz1 hk1 hS => ?_)
  obtain ⟨q_13, f_13⟩ := u
  obtain ⟨hP1, hD1⟩ := hB
  rw [ht] at hP1
  try dsimp only at hw hP1 hD1
  obtain ⟨hP, hD⟩ := va_join (wr := [(t, .inr (3, [.ref tx, .ref r1, .ref r2, .ref r3, .ref r4, .int wd])), (r3, .inr (1, [.ref (q 2), .int (nI k)])), ((q 2), .inl (cI, n, .inl (f 2))), (r4, .inr (1, [.ref (q 3), .int (nI k)])), ((q 3), .inl (cI, n, .inl (f 3))), (r1, .inr (1, [.ref q_5, .int (nI (k + 1))])), (q_5, .inl (cI, (up n (k + 1)), .inl f_5))]) (w1 := [(r2, .inr (1, [.ref q_13, .int (nI (k + 1))])), (q_13, .inl (cI, (up n (k + 1)), .inl f_13))]) hP hD [1, 2] [0, 3, 4, 5, 6, 7, 8] rfl rfl (by decide) (by decide) hk1 hFc hP1 hD1
  clear hP1 hD1 hPc hDc hFc hk1 hz1 hvm
  generalize H1 = H at hP hS ht ⊢
  have hP : va_P D vwCl [(t, .inr (3, [.ref tx, .ref r1, .ref r2, .ref r3, .ref r4, .int wd])), (r3, .inr (1, [.ref (q 2), .int (nI k)])), ((q 2), .inl (cI, n, .inl (f 2))), (r4, .inr (1, [.ref (q 3), .int (nI k)])), ((q 3), .inl (cI, n, .inl (f 3))), (r1, .inr (1, [.ref q_5, .int (nI (k + 1))])), (q_5, .inl (cI, (up n (k + 1)), .inl f_5)), (r2, .inr (1, [.ref q_13, .int (nI (k + 1))])), (q_13, .inl (cI, (up n (k + 1)), .inl f_13))] H := hP
  have hD : va_D A [(t, .inr (3, [.ref tx, .ref r1, .ref r2, .ref r3, .ref r4, .int wd])), (r3, .inr (1, [.ref (q 2), .int (nI k)])), ((q 2), .inl (cI, n, .inl (f 2))), (r4, .inr (1, [.ref (q 3), .int (nI k)])), ((q 3), .inl (cI, n, .inl (f 3))), (r1, .inr (1, [.ref q_5, .int (nI (k + 1))])), (q_5, .inl (cI, (up n (k + 1)), .inl f_5)), (r2, .inr (1, [.ref q_13, .int (nI (k + 1))])), (q_13, .inl (cI, (up n (k + 1)), .inl f_13))] := hD
  have hw_13 := hw
  refine lv_aload_n hx hb dX3_addToken_16 rfl (lv_at hl 0 rfl) ?_
  refine va_get (D := D) (ci := 3) (v := .ref r3) (C := RX3) (T := TX3) (N := 6) hx hb hts (by decide +kernel) hown hK hP 0 rfl rfl 3 (by decide) (hts (.fieldLink RX3 21 "BodyText$Tokens" "kinds" "LBodyText$Row;") (by decide +kernel)) (fun _ h9 => h9) rfl dX3_addToken_17 ?_
  refine lv_iload_n hx hb dX3_addToken_20 rfl (lv_at hl 3 rfl) ?_
  have hPc := hP.sub (ws' := [(r3, .inr (1, [.ref (q 2), .int (nI k)])), ((q 2), .inl (cI, n, .inl (f 2)))]) [1, 2] rfl
  have hDc := hD.sub (ws' := [(r3, .inr (1, [.ref (q 2), .int (nI k)])), ((q 2), .inl (cI, n, .inl (f 2)))]) [1, 2] (by decide) rfl
  have hFc := va_free (wc := [(r3, .inr (1, [.ref (q 2), .int (nI k)])), ((q 2), .inl (cI, n, .inl (f 2)))]) hD hS hA [1, 2] rfl
  refine va_callv (va_runV (As := [.int x3]) (rest := []) ⟨hx, hb, hml, hown, hts⟩ (kX1_add l D cB cI r3 (q 2) n (f 2) k x3 hc (by omega) (by omega) H.size) (cwV 1 hts gX3_addToken_X1_add rfl rfl rfl (by decide +kernel) ⟨Nat.le_of_ble_eq_true rfl, Nat.le_of_ble_eq_true rfl⟩) ⟨fun a U g mk q => ⟨q.1, q.2.calling⟩, va_recv hK hPc (ci := 1) (q0 := 0) rfl rfl, fun U hU hW => ⟨rfl, bt_M.of hU hW hPc hK hN hDc⟩⟩ rfl rfl hl.1 rfl (lv_room (Nat.le_of_ble_eq_true rfl)) dX3_addToken_21 ⟨(show ((0 + (up n (k + 1) - n)) + (up n (k + 1) - n)) + (up n (k + 1) - n) ≤ (4 * (up n (k + 1) - n)) by omega), (show ((0 + (3 * (up n (k + 1) - n))) + (3 * (up n (k + 1) - n))) + (3 * (up n (k + 1) - n)) ≤ (12 * (up n (k + 1) - n)) by omega)⟩) hS (fun q _ h => hFc q h) hFc (fun u t9 H1 locs ht hvm hw hB hz1 hk1 hS => ?_)
  obtain ⟨q_21, f_21⟩ := u
  obtain ⟨hP1, hD1⟩ := hB
  rw [ht] at hP1
  try dsimp only at hw hP1 hD1
  obtain ⟨hP, hD⟩ := va_join (wr := [(t, .inr (3, [.ref tx, .ref r1, .ref r2, .ref r3, .ref r4, .int wd])), (r4, .inr (1, [.ref (q 3), .int (nI k)])), ((q 3), .inl (cI, n, .inl (f 3))), (r1, .inr (1, [.ref q_5, .int (nI (k + 1))])), (q_5, .inl (cI, (up n (k + 1)), .inl f_5)), (r2, .inr (1, [.ref q_13, .int (nI (k + 1))])), (q_13, .inl (cI, (up n (k + 1)), .inl f_13))]) (w1 := [(r3, .inr (1, [.ref q_21, .int (nI (k + 1))])), (q_21, .inl (cI, (up n (k + 1)), .inl f_21))]) hP hD [1, 2] [0, 3, 4, 5, 6, 7, 8] rfl rfl (by decide) (by decide) hk1 hFc hP1 hD1
  clear hP1 hD1 hPc hDc hFc hk1 hz1 hvm
  generalize H1 = H at hP hS ht ⊢
  have hP : va_P D vwCl [(t, .inr (3, [.ref tx, .ref r1, .ref r2, .ref r3, .ref r4, .int wd])), (r4, .inr (1, [.ref (q 3), .int (nI k)])), ((q 3), .inl (cI, n, .inl (f 3))), (r1, .inr (1, [.ref q_5, .int (nI (k + 1))])), (q_5, .inl (cI, (up n (k + 1)), .inl f_5)), (r2, .inr (1, [.ref q_13, .int (nI (k + 1))])), (q_13, .inl (cI, (up n (k + 1)), .inl f_13)), (r3, .inr (1, [.ref q_21, .int (nI (k + 1))])), (q_21, .inl (cI, (up n (k + 1)), .inl f_21))] H := hP
  have hD : va_D A [(t, .inr (3, [.ref tx, .ref r1, .ref r2, .ref r3, .ref r4, .int wd])), (r4, .inr (1, [.ref (q 3), .int (nI k)])), ((q 3), .inl (cI, n, .inl (f 3))), (r1, .inr (1, [.ref q_5, .int (nI (k + 1))])), (q_5, .inl (cI, (up n (k + 1)), .inl f_5)), (r2, .inr (1, [.ref q_13, .int (nI (k + 1))])), (q_13, .inl (cI, (up n (k + 1)), .inl f_13)), (r3, .inr (1, [.ref q_21, .int (nI (k + 1))])), (q_21, .inl (cI, (up n (k + 1)), .inl f_21))] := hD
  have hw_21 := hw
  refine lv_aload_n hx hb dX3_addToken_24 rfl (lv_at hl 0 rfl) ?_
  refine va_get (D := D) (ci := 3) (v := .ref r4) (C := RX3) (T := TX3) (N := 6) hx hb hts (by decide +kernel) hown hK hP 0 rfl rfl 4 (by decide) (hts (.fieldLink RX3 24 "BodyText$Tokens" "instructions" "LBodyText$Row;") (by decide +kernel)) (fun _ h9 => h9) rfl dX3_addToken_25 ?_
  refine lv_iload hx hb dX3_addToken_28 (lv_at hl 4 rfl) ?_
  have hPc := hP.sub (ws' := [(r4, .inr (1, [.ref (q 3), .int (nI k)])), ((q 3), .inl (cI, n, .inl (f 3)))]) [1, 2] rfl
  have hDc := hD.sub (ws' := [(r4, .inr (1, [.ref (q 3), .int (nI k)])), ((q 3), .inl (cI, n, .inl (f 3)))]) [1, 2] (by decide) rfl
  have hFc := va_free (wc := [(r4, .inr (1, [.ref (q 3), .int (nI k)])), ((q 3), .inl (cI, n, .inl (f 3)))]) hD hS hA [1, 2] rfl
  refine va_callv (va_runV (As := [.int x4]) (rest := []) ⟨hx, hb, hml, hown, hts⟩ (kX1_add l D cB cI r4 (q 3) n (f 3) k x4 hc (by omega) (by omega) H.size) (cwV 1 hts gX3_addToken_X1_add rfl rfl rfl (by decide +kernel) ⟨Nat.le_of_ble_eq_true rfl, Nat.le_of_ble_eq_true rfl⟩) ⟨fun a U g mk q => ⟨q.1, q.2.calling⟩, va_recv hK hPc (ci := 1) (q0 := 0) rfl rfl, fun U hU hW => ⟨rfl, bt_M.of hU hW hPc hK hN hDc⟩⟩ rfl rfl hl.1 rfl (lv_room (Nat.le_of_ble_eq_true rfl)) dX3_addToken_30 ⟨(show (((0 + (up n (k + 1) - n)) + (up n (k + 1) - n)) + (up n (k + 1) - n)) + (up n (k + 1) - n) ≤ (4 * (up n (k + 1) - n)) by omega), (show (((0 + (3 * (up n (k + 1) - n))) + (3 * (up n (k + 1) - n))) + (3 * (up n (k + 1) - n))) + (3 * (up n (k + 1) - n)) ≤ (12 * (up n (k + 1) - n)) by omega)⟩) hS (fun q _ h => hFc q h) hFc (fun u t9 H1 locs ht hvm hw hB hz1 hk1 hS => ?_)
  obtain ⟨q_30, f_30⟩ := u
  obtain ⟨hP1, hD1⟩ := hB
  rw [ht] at hP1
  try dsimp only at hw hP1 hD1
  obtain ⟨hP, hD⟩ := va_join (wr := [(t, .inr (3, [.ref tx, .ref r1, .ref r2, .ref r3, .ref r4, .int wd])), (r1, .inr (1, [.ref q_5, .int (nI (k + 1))])), (q_5, .inl (cI, (up n (k + 1)), .inl f_5)), (r2, .inr (1, [.ref q_13, .int (nI (k + 1))])), (q_13, .inl (cI, (up n (k + 1)), .inl f_13)), (r3, .inr (1, [.ref q_21, .int (nI (k + 1))])), (q_21, .inl (cI, (up n (k + 1)), .inl f_21))]) (w1 := [(r4, .inr (1, [.ref q_30, .int (nI (k + 1))])), (q_30, .inl (cI, (up n (k + 1)), .inl f_30))]) hP hD [1, 2] [0, 3, 4, 5, 6, 7, 8] rfl rfl (by decide) (by decide) hk1 hFc hP1 hD1
  clear hP1 hD1 hPc hDc hFc hk1 hz1 hvm
  generalize H1 = H at hP hS ht ⊢
  have hP : va_P D vwCl [(t, .inr (3, [.ref tx, .ref r1, .ref r2, .ref r3, .ref r4, .int wd])), (r1, .inr (1, [.ref q_5, .int (nI (k + 1))])), (q_5, .inl (cI, (up n (k + 1)), .inl f_5)), (r2, .inr (1, [.ref q_13, .int (nI (k + 1))])), (q_13, .inl (cI, (up n (k + 1)), .inl f_13)), (r3, .inr (1, [.ref q_21, .int (nI (k + 1))])), (q_21, .inl (cI, (up n (k + 1)), .inl f_21)), (r4, .inr (1, [.ref q_30, .int (nI (k + 1))])), (q_30, .inl (cI, (up n (k + 1)), .inl f_30))] H := hP
  have hD : va_D A [(t, .inr (3, [.ref tx, .ref r1, .ref r2, .ref r3, .ref r4, .int wd])), (r1, .inr (1, [.ref q_5, .int (nI (k + 1))])), (q_5, .inl (cI, (up n (k + 1)), .inl f_5)), (r2, .inr (1, [.ref q_13, .int (nI (k + 1))])), (q_13, .inl (cI, (up n (k + 1)), .inl f_13)), (r3, .inr (1, [.ref q_21, .int (nI (k + 1))])), (q_21, .inl (cI, (up n (k + 1)), .inl f_21)), (r4, .inr (1, [.ref q_30, .int (nI (k + 1))])), (q_30, .inl (cI, (up n (k + 1)), .inl f_30))] := hD
  have hw_30 := hw
  have hP9 := hP.sub (ws' := [(t, .inr (3, [.ref tx, .ref r1, .ref r2, .ref r3, .ref r4, .int wd])), (r1, .inr (1, [.ref q_5, .int (nI (k + 1))])), (q_5, .inl (cI, (up n (k + 1)), .inl f_5)), (r2, .inr (1, [.ref q_13, .int (nI (k + 1))])), (q_13, .inl (cI, (up n (k + 1)), .inl f_13)), (r3, .inr (1, [.ref q_21, .int (nI (k + 1))])), (q_21, .inl (cI, (up n (k + 1)), .inl f_21)), (r4, .inr (1, [.ref q_30, .int (nI (k + 1))])), (q_30, .inl (cI, (up n (k + 1)), .inl f_30))]) [0, 1, 2, 3, 4, 5, 6, 7, 8] rfl
  have hD9 := hD.sub (ws' := [(t, .inr (3, [.ref tx, .ref r1, .ref r2, .ref r3, .ref r4, .int wd])), (r1, .inr (1, [.ref q_5, .int (nI (k + 1))])), (q_5, .inl (cI, (up n (k + 1)), .inl f_5)), (r2, .inr (1, [.ref q_13, .int (nI (k + 1))])), (q_13, .inl (cI, (up n (k + 1)), .inl f_13)), (r3, .inr (1, [.ref q_21, .int (nI (k + 1))])), (q_21, .inl (cI, (up n (k + 1)), .inl f_21)), (r4, .inr (1, [.ref q_30, .int (nI (k + 1))])), (q_30, .inl (cI, (up n (k + 1)), .inl f_30))]) [0, 1, 2, 3, 4, 5, 6, 7, 8] (by decide) rfl
  refine W.widen (k := (4 * (up n (k + 1) - n))) (n := (12 * (up n (k + 1) - n))) (show ((((0 + (up n (k + 1) - n)) + (up n (k + 1) - n)) + (up n (k + 1) - n)) + (up n (k + 1) - n)) ≤ (4 * (up n (k + 1) - n)) by omega) (show ((((0 + (3 * (up n (k + 1) - n))) + (3 * (up n (k + 1) - n))) + (3 * (up n (k + 1) - n))) + (3 * (up n (k + 1) - n))) ≤ (12 * (up n (k + 1) - n)) by omega) ?_
  exact W.vret hx hb hr (fun t9 ht hW => ⟨⟨(mk4 q_5 q_13 q_21 q_30, mk4 f_5 f_13 f_21 f_30), rfl, ⟨fun i j hi hj => by rcases (show i = 0 ∨ i = 1 ∨ i = 2 ∨ i = 3 by omega) with rfl | rfl | rfl | rfl; exact hw_5.1 j hj; exact hw_13.1 j hj; exact hw_21.1 j hj; exact hw_30.1 j hj, hw_5.2, hw_13.2, hw_21.2, hw_30.2⟩, by rw [ht]; exact hP9, hD9⟩, hS.F ht⟩) hS.2.2 dX3_addToken_33
