set_option maxHeartbeats 4000000 in
set_option maxRecDepth 100000 in
/-- feed -/
theorem kX4_feed (l : Launch) (D : va_G) (cB cI : ClassId) (bx fd tx t pg : Nat) (r9 q9 al l9 k9 n9 : Nat) (fa : Int32) (f9 : Nat → Int32) (x1 x2 x3 x4 x5 : Int32) (hc : cp n9 = n9) (hk : k9 ≤ n9) (hk2 : k9 < 15990) (hl9 : l9 ≤ 15980) (hal : al ≤ 65516) (sz : Nat) : Met l yX4_feed wsX4_feed ({ frames := 4, cells := (up n9 (k9 + 5) - n9), slots := (3 * (up n9 (k9 + 5) - n9)), locals := 104 }) (va_Pc [.ref bx, .int x1, .int x2, .int x3, .int x4, .int x5] (bt_M D cB cI sz [(bx, .inr (4, [.ref fd, .ref tx, .ref t, .ref pg, .int (nI al), .int fa])), (fd, .inr (2, [.ref r9, .int (nI l9)])), (r9, .inr (1, [.ref q9, .int (nI k9)])), (q9, .inl (cI, n9, .inl f9))])) (va_Qi (S := Nat × (Nat → Int32)) (fun r u => r = nI (l9 + 20) ∧ (∀ j, j < k9 → u.2 j = f9 j) ∧ u.2 k9 = x1 ∧ u.2 (k9 + 1) = x2 ∧ u.2 (k9 + 2) = x3 ∧ u.2 (k9 + 3) = x4 ∧ u.2 (k9 + 4) = x5) (fun u t9 => bt_L D (va_A [(bx, .inr (4, [.ref fd, .ref tx, .ref t, .ref pg, .int (nI al), .int fa])), (fd, .inr (2, [.ref r9, .int (nI l9)])), (r9, .inr (1, [.ref q9, .int (nI k9)])), (q9, .inl (cI, n9, .inl f9))] sz) ((fun u => [(bx, .inr (4, [.ref fd, .ref tx, .ref t, .ref pg, .int (nI (al + 20)), .int fa])), (fd, .inr (2, [.ref r9, .int (nI (l9 + 20))])), (r9, .inr (1, [.ref (u.1), .int (nI (k9 + 5))])), ((u.1), .inl (cI, (up n9 (k9 + 5)), .inl u.2))]) u) t9) (va_A [(bx, .inr (4, [.ref fd, .ref tx, .ref t, .ref pg, .int (nI al), .int fa])), (fd, .inr (2, [.ref r9, .int (nI l9)])), (r9, .inr (1, [.ref q9, .int (nI k9)])), (q9, .inl (cI, n9, .inl f9))] sz)) (up n9 (k9 + 5) - n9) (3 * (up n9 (k9 + 5) - n9)) (va_A [(bx, .inr (4, [.ref fd, .ref tx, .ref t, .ref pg, .int (nI al), .int fa])), (fd, .inr (2, [.ref r9, .int (nI l9)])), (r9, .inr (1, [.ref q9, .int (nI k9)])), (q9, .inl (cI, n9, .inl f9))] sz) := by
  refine Met.ofW (cc := cX4_feed) (maxL := 6) (ret := (some .int)) (by decide) rfl ?_
  intro p e s m args below meth c s₁ B hml hv
  obtain ⟨rfl, hsz, hP, hK, hN, hD0⟩ := hv
  have hx := B.exec
  have hb := B.bytes
  have hr := B.returns
  have hts := atoms_spec (ws := wsX4_feed) B.pre
  have hown : s.vm.findClass RX4 = some m.cls := findClass_of_methodNamed B.named
  have hlocks := B.notSynchronized
  subst hsz
  have hD := hD0.self (sz := s.heap.size)
  generalize hAe : va_A [(bx, .inr (4, [.ref fd, .ref tx, .ref t, .ref pg, .int (nI al), .int fa])), (fd, .inr (2, [.ref r9, .int (nI l9)])), (r9, .inr (1, [.ref q9, .int (nI k9)])), (q9, .inl (cI, n9, .inl f9))] s.heap.size = A at hD ⊢
  have hA : ∀ q : Nat, s.heap.size ≤ q → A q := fun q h => by rw [← hAe]; exact Or.inr h
  have hS : va_S A s.heap s.heap [] := va_S.rf
  have hl := lv_entry ([.ref bx, .int x1, .int x2, .int x3, .int x4, .int x5]) (n := 6) (Nat.le_of_ble_eq_true rfl)
  rw [lg_entry_eq]
  generalize (lg_sl ([.ref bx, .int x1, .int x2, .int x3, .int x4, .int x5]) ++ List.replicate (6 - (lg_sl ([.ref bx, .int x1, .int x2, .int x3, .int x4, .int x5])).length) Slot.unset).toArray = ls at hl ⊢
  have hl : lv_has ls 6 [(0, .ref bx), (1, .int x1), (2, .int x2), (3, .int x3), (4, .int x4), (5, .int x5)] := hl
  have hum0 : n9 ≤ up n9 (k9 + 1) := up_ge _ _
  have hum1 : (up n9 (k9 + 1)) ≤ up n9 (k9 + 2) := up_mono (by omega)
  have hum2 : (up n9 (k9 + 2)) ≤ up n9 (k9 + 3) := up_mono (by omega)
  have hum3 : (up n9 (k9 + 3)) ≤ up n9 (k9 + 4) := up_mono (by omega)
  have hum4 : (up n9 (k9 + 4)) ≤ up n9 (k9 + 5) := up_mono (by omega)
  refine lv_aload_n hx hb dX4_feed_0 rfl (lv_at hl 0 rfl) ?_
  refine va_get (D := D) (ci := 4) (v := .ref fd) (C := RX4) (T := TX4) (N := 6) hx hb hts (by decide +kernel) hown hK hP 0 rfl rfl 0 (by decide) (hts (.fieldLink RX4 12 "BodyText" "fed" "LBodyText$Text;") (by decide +kernel)) (fun _ h9 => h9) rfl dX4_feed_1 ?_
  refine va_getN (D := D) (ci := 2) (v := .int (nI l9)) (C := RX2) (T := TX2) (N := 2) hx hb hts (by decide +kernel) hown hK hP 1 rfl rfl 1 (by decide) (bt_nf hN (.fieldLinkNest "BodyText" 44 "BodyText$Text" "length" "I" "BodyText") (by decide +kernel)) (fun _ h9 => h9) rfl dX4_feed_4 ?_
  refine lv_sipush (v := nI 15980) hx hb dX4_feed_7 (by decide) ?_
  refine lv_icmp_gt (tgt := 22) hx hb dX4_feed_10 (by decide) (fun c_10 => ?_) (fun c_10 => ?_)
  · have c_10 : 15980 < l9 := (nI_ltI (a := 15980) (b := l9) (by omega) (by omega)).mp c_10
    exfalso; omega
  · have c_10 : ¬ (15980 < l9) := fun h9 => c_10 ((nI_ltI (a := 15980) (b := l9) (by omega) (by omega)).mpr h9)
    refine lv_aload_n hx hb dX4_feed_13 rfl (lv_at hl 0 rfl) ?_
    refine va_get (D := D) (ci := 4) (v := .int (nI al)) (C := RX4) (T := TX4) (N := 6) hx hb hts (by decide +kernel) hown hK hP 0 rfl rfl 4 (by decide) (hts (.fieldLink RX4 37 "BodyText" "fedInAll" "I") (by decide +kernel)) (fun _ h9 => h9) rfl dX4_feed_14 ?_
    refine lv_ldc (own := RX4) (v := 65516) hx hb hown (hts (.constant RX4 47 (65516)) (by decide +kernel)) dX4_feed_17 ?_
    refine bt_topi (y := nI 65516) (by decide) ?_
    refine lv_icmp_le (tgt := 24) hx hb dX4_feed_19 (by decide) (fun c_19 => ?_) (fun c_19 => ?_)
    · have c_19 : al ≤ 65516 := (nI_leI (a := al) (b := 65516) (by omega) (by omega)).mp c_19
      refine lv_aload_n hx hb dX4_feed_24 rfl (lv_at hl 0 rfl) ?_
      refine va_get (D := D) (ci := 4) (v := .ref fd) (C := RX4) (T := TX4) (N := 6) hx hb hts (by decide +kernel) hown hK hP 0 rfl rfl 0 (by decide) (hts (.fieldLink RX4 12 "BodyText" "fed" "LBodyText$Text;") (by decide +kernel)) (fun _ h9 => h9) rfl dX4_feed_25 ?_
      refine lv_iload_n hx hb dX4_feed_28 rfl (lv_at hl 1 rfl) ?_
      have hPc := hP.sub (ws' := [(fd, .inr (2, [.ref r9, .int (nI l9)])), (r9, .inr (1, [.ref q9, .int (nI k9)])), (q9, .inl (cI, n9, .inl f9))]) [1, 2, 3] rfl
      have hDc := hD.sub (ws' := [(fd, .inr (2, [.ref r9, .int (nI l9)])), (r9, .inr (1, [.ref q9, .int (nI k9)])), (q9, .inl (cI, n9, .inl f9))]) [1, 2, 3] (by decide) rfl
      have hFc := va_free (wc := [(fd, .inr (2, [.ref r9, .int (nI l9)])), (r9, .inr (1, [.ref q9, .int (nI k9)])), (q9, .inl (cI, n9, .inl f9))]) hD hS hA [1, 2, 3] rfl
      refine va_callv (va_runV (As := [.int x1]) (rest := []) ⟨hx, hb, hml, hown, hts⟩ (kX2_addFour l D cB cI fd r9 q9 l9 k9 n9 f9 x1 hc hk (by omega) (by omega) s.heap.size) (cwV 1 hts gX4_feed_X2_addFour rfl rfl rfl (by decide +kernel) ⟨Nat.le_of_ble_eq_true rfl, Nat.le_of_ble_eq_true rfl⟩) ⟨fun a U g mk q => ⟨q.1, q.2.calling⟩, va_recv hK hPc (ci := 2) (q0 := 0) rfl rfl, fun U hU hW => ⟨rfl, bt_M.of hU hW hPc hK hN hDc⟩⟩ rfl rfl hl.1 rfl (lv_room (Nat.le_of_ble_eq_true rfl)) dX4_feed_29 ⟨(show 0 + ((up n9 (k9 + 1)) - n9) ≤ (up n9 (k9 + 5) - n9) by omega), (show 0 + (3 * ((up n9 (k9 + 1)) - n9)) ≤ (3 * (up n9 (k9 + 5) - n9)) by omega)⟩) hS (fun q _ h => hFc q h) hFc (fun u t9 H1 locs ht hvm hw hB hz1 hk1 hS => ?_)
      obtain ⟨q_29, f_29⟩ := u
      obtain ⟨hP1, hD1⟩ := hB
      rw [ht] at hP1
      try dsimp only at hw hP1 hD1
      obtain ⟨hP, hD⟩ := va_join (wr := [(bx, .inr (4, [.ref fd, .ref tx, .ref t, .ref pg, .int (nI al), .int fa]))]) (w1 := [(fd, .inr (2, [.ref r9, .int (nI (l9 + 4))])), (r9, .inr (1, [.ref q_29, .int (nI (k9 + 1))])), (q_29, .inl (cI, (up n9 (k9 + 1)), .inl f_29))]) hP hD [1, 2, 3] [0] rfl rfl (by decide) (by decide) hk1 hFc hP1 hD1
      clear hP1 hD1 hPc hDc hFc hk1 hz1 hvm
      generalize H1 = H at hP hS ht ⊢
      have hP : va_P D vwCl [(bx, .inr (4, [.ref fd, .ref tx, .ref t, .ref pg, .int (nI al), .int fa])), (fd, .inr (2, [.ref r9, .int (nI (l9 + 4))])), (r9, .inr (1, [.ref q_29, .int (nI (k9 + 1))])), (q_29, .inl (cI, (up n9 (k9 + 1)), .inl f_29))] H := hP
      have hD : va_D A [(bx, .inr (4, [.ref fd, .ref tx, .ref t, .ref pg, .int (nI al), .int fa])), (fd, .inr (2, [.ref r9, .int (nI (l9 + 4))])), (r9, .inr (1, [.ref q_29, .int (nI (k9 + 1))])), (q_29, .inl (cI, (up n9 (k9 + 1)), .inl f_29))] := hD
      have hw_29 := hw
      have hP : va_P D vwCl [(bx, .inr (4, [.ref fd, .ref tx, .ref t, .ref pg, .int (nI al), .int fa])), (fd, .inr (2, [.ref r9, .int (nI (l9 + 4))])), (r9, .inr (1, [.ref q_29, .int (nI (k9 + 1))])), (q_29, .inl (cI, (up n9 (k9 + 1)), .inl f_29))] H := hP
      have hD : va_D A [(bx, .inr (4, [.ref fd, .ref tx, .ref t, .ref pg, .int (nI al), .int fa])), (fd, .inr (2, [.ref r9, .int (nI (l9 + 4))])), (r9, .inr (1, [.ref q_29, .int (nI (k9 + 1))])), (q_29, .inl (cI, (up n9 (k9 + 1)), .inl f_29))] := hD
      refine W.widen (k := up n9 (k9 + 1) - n9) (n := 3 * (up n9 (k9 + 1) - n9)) (show (0 + ((up n9 (k9 + 1)) - n9)) ≤ _ by omega) (show (0 + (3 * ((up n9 (k9 + 1)) - n9))) ≤ _ by omega) ?_
      refine lv_aload_n hx hb dX4_feed_32 rfl (lv_at hl 0 rfl) ?_
      refine va_get (D := D) (ci := 4) (v := .ref fd) (C := RX4) (T := TX4) (N := 6) hx hb hts (by decide +kernel) hown hK hP 0 rfl rfl 0 (by decide) (hts (.fieldLink RX4 12 "BodyText" "fed" "LBodyText$Text;") (by decide +kernel)) (fun _ h9 => h9) rfl dX4_feed_33 ?_
      refine lv_iload_n hx hb dX4_feed_36 rfl (lv_at hl 2 rfl) ?_
      have hu1 : up (up n9 (k9 + 1)) ((k9 + 1) + 1) = up n9 (k9 + 2) := up_up (by omega)
      have hPc := hP.sub (ws' := [(fd, .inr (2, [.ref r9, .int (nI (l9 + 4))])), (r9, .inr (1, [.ref q_29, .int (nI (k9 + 1))])), (q_29, .inl (cI, (up n9 (k9 + 1)), .inl f_29))]) [1, 2, 3] rfl
      have hDc := hD.sub (ws' := [(fd, .inr (2, [.ref r9, .int (nI (l9 + 4))])), (r9, .inr (1, [.ref q_29, .int (nI (k9 + 1))])), (q_29, .inl (cI, (up n9 (k9 + 1)), .inl f_29))]) [1, 2, 3] (by decide) rfl
      have hFc := va_free (wc := [(fd, .inr (2, [.ref r9, .int (nI (l9 + 4))])), (r9, .inr (1, [.ref q_29, .int (nI (k9 + 1))])), (q_29, .inl (cI, (up n9 (k9 + 1)), .inl f_29))]) hD hS hA [1, 2, 3] rfl
      refine va_callv (va_runV (As := [.int x2]) (rest := []) ⟨hx, hb, hml, hown, hts⟩ (kX2_addFour l D cB cI fd r9 q_29 (l9 + 4) (k9 + 1) (up n9 (k9 + 1)) f_29 x2 (up_cp hc) (up_in (by omega)) (by omega) (by omega) H.size) (cwV 1 hts gX4_feed_X2_addFour rfl rfl rfl (by decide +kernel) ⟨Nat.le_of_ble_eq_true rfl, Nat.le_of_ble_eq_true rfl⟩) ⟨fun a U g mk q => ⟨q.1, q.2.calling⟩, va_recv hK hPc (ci := 2) (q0 := 0) rfl rfl, fun U hU hW => ⟨rfl, bt_M.of hU hW hPc hK hN hDc⟩⟩ rfl rfl hl.1 rfl (lv_room (Nat.le_of_ble_eq_true rfl)) dX4_feed_37 ⟨(show (up n9 (k9 + 1) - n9) + ((up (up n9 (k9 + 1)) ((k9 + 1) + 1)) - (up n9 (k9 + 1))) ≤ (up n9 (k9 + 5) - n9) by omega), (show (3 * (up n9 (k9 + 1) - n9)) + (3 * ((up (up n9 (k9 + 1)) ((k9 + 1) + 1)) - (up n9 (k9 + 1)))) ≤ (3 * (up n9 (k9 + 5) - n9)) by omega)⟩) hS (fun q _ h => hFc q h) hFc (fun u t9 H1 locs ht hvm hw hB hz1 hk1 hS => ?_)
      obtain ⟨q_37, f_37⟩ := u
      obtain ⟨hP1, hD1⟩ := hB
      rw [ht] at hP1
      try dsimp only at hw hP1 hD1
      obtain ⟨hP, hD⟩ := va_join (wr := [(bx, .inr (4, [.ref fd, .ref tx, .ref t, .ref pg, .int (nI al), .int fa]))]) (w1 := [(fd, .inr (2, [.ref r9, .int (nI ((l9 + 4) + 4))])), (r9, .inr (1, [.ref q_37, .int (nI ((k9 + 1) + 1))])), (q_37, .inl (cI, (up (up n9 (k9 + 1)) ((k9 + 1) + 1)), .inl f_37))]) hP hD [1, 2, 3] [0] rfl rfl (by decide) (by decide) hk1 hFc hP1 hD1
      clear hP1 hD1 hPc hDc hFc hk1 hz1 hvm
      generalize H1 = H at hP hS ht ⊢
      have hP : va_P D vwCl [(bx, .inr (4, [.ref fd, .ref tx, .ref t, .ref pg, .int (nI al), .int fa])), (fd, .inr (2, [.ref r9, .int (nI ((l9 + 4) + 4))])), (r9, .inr (1, [.ref q_37, .int (nI ((k9 + 1) + 1))])), (q_37, .inl (cI, (up (up n9 (k9 + 1)) ((k9 + 1) + 1)), .inl f_37))] H := hP
      have hD : va_D A [(bx, .inr (4, [.ref fd, .ref tx, .ref t, .ref pg, .int (nI al), .int fa])), (fd, .inr (2, [.ref r9, .int (nI ((l9 + 4) + 4))])), (r9, .inr (1, [.ref q_37, .int (nI ((k9 + 1) + 1))])), (q_37, .inl (cI, (up (up n9 (k9 + 1)) ((k9 + 1) + 1)), .inl f_37))] := hD
      have hw_37 := hw
      rw [hu1] at hP hD
      have hP : va_P D vwCl [(bx, .inr (4, [.ref fd, .ref tx, .ref t, .ref pg, .int (nI al), .int fa])), (fd, .inr (2, [.ref r9, .int (nI (l9 + 8))])), (r9, .inr (1, [.ref q_37, .int (nI (k9 + 2))])), (q_37, .inl (cI, (up n9 (k9 + 2)), .inl f_37))] H := hP
      have hD : va_D A [(bx, .inr (4, [.ref fd, .ref tx, .ref t, .ref pg, .int (nI al), .int fa])), (fd, .inr (2, [.ref r9, .int (nI (l9 + 8))])), (r9, .inr (1, [.ref q_37, .int (nI (k9 + 2))])), (q_37, .inl (cI, (up n9 (k9 + 2)), .inl f_37))] := hD
      refine W.widen (k := up n9 (k9 + 2) - n9) (n := 3 * (up n9 (k9 + 2) - n9)) (show ((up n9 (k9 + 1) - n9) + ((up (up n9 (k9 + 1)) ((k9 + 1) + 1)) - (up n9 (k9 + 1)))) ≤ _ by omega) (show ((3 * (up n9 (k9 + 1) - n9)) + (3 * ((up (up n9 (k9 + 1)) ((k9 + 1) + 1)) - (up n9 (k9 + 1))))) ≤ _ by omega) ?_
      refine lv_aload_n hx hb dX4_feed_40 rfl (lv_at hl 0 rfl) ?_
      refine va_get (D := D) (ci := 4) (v := .ref fd) (C := RX4) (T := TX4) (N := 6) hx hb hts (by decide +kernel) hown hK hP 0 rfl rfl 0 (by decide) (hts (.fieldLink RX4 12 "BodyText" "fed" "LBodyText$Text;") (by decide +kernel)) (fun _ h9 => h9) rfl dX4_feed_41 ?_
      refine lv_iload_n hx hb dX4_feed_44 rfl (lv_at hl 3 rfl) ?_
      have hu2 : up (up n9 (k9 + 2)) ((k9 + 2) + 1) = up n9 (k9 + 3) := up_up (by omega)
      have hPc := hP.sub (ws' := [(fd, .inr (2, [.ref r9, .int (nI (l9 + 8))])), (r9, .inr (1, [.ref q_37, .int (nI (k9 + 2))])), (q_37, .inl (cI, (up n9 (k9 + 2)), .inl f_37))]) [1, 2, 3] rfl
      have hDc := hD.sub (ws' := [(fd, .inr (2, [.ref r9, .int (nI (l9 + 8))])), (r9, .inr (1, [.ref q_37, .int (nI (k9 + 2))])), (q_37, .inl (cI, (up n9 (k9 + 2)), .inl f_37))]) [1, 2, 3] (by decide) rfl
      have hFc := va_free (wc := [(fd, .inr (2, [.ref r9, .int (nI (l9 + 8))])), (r9, .inr (1, [.ref q_37, .int (nI (k9 + 2))])), (q_37, .inl (cI, (up n9 (k9 + 2)), .inl f_37))]) hD hS hA [1, 2, 3] rfl
      refine va_callv (va_runV (As := [.int x3]) (rest := []) ⟨hx, hb, hml, hown, hts⟩ (kX2_addFour l D cB cI fd r9 q_37 (l9 + 8) (k9 + 2) (up n9 (k9 + 2)) f_37 x3 (up_cp hc) (up_in (by omega)) (by omega) (by omega) H.size) (cwV 1 hts gX4_feed_X2_addFour rfl rfl rfl (by decide +kernel) ⟨Nat.le_of_ble_eq_true rfl, Nat.le_of_ble_eq_true rfl⟩) ⟨fun a U g mk q => ⟨q.1, q.2.calling⟩, va_recv hK hPc (ci := 2) (q0 := 0) rfl rfl, fun U hU hW => ⟨rfl, bt_M.of hU hW hPc hK hN hDc⟩⟩ rfl rfl hl.1 rfl (lv_room (Nat.le_of_ble_eq_true rfl)) dX4_feed_45 ⟨(show (up n9 (k9 + 2) - n9) + ((up (up n9 (k9 + 2)) ((k9 + 2) + 1)) - (up n9 (k9 + 2))) ≤ (up n9 (k9 + 5) - n9) by omega), (show (3 * (up n9 (k9 + 2) - n9)) + (3 * ((up (up n9 (k9 + 2)) ((k9 + 2) + 1)) - (up n9 (k9 + 2)))) ≤ (3 * (up n9 (k9 + 5) - n9)) by omega)⟩) hS (fun q _ h => hFc q h) hFc (fun u t9 H1 locs ht hvm hw hB hz1 hk1 hS => ?_)
      obtain ⟨q_45, f_45⟩ := u
      obtain ⟨hP1, hD1⟩ := hB
      rw [ht] at hP1
      try dsimp only at hw hP1 hD1
      obtain ⟨hP, hD⟩ := va_join (wr := [(bx, .inr (4, [.ref fd, .ref tx, .ref t, .ref pg, .int (nI al), .int fa]))]) (w1 := [(fd, .inr (2, [.ref r9, .int (nI ((l9 + 8) + 4))])), (r9, .inr (1, [.ref q_45, .int (nI ((k9 + 2) + 1))])), (q_45, .inl (cI, (up (up n9 (k9 + 2)) ((k9 + 2) + 1)), .inl f_45))]) hP hD [1, 2, 3] [0] rfl rfl (by decide) (by decide) hk1 hFc hP1 hD1
      clear hP1 hD1 hPc hDc hFc hk1 hz1 hvm
      generalize H1 = H at hP hS ht ⊢
      have hP : va_P D vwCl [(bx, .inr (4, [.ref fd, .ref tx, .ref t, .ref pg, .int (nI al), .int fa])), (fd, .inr (2, [.ref r9, .int (nI ((l9 + 8) + 4))])), (r9, .inr (1, [.ref q_45, .int (nI ((k9 + 2) + 1))])), (q_45, .inl (cI, (up (up n9 (k9 + 2)) ((k9 + 2) + 1)), .inl f_45))] H := hP
      have hD : va_D A [(bx, .inr (4, [.ref fd, .ref tx, .ref t, .ref pg, .int (nI al), .int fa])), (fd, .inr (2, [.ref r9, .int (nI ((l9 + 8) + 4))])), (r9, .inr (1, [.ref q_45, .int (nI ((k9 + 2) + 1))])), (q_45, .inl (cI, (up (up n9 (k9 + 2)) ((k9 + 2) + 1)), .inl f_45))] := hD
      have hw_45 := hw
      rw [hu2] at hP hD
      have hP : va_P D vwCl [(bx, .inr (4, [.ref fd, .ref tx, .ref t, .ref pg, .int (nI al), .int fa])), (fd, .inr (2, [.ref r9, .int (nI (l9 + 12))])), (r9, .inr (1, [.ref q_45, .int (nI (k9 + 3))])), (q_45, .inl (cI, (up n9 (k9 + 3)), .inl f_45))] H := hP
      have hD : va_D A [(bx, .inr (4, [.ref fd, .ref tx, .ref t, .ref pg, .int (nI al), .int fa])), (fd, .inr (2, [.ref r9, .int (nI (l9 + 12))])), (r9, .inr (1, [.ref q_45, .int (nI (k9 + 3))])), (q_45, .inl (cI, (up n9 (k9 + 3)), .inl f_45))] := hD
      refine W.widen (k := up n9 (k9 + 3) - n9) (n := 3 * (up n9 (k9 + 3) - n9)) (show ((up n9 (k9 + 2) - n9) + ((up (up n9 (k9 + 2)) ((k9 + 2) + 1)) - (up n9 (k9 + 2)))) ≤ _ by omega) (show ((3 * (up n9 (k9 + 2) - n9)) + (3 * ((up (up n9 (k9 + 2)) ((k9 + 2) + 1)) - (up n9 (k9 + 2))))) ≤ _ by omega) ?_
      refine lv_aload_n hx hb dX4_feed_48 rfl (lv_at hl 0 rfl) ?_
      refine va_get (D := D) (ci := 4) (v := .ref fd) (C := RX4) (T := TX4) (N := 6) hx hb hts (by decide +kernel) hown hK hP 0 rfl rfl 0 (by decide) (hts (.fieldLink RX4 12 "BodyText" "fed" "LBodyText$Text;") (by decide +kernel)) (fun _ h9 => h9) rfl dX4_feed_49 ?_
      refine lv_iload hx hb dX4_feed_52 (lv_at hl 4 rfl) ?_
      have hu3 : up (up n9 (k9 + 3)) ((k9 + 3) + 1) = up n9 (k9 + 4) := up_up (by omega)
      have hPc := hP.sub (ws' := [(fd, .inr (2, [.ref r9, .int (nI (l9 + 12))])), (r9, .inr (1, [.ref q_45, .int (nI (k9 + 3))])), (q_45, .inl (cI, (up n9 (k9 + 3)), .inl f_45))]) [1, 2, 3] rfl
      have hDc := hD.sub (ws' := [(fd, .inr (2, [.ref r9, .int (nI (l9 + 12))])), (r9, .inr (1, [.ref q_45, .int (nI (k9 + 3))])), (q_45, .inl (cI, (up n9 (k9 + 3)), .inl f_45))]) [1, 2, 3] (by decide) rfl
      have hFc := va_free (wc := [(fd, .inr (2, [.ref r9, .int (nI (l9 + 12))])), (r9, .inr (1, [.ref q_45, .int (nI (k9 + 3))])), (q_45, .inl (cI, (up n9 (k9 + 3)), .inl f_45))]) hD hS hA [1, 2, 3] rfl
      refine va_callv (va_runV (As := [.int x4]) (rest := []) ⟨hx, hb, hml, hown, hts⟩ (kX2_addFour l D cB cI fd r9 q_45 (l9 + 12) (k9 + 3) (up n9 (k9 + 3)) f_45 x4 (up_cp hc) (up_in (by omega)) (by omega) (by omega) H.size) (cwV 1 hts gX4_feed_X2_addFour rfl rfl rfl (by decide +kernel) ⟨Nat.le_of_ble_eq_true rfl, Nat.le_of_ble_eq_true rfl⟩) ⟨fun a U g mk q => ⟨q.1, q.2.calling⟩, va_recv hK hPc (ci := 2) (q0 := 0) rfl rfl, fun U hU hW => ⟨rfl, bt_M.of hU hW hPc hK hN hDc⟩⟩ rfl rfl hl.1 rfl (lv_room (Nat.le_of_ble_eq_true rfl)) dX4_feed_54 ⟨(show (up n9 (k9 + 3) - n9) + ((up (up n9 (k9 + 3)) ((k9 + 3) + 1)) - (up n9 (k9 + 3))) ≤ (up n9 (k9 + 5) - n9) by omega), (show (3 * (up n9 (k9 + 3) - n9)) + (3 * ((up (up n9 (k9 + 3)) ((k9 + 3) + 1)) - (up n9 (k9 + 3)))) ≤ (3 * (up n9 (k9 + 5) - n9)) by omega)⟩) hS (fun q _ h => hFc q h) hFc (fun u t9 H1 locs ht hvm hw hB hz1 hk1 hS => ?_)
      obtain ⟨q_54, f_54⟩ := u
      obtain ⟨hP1, hD1⟩ := hB
      rw [ht] at hP1
      try dsimp only at hw hP1 hD1
      obtain ⟨hP, hD⟩ := va_join (wr := [(bx, .inr (4, [.ref fd, .ref tx, .ref t, .ref pg, .int (nI al), .int fa]))]) (w1 := [(fd, .inr (2, [.ref r9, .int (nI ((l9 + 12) + 4))])), (r9, .inr (1, [.ref q_54, .int (nI ((k9 + 3) + 1))])), (q_54, .inl (cI, (up (up n9 (k9 + 3)) ((k9 + 3) + 1)), .inl f_54))]) hP hD [1, 2, 3] [0] rfl rfl (by decide) (by decide) hk1 hFc hP1 hD1
      clear hP1 hD1 hPc hDc hFc hk1 hz1 hvm
      generalize H1 = H at hP hS ht ⊢
      have hP : va_P D vwCl [(bx, .inr (4, [.ref fd, .ref tx, .ref t, .ref pg, .int (nI al), .int fa])), (fd, .inr (2, [.ref r9, .int (nI ((l9 + 12) + 4))])), (r9, .inr (1, [.ref q_54, .int (nI ((k9 + 3) + 1))])), (q_54, .inl (cI, (up (up n9 (k9 + 3)) ((k9 + 3) + 1)), .inl f_54))] H := hP
      have hD : va_D A [(bx, .inr (4, [.ref fd, .ref tx, .ref t, .ref pg, .int (nI al), .int fa])), (fd, .inr (2, [.ref r9, .int (nI ((l9 + 12) + 4))])), (r9, .inr (1, [.ref q_54, .int (nI ((k9 + 3) + 1))])), (q_54, .inl (cI, (up (up n9 (k9 + 3)) ((k9 + 3) + 1)), .inl f_54))] := hD
      have hw_54 := hw
      rw [hu3] at hP hD
      have hP : va_P D vwCl [(bx, .inr (4, [.ref fd, .ref tx, .ref t, .ref pg, .int (nI al), .int fa])), (fd, .inr (2, [.ref r9, .int (nI (l9 + 16))])), (r9, .inr (1, [.ref q_54, .int (nI (k9 + 4))])), (q_54, .inl (cI, (up n9 (k9 + 4)), .inl f_54))] H := hP
      have hD : va_D A [(bx, .inr (4, [.ref fd, .ref tx, .ref t, .ref pg, .int (nI al), .int fa])), (fd, .inr (2, [.ref r9, .int (nI (l9 + 16))])), (r9, .inr (1, [.ref q_54, .int (nI (k9 + 4))])), (q_54, .inl (cI, (up n9 (k9 + 4)), .inl f_54))] := hD
      refine W.widen (k := up n9 (k9 + 4) - n9) (n := 3 * (up n9 (k9 + 4) - n9)) (show ((up n9 (k9 + 3) - n9) + ((up (up n9 (k9 + 3)) ((k9 + 3) + 1)) - (up n9 (k9 + 3)))) ≤ _ by omega) (show ((3 * (up n9 (k9 + 3) - n9)) + (3 * ((up (up n9 (k9 + 3)) ((k9 + 3) + 1)) - (up n9 (k9 + 3))))) ≤ _ by omega) ?_
      refine lv_aload_n hx hb dX4_feed_57 rfl (lv_at hl 0 rfl) ?_
      refine va_get (D := D) (ci := 4) (v := .ref fd) (C := RX4) (T := TX4) (N := 6) hx hb hts (by decide +kernel) hown hK hP 0 rfl rfl 0 (by decide) (hts (.fieldLink RX4 12 "BodyText" "fed" "LBodyText$Text;") (by decide +kernel)) (fun _ h9 => h9) rfl dX4_feed_58 ?_
      refine lv_iload hx hb dX4_feed_61 (lv_at hl 5 rfl) ?_
      have hu4 : up (up n9 (k9 + 4)) ((k9 + 4) + 1) = up n9 (k9 + 5) := up_up (by omega)
      have hPc := hP.sub (ws' := [(fd, .inr (2, [.ref r9, .int (nI (l9 + 16))])), (r9, .inr (1, [.ref q_54, .int (nI (k9 + 4))])), (q_54, .inl (cI, (up n9 (k9 + 4)), .inl f_54))]) [1, 2, 3] rfl
      have hDc := hD.sub (ws' := [(fd, .inr (2, [.ref r9, .int (nI (l9 + 16))])), (r9, .inr (1, [.ref q_54, .int (nI (k9 + 4))])), (q_54, .inl (cI, (up n9 (k9 + 4)), .inl f_54))]) [1, 2, 3] (by decide) rfl
      have hFc := va_free (wc := [(fd, .inr (2, [.ref r9, .int (nI (l9 + 16))])), (r9, .inr (1, [.ref q_54, .int (nI (k9 + 4))])), (q_54, .inl (cI, (up n9 (k9 + 4)), .inl f_54))]) hD hS hA [1, 2, 3] rfl
      refine va_callv (va_runV (As := [.int x5]) (rest := []) ⟨hx, hb, hml, hown, hts⟩ (kX2_addFour l D cB cI fd r9 q_54 (l9 + 16) (k9 + 4) (up n9 (k9 + 4)) f_54 x5 (up_cp hc) (up_in (by omega)) (by omega) (by omega) H.size) (cwV 1 hts gX4_feed_X2_addFour rfl rfl rfl (by decide +kernel) ⟨Nat.le_of_ble_eq_true rfl, Nat.le_of_ble_eq_true rfl⟩) ⟨fun a U g mk q => ⟨q.1, q.2.calling⟩, va_recv hK hPc (ci := 2) (q0 := 0) rfl rfl, fun U hU hW => ⟨rfl, bt_M.of hU hW hPc hK hN hDc⟩⟩ rfl rfl hl.1 rfl (lv_room (Nat.le_of_ble_eq_true rfl)) dX4_feed_63 ⟨(show (up n9 (k9 + 4) - n9) + ((up (up n9 (k9 + 4)) ((k9 + 4) + 1)) - (up n9 (k9 + 4))) ≤ (up n9 (k9 + 5) - n9) by omega), (show (3 * (up n9 (k9 + 4) - n9)) + (3 * ((up (up n9 (k9 + 4)) ((k9 + 4) + 1)) - (up n9 (k9 + 4)))) ≤ (3 * (up n9 (k9 + 5) - n9)) by omega)⟩) hS (fun q _ h => hFc q h) hFc (fun u t9 H1 locs ht hvm hw hB hz1 hk1 hS => ?_)
      obtain ⟨q_63, f_63⟩ := u
      obtain ⟨hP1, hD1⟩ := hB
      rw [ht] at hP1
      try dsimp only at hw hP1 hD1
      obtain ⟨hP, hD⟩ := va_join (wr := [(bx, .inr (4, [.ref fd, .ref tx, .ref t, .ref pg, .int (nI al), .int fa]))]) (w1 := [(fd, .inr (2, [.ref r9, .int (nI ((l9 + 16) + 4))])), (r9, .inr (1, [.ref q_63, .int (nI ((k9 + 4) + 1))])), (q_63, .inl (cI, (up (up n9 (k9 + 4)) ((k9 + 4) + 1)), .inl f_63))]) hP hD [1, 2, 3] [0] rfl rfl (by decide) (by decide) hk1 hFc hP1 hD1
      clear hP1 hD1 hPc hDc hFc hk1 hz1 hvm
      generalize H1 = H at hP hS ht ⊢
      have hP : va_P D vwCl [(bx, .inr (4, [.ref fd, .ref tx, .ref t, .ref pg, .int (nI al), .int fa])), (fd, .inr (2, [.ref r9, .int (nI ((l9 + 16) + 4))])), (r9, .inr (1, [.ref q_63, .int (nI ((k9 + 4) + 1))])), (q_63, .inl (cI, (up (up n9 (k9 + 4)) ((k9 + 4) + 1)), .inl f_63))] H := hP
      have hD : va_D A [(bx, .inr (4, [.ref fd, .ref tx, .ref t, .ref pg, .int (nI al), .int fa])), (fd, .inr (2, [.ref r9, .int (nI ((l9 + 16) + 4))])), (r9, .inr (1, [.ref q_63, .int (nI ((k9 + 4) + 1))])), (q_63, .inl (cI, (up (up n9 (k9 + 4)) ((k9 + 4) + 1)), .inl f_63))] := hD
      have hw_63 := hw
      rw [hu4] at hP hD
      have hP : va_P D vwCl [(bx, .inr (4, [.ref fd, .ref tx, .ref t, .ref pg, .int (nI al), .int fa])), (fd, .inr (2, [.ref r9, .int (nI (l9 + 20))])), (r9, .inr (1, [.ref q_63, .int (nI (k9 + 5))])), (q_63, .inl (cI, (up n9 (k9 + 5)), .inl f_63))] H := hP
      have hD : va_D A [(bx, .inr (4, [.ref fd, .ref tx, .ref t, .ref pg, .int (nI al), .int fa])), (fd, .inr (2, [.ref r9, .int (nI (l9 + 20))])), (r9, .inr (1, [.ref q_63, .int (nI (k9 + 5))])), (q_63, .inl (cI, (up n9 (k9 + 5)), .inl f_63))] := hD
      refine W.widen (k := up n9 (k9 + 5) - n9) (n := 3 * (up n9 (k9 + 5) - n9)) (show ((up n9 (k9 + 4) - n9) + ((up (up n9 (k9 + 4)) ((k9 + 4) + 1)) - (up n9 (k9 + 4)))) ≤ _ by omega) (show ((3 * (up n9 (k9 + 4) - n9)) + (3 * ((up (up n9 (k9 + 4)) ((k9 + 4) + 1)) - (up n9 (k9 + 4))))) ≤ _ by omega) ?_
      refine lv_aload_n hx hb dX4_feed_66 rfl (lv_at hl 0 rfl) ?_
      refine lv_dup hx hb dX4_feed_67 rfl ?_
      refine va_get (D := D) (ci := 4) (v := .int (nI al)) (C := RX4) (T := TX4) (N := 6) hx hb hts (by decide +kernel) hown hK hP 0 rfl rfl 4 (by decide) (hts (.fieldLink RX4 37 "BodyText" "fedInAll" "I") (by decide +kernel)) (fun _ h9 => h9) rfl dX4_feed_68 ?_
      refine lv_bipush (v := nI 20) hx hb dX4_feed_71 (by decide) ?_
      refine lv_iadd hx hb dX4_feed_73 ?_
      refine bt_topi (y := nI (al + 20)) (nI_add _ _) ?_
      refine va_put (D := D) (ci := 4) (v := .int (nI (al + 20))) (ty := .int) (C := RX4) (T := TX4) (N := 6) hx hb hts (by decide +kernel) tyX4 tyX4_ok nmX4 hown hK hP hD hS 0 rfl rfl 4 (by decide) (hts (.fieldLink RX4 37 "BodyText" "fedInAll" "I") (by decide +kernel)) (fun _ h9 => h9) rfl (by decide +kernel) rfl rfl (Nat.le_of_ble_eq_true rfl) dX4_feed_74 (fun H locs hP hD hS => ?_)
      have hP : va_P D vwCl [(bx, .inr (4, [.ref fd, .ref tx, .ref t, .ref pg, .int (nI (al + 20)), .int fa])), (fd, .inr (2, [.ref r9, .int (nI (l9 + 20))])), (r9, .inr (1, [.ref q_63, .int (nI (k9 + 5))])), (q_63, .inl (cI, (up n9 (k9 + 5)), .inl f_63))] H := hP
      have hD : va_D A [(bx, .inr (4, [.ref fd, .ref tx, .ref t, .ref pg, .int (nI (al + 20)), .int fa])), (fd, .inr (2, [.ref r9, .int (nI (l9 + 20))])), (r9, .inr (1, [.ref q_63, .int (nI (k9 + 5))])), (q_63, .inl (cI, (up n9 (k9 + 5)), .inl f_63))] := hD
      refine lv_aload_n hx hb dX4_feed_77 rfl (lv_at hl 0 rfl) ?_
      refine va_get (D := D) (ci := 4) (v := .ref fd) (C := RX4) (T := TX4) (N := 6) hx hb hts (by decide +kernel) hown hK hP 0 rfl rfl 0 (by decide) (hts (.fieldLink RX4 12 "BodyText" "fed" "LBodyText$Text;") (by decide +kernel)) (fun _ h9 => h9) rfl dX4_feed_78 ?_
      refine va_getN (D := D) (ci := 2) (v := .int (nI (l9 + 20))) (C := RX2) (T := TX2) (N := 2) hx hb hts (by decide +kernel) hown hK hP 1 rfl rfl 1 (by decide) (bt_nf hN (.fieldLinkNest "BodyText" 44 "BodyText$Text" "length" "I" "BodyText") (by decide +kernel)) (fun _ h9 => h9) rfl dX4_feed_81 ?_
      have hP9 := hP.sub (ws' := [(bx, .inr (4, [.ref fd, .ref tx, .ref t, .ref pg, .int (nI (al + 20)), .int fa])), (fd, .inr (2, [.ref r9, .int (nI (l9 + 20))])), (r9, .inr (1, [.ref q_63, .int (nI (k9 + 5))])), (q_63, .inl (cI, (up n9 (k9 + 5)), .inl f_63))]) [0, 1, 2, 3] rfl
      have hD9 := hD.sub (ws' := [(bx, .inr (4, [.ref fd, .ref tx, .ref t, .ref pg, .int (nI (al + 20)), .int fa])), (fd, .inr (2, [.ref r9, .int (nI (l9 + 20))])), (r9, .inr (1, [.ref q_63, .int (nI (k9 + 5))])), (q_63, .inl (cI, (up n9 (k9 + 5)), .inl f_63))]) [0, 1, 2, 3] (by decide) rfl
      refine W.widen (k := (up n9 (k9 + 5) - n9)) (n := (3 * (up n9 (k9 + 5) - n9))) (show (up n9 (k9 + 5) - n9) ≤ (up n9 (k9 + 5) - n9) by omega) (show (3 * (up n9 (k9 + 5) - n9)) ≤ (3 * (up n9 (k9 + 5) - n9)) by omega) ?_
      exact W.iret (v := nI (l9 + 20)) hx hb hr (fun t9 ht hW => ⟨⟨nI (l9 + 20), (q_63, f_63), rfl, ⟨rfl, fun j hj => ((((hw_63.1 j (by omega)).trans (hw_54.1 j (by omega))).trans (hw_45.1 j (by omega))).trans (hw_37.1 j (by omega))).trans (hw_29.1 j hj), (((hw_63.1 k9 (by omega)).trans (hw_54.1 k9 (by omega))).trans (hw_45.1 k9 (by omega))).trans ((hw_37.1 k9 (by omega)).trans hw_29.2), (((hw_63.1 (k9 + 1) (by omega)).trans (hw_54.1 (k9 + 1) (by omega))).trans (hw_45.1 (k9 + 1) (by omega))).trans hw_37.2, ((hw_63.1 (k9 + 2) (by omega)).trans (hw_54.1 (k9 + 2) (by omega))).trans hw_45.2, (hw_63.1 (k9 + 3) (by omega)).trans hw_54.2, hw_63.2⟩, by rw [ht]; exact hP9, hD9⟩, hS.F ht⟩) hS.2.2 dX4_feed_84
    · have c_19 : ¬ (al ≤ 65516) := fun h9 => c_19 ((nI_leI (a := al) (b := 65516) (by omega) (by omega)).mpr h9)
      exfalso; omega
set_option maxHeartbeats 4000000 in
set_option maxRecDepth 100000 in
/-- end(n), n at most what was fed -/
theorem kX4_end_ok (l : Launch) (D : va_G) (cB cI : ClassId) (bx fd tx t pg : Nat) (r0 r9 q0 al len l9 k0 n1 : Nat) (fa : Int32) (hn1 : n1 ≤ l9) (hl9 : l9 ≤ 15980) (sz : Nat) : Met l yX4_end wsX4_end ({ frames := 3, cells := 0, slots := 0, locals := 63 }) (va_Pc [.ref bx, .int (nI n1)] (bt_M D cB cI sz [(bx, .inr (4, [.ref fd, .ref tx, .ref t, .ref pg, .int (nI al), .int fa])), (tx, .inr (2, [.ref r0, .int (nI len)])), (fd, .inr (2, [.ref r9, .int (nI l9)])), (r0, .inr (1, [.ref q0, .int (nI k0)]))])) (va_Qi (S := Unit) (fun r _ => r = nI 1) (fun u t9 => bt_L D (va_A [(bx, .inr (4, [.ref fd, .ref tx, .ref t, .ref pg, .int (nI al), .int fa])), (tx, .inr (2, [.ref r0, .int (nI len)])), (fd, .inr (2, [.ref r9, .int (nI l9)])), (r0, .inr (1, [.ref q0, .int (nI k0)]))] sz) ((fun _ => [(bx, .inr (4, [.ref fd, .ref tx, .ref t, .ref pg, .int (nI al), .int fa])), (tx, .inr (2, [.ref r9, .int (nI n1)])), (fd, .inr (2, [.ref r0, .int (nI 0)])), (r0, .inr (1, [.ref q0, .int (nI 0)]))]) u) t9) (va_A [(bx, .inr (4, [.ref fd, .ref tx, .ref t, .ref pg, .int (nI al), .int fa])), (tx, .inr (2, [.ref r0, .int (nI len)])), (fd, .inr (2, [.ref r9, .int (nI l9)])), (r0, .inr (1, [.ref q0, .int (nI k0)]))] sz)) 0 0 (va_A [(bx, .inr (4, [.ref fd, .ref tx, .ref t, .ref pg, .int (nI al), .int fa])), (tx, .inr (2, [.ref r0, .int (nI len)])), (fd, .inr (2, [.ref r9, .int (nI l9)])), (r0, .inr (1, [.ref q0, .int (nI k0)]))] sz) := by
  refine Met.ofW (cc := cX4_end) (maxL := 2) (ret := (some .boolean)) (by decide) rfl ?_
  intro p e s m args below meth c s₁ B hml hv
  obtain ⟨rfl, hsz, hP, hK, hN, hD0⟩ := hv
  have hx := B.exec
  have hb := B.bytes
  have hr := B.returns
  have hts := atoms_spec (ws := wsX4_end) B.pre
  have hown : s.vm.findClass RX4 = some m.cls := findClass_of_methodNamed B.named
  have hlocks := B.notSynchronized
  subst hsz
  have hD := hD0.self (sz := s.heap.size)
  generalize hAe : va_A [(bx, .inr (4, [.ref fd, .ref tx, .ref t, .ref pg, .int (nI al), .int fa])), (tx, .inr (2, [.ref r0, .int (nI len)])), (fd, .inr (2, [.ref r9, .int (nI l9)])), (r0, .inr (1, [.ref q0, .int (nI k0)]))] s.heap.size = A at hD ⊢
  have hA : ∀ q : Nat, s.heap.size ≤ q → A q := fun q h => by rw [← hAe]; exact Or.inr h
  have hS : va_S A s.heap s.heap [] := va_S.rf
  have hl := lv_entry ([.ref bx, .int (nI n1)]) (n := 2) (Nat.le_of_ble_eq_true rfl)
  rw [lg_entry_eq]
  generalize (lg_sl ([.ref bx, .int (nI n1)]) ++ List.replicate (2 - (lg_sl ([.ref bx, .int (nI n1)])).length) Slot.unset).toArray = ls at hl ⊢
  have hl : lv_has ls 2 [(0, .ref bx), (1, .int (nI n1))] := hl
  refine lv_iload_n hx hb dX4_end_0 rfl (lv_at hl 1 rfl) ?_
  refine lv_if_lt (tgt := 15) hx hb dX4_end_1 (by decide) (fun c_1 => ?_) (fun c_1 => ?_)
  · have c_1 : n1 < 0 := (nI_ltI (a := n1) (b := 0) (by omega) (by omega)).mp c_1
    exfalso; omega
  · have c_1 : ¬ (n1 < 0) := fun h9 => c_1 ((nI_ltI (a := n1) (b := 0) (by omega) (by omega)).mpr h9)
    refine lv_iload_n hx hb dX4_end_4 rfl (lv_at hl 1 rfl) ?_
    refine lv_aload_n hx hb dX4_end_5 rfl (lv_at hl 0 rfl) ?_
    refine va_get (D := D) (ci := 4) (v := .ref fd) (C := RX4) (T := TX4) (N := 6) hx hb hts (by decide +kernel) hown hK hP 0 rfl rfl 0 (by decide) (hts (.fieldLink RX4 12 "BodyText" "fed" "LBodyText$Text;") (by decide +kernel)) (fun _ h9 => h9) rfl dX4_end_6 ?_
    refine va_getN (D := D) (ci := 2) (v := .int (nI l9)) (C := RX2) (T := TX2) (N := 2) hx hb hts (by decide +kernel) hown hK hP 2 rfl rfl 1 (by decide) (bt_nf hN (.fieldLinkNest "BodyText" 44 "BodyText$Text" "length" "I" "BodyText") (by decide +kernel)) (fun _ h9 => h9) rfl dX4_end_9 ?_
    refine lv_icmp_le (tgt := 17) hx hb dX4_end_12 (by decide) (fun c_12 => ?_) (fun c_12 => ?_)
    · have c_12 : n1 ≤ l9 := (nI_leI (a := n1) (b := l9) (by omega) (by omega)).mp c_12
      refine lv_aload_n hx hb dX4_end_17 rfl (lv_at hl 0 rfl) ?_
      refine va_get (D := D) (ci := 4) (v := .ref tx) (C := RX4) (T := TX4) (N := 6) hx hb hts (by decide +kernel) hown hK hP 0 rfl rfl 1 (by decide) (hts (.fieldLink RX4 16 "BodyText" "text" "LBodyText$Text;") (by decide +kernel)) (fun _ h9 => h9) rfl dX4_end_18 ?_
      refine lv_aload_n hx hb dX4_end_21 rfl (lv_at hl 0 rfl) ?_
      refine va_get (D := D) (ci := 4) (v := .ref fd) (C := RX4) (T := TX4) (N := 6) hx hb hts (by decide +kernel) hown hK hP 0 rfl rfl 0 (by decide) (hts (.fieldLink RX4 12 "BodyText" "fed" "LBodyText$Text;") (by decide +kernel)) (fun _ h9 => h9) rfl dX4_end_22 ?_
      refine lv_iload_n hx hb dX4_end_25 rfl (lv_at hl 1 rfl) ?_
      have hPc := hP.sub (ws' := [(tx, .inr (2, [.ref r0, .int (nI len)])), (fd, .inr (2, [.ref r9, .int (nI l9)])), (r0, .inr (1, [.ref q0, .int (nI k0)]))]) [1, 2, 3] rfl
      have hDc := hD.sub (ws' := [(tx, .inr (2, [.ref r0, .int (nI len)])), (fd, .inr (2, [.ref r9, .int (nI l9)])), (r0, .inr (1, [.ref q0, .int (nI k0)]))]) [1, 2, 3] (by decide) rfl
      have hFc := va_free (wc := [(tx, .inr (2, [.ref r0, .int (nI len)])), (fd, .inr (2, [.ref r9, .int (nI l9)])), (r0, .inr (1, [.ref q0, .int (nI k0)]))]) hD hS hA [1, 2, 3] rfl
      refine va_callv (va_runV (As := [.ref fd, .int (nI n1)]) (rest := []) ⟨hx, hb, hml, hown, hts⟩ (kX2_takeOver l D cB cI tx fd r0 r9 q0 len l9 k0 n1 s.heap.size) (cwV 2 hts gX4_end_X2_takeOver rfl rfl rfl (by decide +kernel) ⟨Nat.le_of_ble_eq_true rfl, Nat.le_of_ble_eq_true rfl⟩) ⟨fun a U g mk q => ⟨q.1, q.2.calling⟩, va_recv hK hPc (ci := 2) (q0 := 0) rfl rfl, fun U hU hW => ⟨rfl, bt_M.of hU hW hPc hK hN hDc⟩⟩ rfl rfl hl.1 rfl (lv_room (Nat.le_of_ble_eq_true rfl)) dX4_end_26 ⟨(show 0 + 0 ≤ 0 by omega), (show 0 + 0 ≤ 0 by omega)⟩) hS (fun q _ h => hFc q h) hFc (fun u t9 H1 locs ht hvm hw hB hz1 hk1 hS => ?_)
      obtain ⟨hP1, hD1⟩ := hB
      rw [ht] at hP1
      try dsimp only at hw hP1 hD1
      obtain ⟨hP, hD⟩ := va_join (wr := [(bx, .inr (4, [.ref fd, .ref tx, .ref t, .ref pg, .int (nI al), .int fa]))]) (w1 := [(tx, .inr (2, [.ref r9, .int (nI n1)])), (fd, .inr (2, [.ref r0, .int (nI 0)])), (r0, .inr (1, [.ref q0, .int (nI 0)]))]) hP hD [1, 2, 3] [0] rfl rfl (by decide) (by decide) hk1 hFc hP1 hD1
      clear hP1 hD1 hPc hDc hFc hk1 hz1 hvm
      generalize H1 = H at hP hS ht ⊢
      have hP : va_P D vwCl [(bx, .inr (4, [.ref fd, .ref tx, .ref t, .ref pg, .int (nI al), .int fa])), (tx, .inr (2, [.ref r9, .int (nI n1)])), (fd, .inr (2, [.ref r0, .int (nI 0)])), (r0, .inr (1, [.ref q0, .int (nI 0)]))] H := hP
      have hD : va_D A [(bx, .inr (4, [.ref fd, .ref tx, .ref t, .ref pg, .int (nI al), .int fa])), (tx, .inr (2, [.ref r9, .int (nI n1)])), (fd, .inr (2, [.ref r0, .int (nI 0)])), (r0, .inr (1, [.ref q0, .int (nI 0)]))] := hD
      refine W.widen (k := 0) (n := 0) (Nat.le_refl _) (Nat.le_refl _) ?_
      refine lv_iconst (v := nI 1) hx hb dX4_end_29 (by decide) ?_
      have hP9 := hP.sub (ws' := [(bx, .inr (4, [.ref fd, .ref tx, .ref t, .ref pg, .int (nI al), .int fa])), (tx, .inr (2, [.ref r9, .int (nI n1)])), (fd, .inr (2, [.ref r0, .int (nI 0)])), (r0, .inr (1, [.ref q0, .int (nI 0)]))]) [0, 1, 2, 3] rfl
      have hD9 := hD.sub (ws' := [(bx, .inr (4, [.ref fd, .ref tx, .ref t, .ref pg, .int (nI al), .int fa])), (tx, .inr (2, [.ref r9, .int (nI n1)])), (fd, .inr (2, [.ref r0, .int (nI 0)])), (r0, .inr (1, [.ref q0, .int (nI 0)]))]) [0, 1, 2, 3] (by decide) rfl
      refine W.widen (k := 0) (n := 0) (show 0 ≤ 0 by omega) (show 0 ≤ 0 by omega) ?_
      exact W.zret (v := nI 1) hx hb hr (by decide) (fun t9 ht hW => ⟨⟨nI 1, (), rfl, rfl, by rw [ht]; exact hP9, hD9⟩, hS.F ht⟩) hS.2.2 dX4_end_30
    · have c_12 : ¬ (n1 ≤ l9) := fun h9 => c_12 ((nI_leI (a := n1) (b := l9) (by omega) (by omega)).mpr h9)
      exfalso; omega
set_option maxHeartbeats 4000000 in
set_option maxRecDepth 100000 in
/-- end(n), refused -/
theorem kX4_end_no (l : Launch) (D : va_G) (cB cI : ClassId) (bx fd tx t pg : Nat) (r9 al l9 : Nat) (fa n1 : Int32) (hno : n1 < 0 ∨ ¬ n1 ≤ nI l9) : Met l yX4_end wsX4_end ({ frames := 0, cells := 0, slots := 0, locals := 0 }) (va_Pc [.ref bx, .int n1] (bt_R D cB cI [(bx, .inr (4, [.ref fd, .ref tx, .ref t, .ref pg, .int (nI al), .int fa])), (fd, .inr (2, [.ref r9, .int (nI l9)]))])) (vp_Si (fun r => r = nI 0)) 0 0 (fun _ => False) := by
  refine Met.ofW (cc := cX4_end) (maxL := 2) (ret := (some .boolean)) (by decide) rfl ?_
  intro p e s m args below meth c s₁ B hml hv
  obtain ⟨rfl, hP, hK, hN⟩ := hv
  have hx := B.exec
  have hb := B.bytes
  have hr := B.returns
  have hts := atoms_spec (ws := wsX4_end) B.pre
  have hown : s.vm.findClass RX4 = some m.cls := findClass_of_methodNamed B.named
  have hlocks := B.notSynchronized
  have hl := lv_entry ([.ref bx, .int n1]) (n := 2) (Nat.le_of_ble_eq_true rfl)
  rw [lg_entry_eq]
  generalize (lg_sl ([.ref bx, .int n1]) ++ List.replicate (2 - (lg_sl ([.ref bx, .int n1])).length) Slot.unset).toArray = ls at hl ⊢
  have hl : lv_has ls 2 [(0, .ref bx), (1, .int n1)] := hl
  refine lv_iload_n hx hb dX4_end_0 rfl (lv_at hl 1 rfl) ?_
  refine lv_if_lt (tgt := 15) hx hb dX4_end_1 (by decide) (fun c_1 => ?_) (fun c_1 => ?_)
  · refine lv_iconst (v := nI 0) hx hb dX4_end_15 (by decide) ?_
    exact W.zret (v := nI 0) hx hb hr (by decide) (fun t9 ht hW => ⟨nI 0, rfl, rfl, ht⟩) (fun _ h => by cases h) dX4_end_16
  · refine lv_iload_n hx hb dX4_end_4 rfl (lv_at hl 1 rfl) ?_
    refine lv_aload_n hx hb dX4_end_5 rfl (lv_at hl 0 rfl) ?_
    refine va_get (D := D) (ci := 4) (v := .ref fd) (C := RX4) (T := TX4) (N := 6) hx hb hts (by decide +kernel) hown hK hP 0 rfl rfl 0 (by decide) (hts (.fieldLink RX4 12 "BodyText" "fed" "LBodyText$Text;") (by decide +kernel)) (fun _ h9 => h9) rfl dX4_end_6 ?_
    refine va_getN (D := D) (ci := 2) (v := .int (nI l9)) (C := RX2) (T := TX2) (N := 2) hx hb hts (by decide +kernel) hown hK hP 1 rfl rfl 1 (by decide) (bt_nf hN (.fieldLinkNest "BodyText" 44 "BodyText$Text" "length" "I" "BodyText") (by decide +kernel)) (fun _ h9 => h9) rfl dX4_end_9 ?_
    refine lv_icmp_le (tgt := 17) hx hb dX4_end_12 (by decide) (fun c_12 => ?_) (fun c_12 => ?_)
    · exact absurd (hno.resolve_left c_1) (Classical.not_not.mpr c_12)
    · refine lv_iconst (v := nI 0) hx hb dX4_end_15 (by decide) ?_
      exact W.zret (v := nI 0) hx hb hr (by decide) (fun t9 ht hW => ⟨nI 0, rfl, rfl, ht⟩) (fun _ h => by cases h) dX4_end_16
set_option maxHeartbeats 4000000 in
set_option maxRecDepth 100000 in
/-- faultAt -/
theorem kX4_faultAt (l : Launch) (D : va_G) (cB cI : ClassId) (bx fd tx t pg : Nat) (al : Nat) (fa : Int32) : Met l yX4_faultAt wsX4_faultAt ({ frames := 0, cells := 0, slots := 0, locals := 0 }) (va_Pc [.ref bx] (bt_R D cB cI [(bx, .inr (4, [.ref fd, .ref tx, .ref t, .ref pg, .int (nI al), .int fa]))])) (vp_Si (fun r => r = fa)) 0 0 (fun _ => False) := by
  refine Met.ofW (cc := cX4_faultAt) (maxL := 1) (ret := (some .int)) (by decide) rfl ?_
  intro p e s m args below meth c s₁ B hml hv
  obtain ⟨rfl, hP, hK, hN⟩ := hv
  have hx := B.exec
  have hb := B.bytes
  have hr := B.returns
  have hts := atoms_spec (ws := wsX4_faultAt) B.pre
  have hown : s.vm.findClass RX4 = some m.cls := findClass_of_methodNamed B.named
  have hlocks := B.notSynchronized
  have hl := lv_entry ([.ref bx]) (n := 1) (Nat.le_of_ble_eq_true rfl)
  rw [lg_entry_eq]
  generalize (lg_sl ([.ref bx]) ++ List.replicate (1 - (lg_sl ([.ref bx])).length) Slot.unset).toArray = ls at hl ⊢
  have hl : lv_has ls 1 [(0, .ref bx)] := hl
  refine lv_aload_n hx hb dX4_faultAt_0 rfl (lv_at hl 0 rfl) ?_
  refine va_get (D := D) (ci := 4) (v := .int fa) (C := RX4) (T := TX4) (N := 6) hx hb hts (by decide +kernel) hown hK hP 0 rfl rfl 5 (by decide) (hts (.fieldLink RX4 41 "BodyText" "faultToken" "I") (by decide +kernel)) (fun _ h9 => h9) rfl dX4_faultAt_1 ?_
  exact W.iret (v := fa) hx hb hr (fun t9 ht hW => ⟨fa, rfl, rfl, ht⟩) (fun _ h => by cases h) dX4_faultAt_4
set_option maxHeartbeats 4000000 in
set_option maxRecDepth 100000 in
/-- X4_classAt -/
theorem kX4_classAt (l : Launch) (D : va_G) (cB cI : ClassId) (bx fd tx t pg : Nat) (al : Nat) (fa pa pl : Int32) (R0 R1 R2 R3 R4 R5 : Nat) (q n : Nat) (f : Nat → Int32) (k : Nat) (i : Int32) (hn : n ≤ 16000) (hk : k ≤ n) : Met l yX4_classAt wsX4_classAt ({ frames := 1, cells := 0, slots := 0, locals := 21 }) (va_Pc [.ref bx, .int i] (bt_R D cB cI [(bx, .inr (4, [.ref fd, .ref tx, .ref t, .ref pg, .int (nI al), .int fa])), (pg, .inr (0, [.ref t, .ref R0, .ref R1, .ref R2, .ref R3, .ref R4, .ref R5, .int pa, .int pl])), (R0, .inr (1, [.ref q, .int (nI k)])), (q, .inl (cI, n, .inl f))])) (vp_Si (fun r => r = rw_get f k i)) 0 0 (fun _ => False) := by
  refine Met.ofW (cc := cX4_classAt) (maxL := 2) (ret := (some .int)) (by decide) rfl ?_
  intro p e s m args below meth c s₁ B hml hv
  obtain ⟨rfl, hP, hK, hN⟩ := hv
  have hx := B.exec
  have hb := B.bytes
  have hr := B.returns
  have hts := atoms_spec (ws := wsX4_classAt) B.pre
  have hown : s.vm.findClass RX4 = some m.cls := findClass_of_methodNamed B.named
  have hlocks := B.notSynchronized
  have hl := lv_entry ([.ref bx, .int i]) (n := 2) (Nat.le_of_ble_eq_true rfl)
  rw [lg_entry_eq]
  generalize (lg_sl ([.ref bx, .int i]) ++ List.replicate (2 - (lg_sl ([.ref bx, .int i])).length) Slot.unset).toArray = ls at hl ⊢
  have hl : lv_has ls 2 [(0, .ref bx), (1, .int i)] := hl
  refine lv_aload_n hx hb dX4_classAt_0 rfl (lv_at hl 0 rfl) ?_
  refine va_get (D := D) (ci := 4) (v := .ref pg) (C := RX4) (T := TX4) (N := 6) hx hb hts (by decide +kernel) hown hK hP 0 rfl rfl 3 (by decide) (hts (.fieldLink RX4 33 "BodyText" "program" "LBodyText$Program;") (by decide +kernel)) (fun _ h9 => h9) rfl dX4_classAt_1 ?_
  refine va_getN (D := D) (ci := 0) (v := .ref R0) (C := RX0) (T := TX0) (N := 9) hx hb hts (by decide +kernel) hown hK hP 1 rfl rfl 1 (by decide) (bt_nf hN (.fieldLinkNest "BodyText" 74 "BodyText$Program" "classNames" "LBodyText$Row;" "BodyText") (by decide +kernel)) (fun _ h9 => h9) rfl dX4_classAt_4 ?_
  refine lv_iload_n hx hb dX4_classAt_7 rfl (lv_at hl 1 rfl) ?_
  have hPc := hP.sub (ws' := [(R0, .inr (1, [.ref q, .int (nI k)])), (q, .inl (cI, n, .inl f))]) [2, 3] rfl
  refine vp_callSi (va_runV (As := [.int i]) (rest := []) ⟨hx, hb, hml, hown, hts⟩ (kX1_get l D cB cI R0 q n f k i hn hk) (cwV 1 hts gX4_classAt_X1_get rfl rfl rfl (by decide +kernel) ⟨Nat.le_of_ble_eq_true rfl, Nat.le_of_ble_eq_true rfl⟩) ⟨fun a U g mk q => ⟨q.1, q.2.calling⟩, va_recv hK hPc (ci := 1) (q0 := 0) rfl rfl, fun U hU hW => ⟨rfl, bt_R.of hU hW hPc hK hN⟩⟩ rfl rfl hl.1 rfl (lv_room (Nat.le_of_ble_eq_true rfl)) dX4_classAt_8 ⟨Nat.zero_le _, Nat.zero_le _⟩).run (fun r_8 hr_8 => ?_)
  subst hr_8
  exact W.iret (v := (rw_get f k i)) hx hb hr (fun t9 ht hW => ⟨(rw_get f k i), rfl, rfl, ht⟩) (fun _ h => by cases h) dX4_classAt_11
set_option maxHeartbeats 4000000 in
set_option maxRecDepth 100000 in
/-- X4_member -/
theorem kX4_member (l : Launch) (D : va_G) (cB cI : ClassId) (bx fd tx t pg : Nat) (al : Nat) (fa pa pl : Int32) (R0 R1 R2 R3 R4 R5 : Nat) (q n : Nat) (f : Nat → Int32) (k : Nat) (i : Int32) (hn : n ≤ 16000) (hk : k ≤ n) : Met l yX4_member wsX4_member ({ frames := 1, cells := 0, slots := 0, locals := 21 }) (va_Pc [.ref bx, .int i] (bt_R D cB cI [(bx, .inr (4, [.ref fd, .ref tx, .ref t, .ref pg, .int (nI al), .int fa])), (pg, .inr (0, [.ref t, .ref R0, .ref R1, .ref R2, .ref R3, .ref R4, .ref R5, .int pa, .int pl])), (R1, .inr (1, [.ref q, .int (nI k)])), (q, .inl (cI, n, .inl f))])) (vp_Si (fun r => r = rw_get f k i)) 0 0 (fun _ => False) := by
  refine Met.ofW (cc := cX4_member) (maxL := 2) (ret := (some .int)) (by decide) rfl ?_
  intro p e s m args below meth c s₁ B hml hv
  obtain ⟨rfl, hP, hK, hN⟩ := hv
  have hx := B.exec
  have hb := B.bytes
  have hr := B.returns
  have hts := atoms_spec (ws := wsX4_member) B.pre
  have hown : s.vm.findClass RX4 = some m.cls := findClass_of_methodNamed B.named
  have hlocks := B.notSynchronized
  have hl := lv_entry ([.ref bx, .int i]) (n := 2) (Nat.le_of_ble_eq_true rfl)
  rw [lg_entry_eq]
  generalize (lg_sl ([.ref bx, .int i]) ++ List.replicate (2 - (lg_sl ([.ref bx, .int i])).length) Slot.unset).toArray = ls at hl ⊢
  have hl : lv_has ls 2 [(0, .ref bx), (1, .int i)] := hl
  refine lv_aload_n hx hb dX4_member_0 rfl (lv_at hl 0 rfl) ?_
  refine va_get (D := D) (ci := 4) (v := .ref pg) (C := RX4) (T := TX4) (N := 6) hx hb hts (by decide +kernel) hown hK hP 0 rfl rfl 3 (by decide) (hts (.fieldLink RX4 33 "BodyText" "program" "LBodyText$Program;") (by decide +kernel)) (fun _ h9 => h9) rfl dX4_member_1 ?_
  refine va_getN (D := D) (ci := 0) (v := .ref R1) (C := RX0) (T := TX0) (N := 9) hx hb hts (by decide +kernel) hown hK hP 1 rfl rfl 2 (by decide) (bt_nf hN (.fieldLinkNest "BodyText" 98 "BodyText$Program" "memberKinds" "LBodyText$Row;" "BodyText") (by decide +kernel)) (fun _ h9 => h9) rfl dX4_member_4 ?_
  refine lv_iload_n hx hb dX4_member_7 rfl (lv_at hl 1 rfl) ?_
  have hPc := hP.sub (ws' := [(R1, .inr (1, [.ref q, .int (nI k)])), (q, .inl (cI, n, .inl f))]) [2, 3] rfl
  refine vp_callSi (va_runV (As := [.int i]) (rest := []) ⟨hx, hb, hml, hown, hts⟩ (kX1_get l D cB cI R1 q n f k i hn hk) (cwV 1 hts gX4_member_X1_get rfl rfl rfl (by decide +kernel) ⟨Nat.le_of_ble_eq_true rfl, Nat.le_of_ble_eq_true rfl⟩) ⟨fun a U g mk q => ⟨q.1, q.2.calling⟩, va_recv hK hPc (ci := 1) (q0 := 0) rfl rfl, fun U hU hW => ⟨rfl, bt_R.of hU hW hPc hK hN⟩⟩ rfl rfl hl.1 rfl (lv_room (Nat.le_of_ble_eq_true rfl)) dX4_member_8 ⟨Nat.zero_le _, Nat.zero_le _⟩).run (fun r_8 hr_8 => ?_)
  subst hr_8
  exact W.iret (v := (rw_get f k i)) hx hb hr (fun t9 ht hW => ⟨(rw_get f k i), rfl, rfl, ht⟩) (fun _ h => by cases h) dX4_member_11
set_option maxHeartbeats 4000000 in
set_option maxRecDepth 100000 in
/-- X4_memberAt -/
theorem kX4_memberAt (l : Launch) (D : va_G) (cB cI : ClassId) (bx fd tx t pg : Nat) (al : Nat) (fa pa pl : Int32) (R0 R1 R2 R3 R4 R5 : Nat) (q n : Nat) (f : Nat → Int32) (k : Nat) (i : Int32) (hn : n ≤ 16000) (hk : k ≤ n) : Met l yX4_memberAt wsX4_memberAt ({ frames := 1, cells := 0, slots := 0, locals := 21 }) (va_Pc [.ref bx, .int i] (bt_R D cB cI [(bx, .inr (4, [.ref fd, .ref tx, .ref t, .ref pg, .int (nI al), .int fa])), (pg, .inr (0, [.ref t, .ref R0, .ref R1, .ref R2, .ref R3, .ref R4, .ref R5, .int pa, .int pl])), (R2, .inr (1, [.ref q, .int (nI k)])), (q, .inl (cI, n, .inl f))])) (vp_Si (fun r => r = rw_get f k i)) 0 0 (fun _ => False) := by
  refine Met.ofW (cc := cX4_memberAt) (maxL := 2) (ret := (some .int)) (by decide) rfl ?_
  intro p e s m args below meth c s₁ B hml hv
  obtain ⟨rfl, hP, hK, hN⟩ := hv
  have hx := B.exec
  have hb := B.bytes
  have hr := B.returns
  have hts := atoms_spec (ws := wsX4_memberAt) B.pre
  have hown : s.vm.findClass RX4 = some m.cls := findClass_of_methodNamed B.named
  have hlocks := B.notSynchronized
  have hl := lv_entry ([.ref bx, .int i]) (n := 2) (Nat.le_of_ble_eq_true rfl)
  rw [lg_entry_eq]
  generalize (lg_sl ([.ref bx, .int i]) ++ List.replicate (2 - (lg_sl ([.ref bx, .int i])).length) Slot.unset).toArray = ls at hl ⊢
  have hl : lv_has ls 2 [(0, .ref bx), (1, .int i)] := hl
  refine lv_aload_n hx hb dX4_memberAt_0 rfl (lv_at hl 0 rfl) ?_
  refine va_get (D := D) (ci := 4) (v := .ref pg) (C := RX4) (T := TX4) (N := 6) hx hb hts (by decide +kernel) hown hK hP 0 rfl rfl 3 (by decide) (hts (.fieldLink RX4 33 "BodyText" "program" "LBodyText$Program;") (by decide +kernel)) (fun _ h9 => h9) rfl dX4_memberAt_1 ?_
  refine va_getN (D := D) (ci := 0) (v := .ref R2) (C := RX0) (T := TX0) (N := 9) hx hb hts (by decide +kernel) hown hK hP 1 rfl rfl 3 (by decide) (bt_nf hN (.fieldLinkNest "BodyText" 82 "BodyText$Program" "memberNames" "LBodyText$Row;" "BodyText") (by decide +kernel)) (fun _ h9 => h9) rfl dX4_memberAt_4 ?_
  refine lv_iload_n hx hb dX4_memberAt_7 rfl (lv_at hl 1 rfl) ?_
  have hPc := hP.sub (ws' := [(R2, .inr (1, [.ref q, .int (nI k)])), (q, .inl (cI, n, .inl f))]) [2, 3] rfl
  refine vp_callSi (va_runV (As := [.int i]) (rest := []) ⟨hx, hb, hml, hown, hts⟩ (kX1_get l D cB cI R2 q n f k i hn hk) (cwV 1 hts gX4_memberAt_X1_get rfl rfl rfl (by decide +kernel) ⟨Nat.le_of_ble_eq_true rfl, Nat.le_of_ble_eq_true rfl⟩) ⟨fun a U g mk q => ⟨q.1, q.2.calling⟩, va_recv hK hPc (ci := 1) (q0 := 0) rfl rfl, fun U hU hW => ⟨rfl, bt_R.of hU hW hPc hK hN⟩⟩ rfl rfl hl.1 rfl (lv_room (Nat.le_of_ble_eq_true rfl)) dX4_memberAt_8 ⟨Nat.zero_le _, Nat.zero_le _⟩).run (fun r_8 hr_8 => ?_)
  subst hr_8
  exact W.iret (v := (rw_get f k i)) hx hb hr (fun t9 ht hW => ⟨(rw_get f k i), rfl, rfl, ht⟩) (fun _ h => by cases h) dX4_memberAt_11
set_option maxHeartbeats 4000000 in
set_option maxRecDepth 100000 in
/-- X4_line -/
theorem kX4_line (l : Launch) (D : va_G) (cB cI : ClassId) (bx fd tx t pg : Nat) (al : Nat) (fa pa pl : Int32) (R0 R1 R2 R3 R4 R5 : Nat) (q n : Nat) (f : Nat → Int32) (k : Nat) (i : Int32) (hn : n ≤ 16000) (hk : k ≤ n) : Met l yX4_line wsX4_line ({ frames := 1, cells := 0, slots := 0, locals := 21 }) (va_Pc [.ref bx, .int i] (bt_R D cB cI [(bx, .inr (4, [.ref fd, .ref tx, .ref t, .ref pg, .int (nI al), .int fa])), (pg, .inr (0, [.ref t, .ref R0, .ref R1, .ref R2, .ref R3, .ref R4, .ref R5, .int pa, .int pl])), (R3, .inr (1, [.ref q, .int (nI k)])), (q, .inl (cI, n, .inl f))])) (vp_Si (fun r => r = rw_get f k i)) 0 0 (fun _ => False) := by
  refine Met.ofW (cc := cX4_line) (maxL := 2) (ret := (some .int)) (by decide) rfl ?_
  intro p e s m args below meth c s₁ B hml hv
  obtain ⟨rfl, hP, hK, hN⟩ := hv
  have hx := B.exec
  have hb := B.bytes
  have hr := B.returns
  have hts := atoms_spec (ws := wsX4_line) B.pre
  have hown : s.vm.findClass RX4 = some m.cls := findClass_of_methodNamed B.named
  have hlocks := B.notSynchronized
  have hl := lv_entry ([.ref bx, .int i]) (n := 2) (Nat.le_of_ble_eq_true rfl)
  rw [lg_entry_eq]
  generalize (lg_sl ([.ref bx, .int i]) ++ List.replicate (2 - (lg_sl ([.ref bx, .int i])).length) Slot.unset).toArray = ls at hl ⊢
  have hl : lv_has ls 2 [(0, .ref bx), (1, .int i)] := hl
  refine lv_aload_n hx hb dX4_line_0 rfl (lv_at hl 0 rfl) ?_
  refine va_get (D := D) (ci := 4) (v := .ref pg) (C := RX4) (T := TX4) (N := 6) hx hb hts (by decide +kernel) hown hK hP 0 rfl rfl 3 (by decide) (hts (.fieldLink RX4 33 "BodyText" "program" "LBodyText$Program;") (by decide +kernel)) (fun _ h9 => h9) rfl dX4_line_1 ?_
  refine va_getN (D := D) (ci := 0) (v := .ref R3) (C := RX0) (T := TX0) (N := 9) hx hb hts (by decide +kernel) hown hK hP 1 rfl rfl 4 (by decide) (bt_nf hN (.fieldLinkNest "BodyText" 101 "BodyText$Program" "lineKinds" "LBodyText$Row;" "BodyText") (by decide +kernel)) (fun _ h9 => h9) rfl dX4_line_4 ?_
  refine lv_iload_n hx hb dX4_line_7 rfl (lv_at hl 1 rfl) ?_
  have hPc := hP.sub (ws' := [(R3, .inr (1, [.ref q, .int (nI k)])), (q, .inl (cI, n, .inl f))]) [2, 3] rfl
  refine vp_callSi (va_runV (As := [.int i]) (rest := []) ⟨hx, hb, hml, hown, hts⟩ (kX1_get l D cB cI R3 q n f k i hn hk) (cwV 1 hts gX4_line_X1_get rfl rfl rfl (by decide +kernel) ⟨Nat.le_of_ble_eq_true rfl, Nat.le_of_ble_eq_true rfl⟩) ⟨fun a U g mk q => ⟨q.1, q.2.calling⟩, va_recv hK hPc (ci := 1) (q0 := 0) rfl rfl, fun U hU hW => ⟨rfl, bt_R.of hU hW hPc hK hN⟩⟩ rfl rfl hl.1 rfl (lv_room (Nat.le_of_ble_eq_true rfl)) dX4_line_8 ⟨Nat.zero_le _, Nat.zero_le _⟩).run (fun r_8 hr_8 => ?_)
  subst hr_8
  exact W.iret (v := (rw_get f k i)) hx hb hr (fun t9 ht hW => ⟨(rw_get f k i), rfl, rfl, ht⟩) (fun _ h => by cases h) dX4_line_11
set_option maxHeartbeats 4000000 in
set_option maxRecDepth 100000 in
/-- X4_lineAt -/
theorem kX4_lineAt (l : Launch) (D : va_G) (cB cI : ClassId) (bx fd tx t pg : Nat) (al : Nat) (fa pa pl : Int32) (R0 R1 R2 R3 R4 R5 : Nat) (q n : Nat) (f : Nat → Int32) (k : Nat) (i : Int32) (hn : n ≤ 16000) (hk : k ≤ n) : Met l yX4_lineAt wsX4_lineAt ({ frames := 1, cells := 0, slots := 0, locals := 21 }) (va_Pc [.ref bx, .int i] (bt_R D cB cI [(bx, .inr (4, [.ref fd, .ref tx, .ref t, .ref pg, .int (nI al), .int fa])), (pg, .inr (0, [.ref t, .ref R0, .ref R1, .ref R2, .ref R3, .ref R4, .ref R5, .int pa, .int pl])), (R4, .inr (1, [.ref q, .int (nI k)])), (q, .inl (cI, n, .inl f))])) (vp_Si (fun r => r = rw_get f k i)) 0 0 (fun _ => False) := by
  refine Met.ofW (cc := cX4_lineAt) (maxL := 2) (ret := (some .int)) (by decide) rfl ?_
  intro p e s m args below meth c s₁ B hml hv
  obtain ⟨rfl, hP, hK, hN⟩ := hv
  have hx := B.exec
  have hb := B.bytes
  have hr := B.returns
  have hts := atoms_spec (ws := wsX4_lineAt) B.pre
  have hown : s.vm.findClass RX4 = some m.cls := findClass_of_methodNamed B.named
  have hlocks := B.notSynchronized
  have hl := lv_entry ([.ref bx, .int i]) (n := 2) (Nat.le_of_ble_eq_true rfl)
  rw [lg_entry_eq]
  generalize (lg_sl ([.ref bx, .int i]) ++ List.replicate (2 - (lg_sl ([.ref bx, .int i])).length) Slot.unset).toArray = ls at hl ⊢
  have hl : lv_has ls 2 [(0, .ref bx), (1, .int i)] := hl
  refine lv_aload_n hx hb dX4_lineAt_0 rfl (lv_at hl 0 rfl) ?_
  refine va_get (D := D) (ci := 4) (v := .ref pg) (C := RX4) (T := TX4) (N := 6) hx hb hts (by decide +kernel) hown hK hP 0 rfl rfl 3 (by decide) (hts (.fieldLink RX4 33 "BodyText" "program" "LBodyText$Program;") (by decide +kernel)) (fun _ h9 => h9) rfl dX4_lineAt_1 ?_
  refine va_getN (D := D) (ci := 0) (v := .ref R4) (C := RX0) (T := TX0) (N := 9) hx hb hts (by decide +kernel) hown hK hP 1 rfl rfl 5 (by decide) (bt_nf hN (.fieldLinkNest "BodyText" 85 "BodyText$Program" "lineStarts" "LBodyText$Row;" "BodyText") (by decide +kernel)) (fun _ h9 => h9) rfl dX4_lineAt_4 ?_
  refine lv_iload_n hx hb dX4_lineAt_7 rfl (lv_at hl 1 rfl) ?_
  have hPc := hP.sub (ws' := [(R4, .inr (1, [.ref q, .int (nI k)])), (q, .inl (cI, n, .inl f))]) [2, 3] rfl
  refine vp_callSi (va_runV (As := [.int i]) (rest := []) ⟨hx, hb, hml, hown, hts⟩ (kX1_get l D cB cI R4 q n f k i hn hk) (cwV 1 hts gX4_lineAt_X1_get rfl rfl rfl (by decide +kernel) ⟨Nat.le_of_ble_eq_true rfl, Nat.le_of_ble_eq_true rfl⟩) ⟨fun a U g mk q => ⟨q.1, q.2.calling⟩, va_recv hK hPc (ci := 1) (q0 := 0) rfl rfl, fun U hU hW => ⟨rfl, bt_R.of hU hW hPc hK hN⟩⟩ rfl rfl hl.1 rfl (lv_room (Nat.le_of_ble_eq_true rfl)) dX4_lineAt_8 ⟨Nat.zero_le _, Nat.zero_le _⟩).run (fun r_8 hr_8 => ?_)
  subst hr_8
  exact W.iret (v := (rw_get f k i)) hx hb hr (fun t9 ht hW => ⟨(rw_get f k i), rfl, rfl, ht⟩) (fun _ h => by cases h) dX4_lineAt_11
set_option maxHeartbeats 4000000 in
set_option maxRecDepth 100000 in
/-- X4_instruction -/
theorem kX4_instruction (l : Launch) (D : va_G) (cB cI : ClassId) (bx fd tx t pg : Nat) (al : Nat) (fa pa pl : Int32) (R0 R1 R2 R3 R4 R5 : Nat) (q n : Nat) (f : Nat → Int32) (k : Nat) (i : Int32) (hn : n ≤ 16000) (hk : k ≤ n) : Met l yX4_instruction wsX4_instruction ({ frames := 1, cells := 0, slots := 0, locals := 21 }) (va_Pc [.ref bx, .int i] (bt_R D cB cI [(bx, .inr (4, [.ref fd, .ref tx, .ref t, .ref pg, .int (nI al), .int fa])), (pg, .inr (0, [.ref t, .ref R0, .ref R1, .ref R2, .ref R3, .ref R4, .ref R5, .int pa, .int pl])), (R5, .inr (1, [.ref q, .int (nI k)])), (q, .inl (cI, n, .inl f))])) (vp_Si (fun r => r = rw_get f k i)) 0 0 (fun _ => False) := by
  refine Met.ofW (cc := cX4_instruction) (maxL := 2) (ret := (some .int)) (by decide) rfl ?_
  intro p e s m args below meth c s₁ B hml hv
  obtain ⟨rfl, hP, hK, hN⟩ := hv
  have hx := B.exec
  have hb := B.bytes
  have hr := B.returns
  have hts := atoms_spec (ws := wsX4_instruction) B.pre
  have hown : s.vm.findClass RX4 = some m.cls := findClass_of_methodNamed B.named
  have hlocks := B.notSynchronized
  have hl := lv_entry ([.ref bx, .int i]) (n := 2) (Nat.le_of_ble_eq_true rfl)
  rw [lg_entry_eq]
  generalize (lg_sl ([.ref bx, .int i]) ++ List.replicate (2 - (lg_sl ([.ref bx, .int i])).length) Slot.unset).toArray = ls at hl ⊢
  have hl : lv_has ls 2 [(0, .ref bx), (1, .int i)] := hl
  refine lv_aload_n hx hb dX4_instruction_0 rfl (lv_at hl 0 rfl) ?_
  refine va_get (D := D) (ci := 4) (v := .ref pg) (C := RX4) (T := TX4) (N := 6) hx hb hts (by decide +kernel) hown hK hP 0 rfl rfl 3 (by decide) (hts (.fieldLink RX4 33 "BodyText" "program" "LBodyText$Program;") (by decide +kernel)) (fun _ h9 => h9) rfl dX4_instruction_1 ?_
  refine va_getN (D := D) (ci := 0) (v := .ref R5) (C := RX0) (T := TX0) (N := 9) hx hb hts (by decide +kernel) hown hK hP 1 rfl rfl 6 (by decide) (bt_nf hN (.fieldLinkNest "BodyText" 104 "BodyText$Program" "lineInstructions" "LBodyText$Row;" "BodyText") (by decide +kernel)) (fun _ h9 => h9) rfl dX4_instruction_4 ?_
  refine lv_iload_n hx hb dX4_instruction_7 rfl (lv_at hl 1 rfl) ?_
  have hPc := hP.sub (ws' := [(R5, .inr (1, [.ref q, .int (nI k)])), (q, .inl (cI, n, .inl f))]) [2, 3] rfl
  refine vp_callSi (va_runV (As := [.int i]) (rest := []) ⟨hx, hb, hml, hown, hts⟩ (kX1_get l D cB cI R5 q n f k i hn hk) (cwV 1 hts gX4_instruction_X1_get rfl rfl rfl (by decide +kernel) ⟨Nat.le_of_ble_eq_true rfl, Nat.le_of_ble_eq_true rfl⟩) ⟨fun a U g mk q => ⟨q.1, q.2.calling⟩, va_recv hK hPc (ci := 1) (q0 := 0) rfl rfl, fun U hU hW => ⟨rfl, bt_R.of hU hW hPc hK hN⟩⟩ rfl rfl hl.1 rfl (lv_room (Nat.le_of_ble_eq_true rfl)) dX4_instruction_8 ⟨Nat.zero_le _, Nat.zero_le _⟩).run (fun r_8 hr_8 => ?_)
  subst hr_8
  exact W.iret (v := (rw_get f k i)) hx hb hr (fun t9 ht hW => ⟨(rw_get f k i), rfl, rfl, ht⟩) (fun _ h => by cases h) dX4_instruction_11
set_option maxHeartbeats 4000000 in
set_option maxRecDepth 100000 in
/-- token -/
theorem kX4_token_e (l : Launch) (D : va_G) (cB cI : ClassId) (bx fd tx t pg : Nat) (al : Nat) (fa wd : Int32) (r1 r2 r3 r4 : Nat) (q n : Nat) (f : Nat → Int32) (k : Nat) (i : Int32) (hn : n ≤ 16000) (hk : k ≤ n) : Met l yX4_token wsX4_token ({ frames := 1, cells := 0, slots := 0, locals := 21 }) (va_Pc [.ref bx, .int i, .int (nI 1)] (bt_R D cB cI [(bx, .inr (4, [.ref fd, .ref tx, .ref t, .ref pg, .int (nI al), .int fa])), (t, .inr (3, [.ref tx, .ref r1, .ref r2, .ref r3, .ref r4, .int wd])), (r2, .inr (1, [.ref q, .int (nI k)])), (q, .inl (cI, n, .inl f))])) (vp_Si (fun r => r = rw_get f k i)) 0 0 (fun _ => False) := by
  refine Met.ofW (cc := cX4_token) (maxL := 3) (ret := (some .int)) (by decide) rfl ?_
  intro p e s m args below meth c s₁ B hml hv
  obtain ⟨rfl, hP, hK, hN⟩ := hv
  have hx := B.exec
  have hb := B.bytes
  have hr := B.returns
  have hts := atoms_spec (ws := wsX4_token) B.pre
  have hown : s.vm.findClass RX4 = some m.cls := findClass_of_methodNamed B.named
  have hlocks := B.notSynchronized
  have hl := lv_entry ([.ref bx, .int i, .int (nI 1)]) (n := 3) (Nat.le_of_ble_eq_true rfl)
  rw [lg_entry_eq]
  generalize (lg_sl ([.ref bx, .int i, .int (nI 1)]) ++ List.replicate (3 - (lg_sl ([.ref bx, .int i, .int (nI 1)])).length) Slot.unset).toArray = ls at hl ⊢
  have hl : lv_has ls 3 [(0, .ref bx), (1, .int i), (2, .int (nI 1))] := hl
  refine lv_iload_n hx hb dX4_token_0 rfl (lv_at hl 2 rfl) ?_
  refine lv_if_eq (tgt := 18) hx hb dX4_token_1 (by decide) (fun c_1 => ?_) (fun c_1 => ?_)
  · exact absurd c_1 (by decide)
  · clear c_1
    refine lv_aload_n hx hb dX4_token_4 rfl (lv_at hl 0 rfl) ?_
    refine va_get (D := D) (ci := 4) (v := .ref t) (C := RX4) (T := TX4) (N := 6) hx hb hts (by decide +kernel) hown hK hP 0 rfl rfl 2 (by decide) (hts (.fieldLink RX4 24 "BodyText" "tokens" "LBodyText$Tokens;") (by decide +kernel)) (fun _ h9 => h9) rfl dX4_token_5 ?_
    refine va_getN (D := D) (ci := 3) (v := .ref r2) (C := RX3) (T := TX3) (N := 6) hx hb hts (by decide +kernel) hown hK hP 1 rfl rfl 2 (by decide) (bt_nf hN (.fieldLinkNest "BodyText" 88 "BodyText$Tokens" "ends" "LBodyText$Row;" "BodyText") (by decide +kernel)) (fun _ h9 => h9) rfl dX4_token_8 ?_
    refine lv_iload_n hx hb dX4_token_11 rfl (lv_at hl 1 rfl) ?_
    have hPc := hP.sub (ws' := [(r2, .inr (1, [.ref q, .int (nI k)])), (q, .inl (cI, n, .inl f))]) [2, 3] rfl
    refine vp_callSi (va_runV (As := [.int i]) (rest := []) ⟨hx, hb, hml, hown, hts⟩ (kX1_get l D cB cI r2 q n f k i hn hk) (cwV 1 hts gX4_token_X1_get rfl rfl rfl (by decide +kernel) ⟨Nat.le_of_ble_eq_true rfl, Nat.le_of_ble_eq_true rfl⟩) ⟨fun a U g mk q => ⟨q.1, q.2.calling⟩, va_recv hK hPc (ci := 1) (q0 := 0) rfl rfl, fun U hU hW => ⟨rfl, bt_R.of hU hW hPc hK hN⟩⟩ rfl rfl hl.1 rfl (lv_room (Nat.le_of_ble_eq_true rfl)) dX4_token_12 ⟨Nat.zero_le _, Nat.zero_le _⟩).run (fun r_12 hr_12 => ?_)
    subst hr_12
    refine lv_goto (tgt := 29) hx hb dX4_token_15 (by decide) ?_
    exact W.iret (v := (rw_get f k i)) hx hb hr (fun t9 ht hW => ⟨(rw_get f k i), rfl, rfl, ht⟩) (fun _ h => by cases h) dX4_token_29
set_option maxHeartbeats 4000000 in
set_option maxRecDepth 100000 in
/-- token -/
theorem kX4_token_b (l : Launch) (D : va_G) (cB cI : ClassId) (bx fd tx t pg : Nat) (al : Nat) (fa wd : Int32) (r1 r2 r3 r4 : Nat) (q n : Nat) (f : Nat → Int32) (k : Nat) (i : Int32) (hn : n ≤ 16000) (hk : k ≤ n) : Met l yX4_token wsX4_token ({ frames := 1, cells := 0, slots := 0, locals := 21 }) (va_Pc [.ref bx, .int i, .int (nI 0)] (bt_R D cB cI [(bx, .inr (4, [.ref fd, .ref tx, .ref t, .ref pg, .int (nI al), .int fa])), (t, .inr (3, [.ref tx, .ref r1, .ref r2, .ref r3, .ref r4, .int wd])), (r1, .inr (1, [.ref q, .int (nI k)])), (q, .inl (cI, n, .inl f))])) (vp_Si (fun r => r = rw_get f k i)) 0 0 (fun _ => False) := by
  refine Met.ofW (cc := cX4_token) (maxL := 3) (ret := (some .int)) (by decide) rfl ?_
  intro p e s m args below meth c s₁ B hml hv
  obtain ⟨rfl, hP, hK, hN⟩ := hv
  have hx := B.exec
  have hb := B.bytes
  have hr := B.returns
  have hts := atoms_spec (ws := wsX4_token) B.pre
  have hown : s.vm.findClass RX4 = some m.cls := findClass_of_methodNamed B.named
  have hlocks := B.notSynchronized
  have hl := lv_entry ([.ref bx, .int i, .int (nI 0)]) (n := 3) (Nat.le_of_ble_eq_true rfl)
  rw [lg_entry_eq]
  generalize (lg_sl ([.ref bx, .int i, .int (nI 0)]) ++ List.replicate (3 - (lg_sl ([.ref bx, .int i, .int (nI 0)])).length) Slot.unset).toArray = ls at hl ⊢
  have hl : lv_has ls 3 [(0, .ref bx), (1, .int i), (2, .int (nI 0))] := hl
  refine lv_iload_n hx hb dX4_token_0 rfl (lv_at hl 2 rfl) ?_
  refine lv_if_eq (tgt := 18) hx hb dX4_token_1 (by decide) (fun c_1 => ?_) (fun c_1 => ?_)
  · clear c_1
    refine lv_aload_n hx hb dX4_token_18 rfl (lv_at hl 0 rfl) ?_
    refine va_get (D := D) (ci := 4) (v := .ref t) (C := RX4) (T := TX4) (N := 6) hx hb hts (by decide +kernel) hown hK hP 0 rfl rfl 2 (by decide) (hts (.fieldLink RX4 24 "BodyText" "tokens" "LBodyText$Tokens;") (by decide +kernel)) (fun _ h9 => h9) rfl dX4_token_19 ?_
    refine va_getN (D := D) (ci := 3) (v := .ref r1) (C := RX3) (T := TX3) (N := 6) hx hb hts (by decide +kernel) hown hK hP 1 rfl rfl 1 (by decide) (bt_nf hN (.fieldLinkNest "BodyText" 95 "BodyText$Tokens" "starts" "LBodyText$Row;" "BodyText") (by decide +kernel)) (fun _ h9 => h9) rfl dX4_token_22 ?_
    refine lv_iload_n hx hb dX4_token_25 rfl (lv_at hl 1 rfl) ?_
    have hPc := hP.sub (ws' := [(r1, .inr (1, [.ref q, .int (nI k)])), (q, .inl (cI, n, .inl f))]) [2, 3] rfl
    refine vp_callSi (va_runV (As := [.int i]) (rest := []) ⟨hx, hb, hml, hown, hts⟩ (kX1_get l D cB cI r1 q n f k i hn hk) (cwV 1 hts gX4_token_X1_get rfl rfl rfl (by decide +kernel) ⟨Nat.le_of_ble_eq_true rfl, Nat.le_of_ble_eq_true rfl⟩) ⟨fun a U g mk q => ⟨q.1, q.2.calling⟩, va_recv hK hPc (ci := 1) (q0 := 0) rfl rfl, fun U hU hW => ⟨rfl, bt_R.of hU hW hPc hK hN⟩⟩ rfl rfl hl.1 rfl (lv_room (Nat.le_of_ble_eq_true rfl)) dX4_token_26 ⟨Nat.zero_le _, Nat.zero_le _⟩).run (fun r_26 hr_26 => ?_)
    subst hr_26
    exact W.iret (v := (rw_get f k i)) hx hb hr (fun t9 ht hW => ⟨(rw_get f k i), rfl, rfl, ht⟩) (fun _ h => by cases h) dX4_token_29
  · exact absurd (by decide) c_1
set_option maxHeartbeats 4000000 in
set_option maxRecDepth 100000 in
/-- size(0) -/
theorem kX4_size_0 (l : Launch) (D : va_G) (cB cI : ClassId) (bx fd tx t pg : Nat) (al : Nat) (fa wd : Int32) (r1 r2 r3 r4 q k : Nat) : Met l yX4_size wsX4_size ({ frames := 1, cells := 0, slots := 0, locals := 20 }) (va_Pc [.ref bx, .int (nI 0)] (bt_R D cB cI [(bx, .inr (4, [.ref fd, .ref tx, .ref t, .ref pg, .int (nI al), .int fa])), (t, .inr (3, [.ref tx, .ref r1, .ref r2, .ref r3, .ref r4, .int wd])), (r1, .inr (1, [.ref q, .int (nI k)]))])) (vp_Si (fun r => r = nI k)) 0 0 (fun _ => False) := by
  refine Met.ofW (cc := cX4_size) (maxL := 2) (ret := (some .int)) (by decide) rfl ?_
  intro p e s m args below meth c s₁ B hml hv
  obtain ⟨rfl, hP, hK, hN⟩ := hv
  have hx := B.exec
  have hb := B.bytes
  have hr := B.returns
  have hts := atoms_spec (ws := wsX4_size) B.pre
  have hown : s.vm.findClass RX4 = some m.cls := findClass_of_methodNamed B.named
  have hlocks := B.notSynchronized
  have hl := lv_entry ([.ref bx, .int (nI 0)]) (n := 2) (Nat.le_of_ble_eq_true rfl)
  rw [lg_entry_eq]
  generalize (lg_sl ([.ref bx, .int (nI 0)]) ++ List.replicate (2 - (lg_sl ([.ref bx, .int (nI 0)])).length) Slot.unset).toArray = ls at hl ⊢
  have hl : lv_has ls 2 [(0, .ref bx), (1, .int (nI 0))] := hl
  refine lv_iload_n hx hb dX4_size_0 rfl (lv_at hl 1 rfl) ?_
  refine lv_tableIn (off := 31) (tgt := 32) hx hb dX4_size_1 (by decide) (by decide) (by decide) (by decide) ?_
  refine lv_aload_n hx hb dX4_size_32 rfl (lv_at hl 0 rfl) ?_
  refine va_get (D := D) (ci := 4) (v := .ref t) (C := RX4) (T := TX4) (N := 6) hx hb hts (by decide +kernel) hown hK hP 0 rfl rfl 2 (by decide) (hts (.fieldLink RX4 24 "BodyText" "tokens" "LBodyText$Tokens;") (by decide +kernel)) (fun _ h9 => h9) rfl dX4_size_33 ?_
  have hPc := hP.sub (ws' := [(t, .inr (3, [.ref tx, .ref r1, .ref r2, .ref r3, .ref r4, .int wd])), (r1, .inr (1, [.ref q, .int (nI k)]))]) [1, 2] rfl
  refine vp_callSi (va_runV (As := []) (rest := []) ⟨hx, hb, hml, hown, hts⟩ (kX3_count l D cB cI t tx r1 r2 r3 r4 wd (fun _ => q) 0 k (fun _ _ => 0)) (cwV 0 hts gX4_size_X3_count rfl rfl rfl (by decide +kernel) ⟨Nat.le_of_ble_eq_true rfl, Nat.le_of_ble_eq_true rfl⟩) ⟨fun a U g mk q => ⟨q.1, q.2.calling⟩, va_recv hK hPc (ci := 3) (q0 := 0) rfl rfl, fun U hU hW => ⟨rfl, bt_R.of hU hW hPc hK hN⟩⟩ rfl rfl hl.1 rfl (lv_room (Nat.le_of_ble_eq_true rfl)) dX4_size_36 ⟨Nat.zero_le _, Nat.zero_le _⟩).run (fun r_36 hr_36 => ?_)
  subst hr_36
  exact W.iret (v := nI k) hx hb hr (fun t9 ht hW => ⟨nI k, rfl, rfl, ht⟩) (fun _ h => by cases h) dX4_size_39
set_option maxHeartbeats 4000000 in
set_option maxRecDepth 100000 in
/-- size(1) -/
theorem kX4_size_1 (l : Launch) (D : va_G) (cB cI : ClassId) (bx fd tx t pg : Nat) (al : Nat) (fa pa pl : Int32) (R0 R1 R2 R3 R4 R5 q k : Nat) : Met l yX4_size wsX4_size ({ frames := 0, cells := 0, slots := 0, locals := 0 }) (va_Pc [.ref bx, .int (nI 1)] (bt_R D cB cI [(bx, .inr (4, [.ref fd, .ref tx, .ref t, .ref pg, .int (nI al), .int fa])), (pg, .inr (0, [.ref t, .ref R0, .ref R1, .ref R2, .ref R3, .ref R4, .ref R5, .int pa, .int pl])), (R0, .inr (1, [.ref q, .int (nI k)]))])) (vp_Si (fun r => r = nI k)) 0 0 (fun _ => False) := by
  refine Met.ofW (cc := cX4_size) (maxL := 2) (ret := (some .int)) (by decide) rfl ?_
  intro p e s m args below meth c s₁ B hml hv
  obtain ⟨rfl, hP, hK, hN⟩ := hv
  have hx := B.exec
  have hb := B.bytes
  have hr := B.returns
  have hts := atoms_spec (ws := wsX4_size) B.pre
  have hown : s.vm.findClass RX4 = some m.cls := findClass_of_methodNamed B.named
  have hlocks := B.notSynchronized
  have hl := lv_entry ([.ref bx, .int (nI 1)]) (n := 2) (Nat.le_of_ble_eq_true rfl)
  rw [lg_entry_eq]
  generalize (lg_sl ([.ref bx, .int (nI 1)]) ++ List.replicate (2 - (lg_sl ([.ref bx, .int (nI 1)])).length) Slot.unset).toArray = ls at hl ⊢
  have hl : lv_has ls 2 [(0, .ref bx), (1, .int (nI 1))] := hl
  refine lv_iload_n hx hb dX4_size_0 rfl (lv_at hl 1 rfl) ?_
  refine lv_tableIn (off := 39) (tgt := 40) hx hb dX4_size_1 (by decide) (by decide) (by decide) (by decide) ?_
  refine lv_aload_n hx hb dX4_size_40 rfl (lv_at hl 0 rfl) ?_
  refine va_get (D := D) (ci := 4) (v := .ref pg) (C := RX4) (T := TX4) (N := 6) hx hb hts (by decide +kernel) hown hK hP 0 rfl rfl 3 (by decide) (hts (.fieldLink RX4 33 "BodyText" "program" "LBodyText$Program;") (by decide +kernel)) (fun _ h9 => h9) rfl dX4_size_41 ?_
  refine va_getN (D := D) (ci := 0) (v := .ref R0) (C := RX0) (T := TX0) (N := 9) hx hb hts (by decide +kernel) hown hK hP 1 rfl rfl 1 (by decide) (bt_nf hN (.fieldLinkNest "BodyText" 74 "BodyText$Program" "classNames" "LBodyText$Row;" "BodyText") (by decide +kernel)) (fun _ h9 => h9) rfl dX4_size_44 ?_
  refine va_getN (D := D) (ci := 1) (v := .int (nI k)) (C := RX1) (T := TX1) (N := 2) hx hb hts (by decide +kernel) hown hK hP 2 rfl rfl 1 (by decide) (bt_nf hN (.fieldLinkNest "BodyText" 78 "BodyText$Row" "count" "I" "BodyText") (by decide +kernel)) (fun _ h9 => h9) rfl dX4_size_47 ?_
  exact W.iret (v := nI k) hx hb hr (fun t9 ht hW => ⟨nI k, rfl, rfl, ht⟩) (fun _ h => by cases h) dX4_size_50
set_option maxHeartbeats 4000000 in
set_option maxRecDepth 100000 in
/-- size(2) -/
theorem kX4_size_2 (l : Launch) (D : va_G) (cB cI : ClassId) (bx fd tx t pg : Nat) (al : Nat) (fa pa pl : Int32) (R0 R1 R2 R3 R4 R5 q k : Nat) : Met l yX4_size wsX4_size ({ frames := 0, cells := 0, slots := 0, locals := 0 }) (va_Pc [.ref bx, .int (nI 2)] (bt_R D cB cI [(bx, .inr (4, [.ref fd, .ref tx, .ref t, .ref pg, .int (nI al), .int fa])), (pg, .inr (0, [.ref t, .ref R0, .ref R1, .ref R2, .ref R3, .ref R4, .ref R5, .int pa, .int pl])), (R2, .inr (1, [.ref q, .int (nI k)]))])) (vp_Si (fun r => r = nI k)) 0 0 (fun _ => False) := by
  refine Met.ofW (cc := cX4_size) (maxL := 2) (ret := (some .int)) (by decide) rfl ?_
  intro p e s m args below meth c s₁ B hml hv
  obtain ⟨rfl, hP, hK, hN⟩ := hv
  have hx := B.exec
  have hb := B.bytes
  have hr := B.returns
  have hts := atoms_spec (ws := wsX4_size) B.pre
  have hown : s.vm.findClass RX4 = some m.cls := findClass_of_methodNamed B.named
  have hlocks := B.notSynchronized
  have hl := lv_entry ([.ref bx, .int (nI 2)]) (n := 2) (Nat.le_of_ble_eq_true rfl)
  rw [lg_entry_eq]
  generalize (lg_sl ([.ref bx, .int (nI 2)]) ++ List.replicate (2 - (lg_sl ([.ref bx, .int (nI 2)])).length) Slot.unset).toArray = ls at hl ⊢
  have hl : lv_has ls 2 [(0, .ref bx), (1, .int (nI 2))] := hl
  refine lv_iload_n hx hb dX4_size_0 rfl (lv_at hl 1 rfl) ?_
  refine lv_tableIn (off := 50) (tgt := 51) hx hb dX4_size_1 (by decide) (by decide) (by decide) (by decide) ?_
  refine lv_aload_n hx hb dX4_size_51 rfl (lv_at hl 0 rfl) ?_
  refine va_get (D := D) (ci := 4) (v := .ref pg) (C := RX4) (T := TX4) (N := 6) hx hb hts (by decide +kernel) hown hK hP 0 rfl rfl 3 (by decide) (hts (.fieldLink RX4 33 "BodyText" "program" "LBodyText$Program;") (by decide +kernel)) (fun _ h9 => h9) rfl dX4_size_52 ?_
  refine va_getN (D := D) (ci := 0) (v := .ref R2) (C := RX0) (T := TX0) (N := 9) hx hb hts (by decide +kernel) hown hK hP 1 rfl rfl 3 (by decide) (bt_nf hN (.fieldLinkNest "BodyText" 82 "BodyText$Program" "memberNames" "LBodyText$Row;" "BodyText") (by decide +kernel)) (fun _ h9 => h9) rfl dX4_size_55 ?_
  refine va_getN (D := D) (ci := 1) (v := .int (nI k)) (C := RX1) (T := TX1) (N := 2) hx hb hts (by decide +kernel) hown hK hP 2 rfl rfl 1 (by decide) (bt_nf hN (.fieldLinkNest "BodyText" 78 "BodyText$Row" "count" "I" "BodyText") (by decide +kernel)) (fun _ h9 => h9) rfl dX4_size_58 ?_
  exact W.iret (v := nI k) hx hb hr (fun t9 ht hW => ⟨nI k, rfl, rfl, ht⟩) (fun _ h => by cases h) dX4_size_61
set_option maxHeartbeats 4000000 in
set_option maxRecDepth 100000 in
/-- size(3) -/
theorem kX4_size_3 (l : Launch) (D : va_G) (cB cI : ClassId) (bx fd tx t pg : Nat) (al : Nat) (fa pa pl : Int32) (R0 R1 R2 R3 R4 R5 q k : Nat) : Met l yX4_size wsX4_size ({ frames := 0, cells := 0, slots := 0, locals := 0 }) (va_Pc [.ref bx, .int (nI 3)] (bt_R D cB cI [(bx, .inr (4, [.ref fd, .ref tx, .ref t, .ref pg, .int (nI al), .int fa])), (pg, .inr (0, [.ref t, .ref R0, .ref R1, .ref R2, .ref R3, .ref R4, .ref R5, .int pa, .int pl])), (R4, .inr (1, [.ref q, .int (nI k)]))])) (vp_Si (fun r => r = nI k)) 0 0 (fun _ => False) := by
  refine Met.ofW (cc := cX4_size) (maxL := 2) (ret := (some .int)) (by decide) rfl ?_
  intro p e s m args below meth c s₁ B hml hv
  obtain ⟨rfl, hP, hK, hN⟩ := hv
  have hx := B.exec
  have hb := B.bytes
  have hr := B.returns
  have hts := atoms_spec (ws := wsX4_size) B.pre
  have hown : s.vm.findClass RX4 = some m.cls := findClass_of_methodNamed B.named
  have hlocks := B.notSynchronized
  have hl := lv_entry ([.ref bx, .int (nI 3)]) (n := 2) (Nat.le_of_ble_eq_true rfl)
  rw [lg_entry_eq]
  generalize (lg_sl ([.ref bx, .int (nI 3)]) ++ List.replicate (2 - (lg_sl ([.ref bx, .int (nI 3)])).length) Slot.unset).toArray = ls at hl ⊢
  have hl : lv_has ls 2 [(0, .ref bx), (1, .int (nI 3))] := hl
  refine lv_iload_n hx hb dX4_size_0 rfl (lv_at hl 1 rfl) ?_
  refine lv_tableIn (off := 61) (tgt := 62) hx hb dX4_size_1 (by decide) (by decide) (by decide) (by decide) ?_
  refine lv_aload_n hx hb dX4_size_62 rfl (lv_at hl 0 rfl) ?_
  refine va_get (D := D) (ci := 4) (v := .ref pg) (C := RX4) (T := TX4) (N := 6) hx hb hts (by decide +kernel) hown hK hP 0 rfl rfl 3 (by decide) (hts (.fieldLink RX4 33 "BodyText" "program" "LBodyText$Program;") (by decide +kernel)) (fun _ h9 => h9) rfl dX4_size_63 ?_
  refine va_getN (D := D) (ci := 0) (v := .ref R4) (C := RX0) (T := TX0) (N := 9) hx hb hts (by decide +kernel) hown hK hP 1 rfl rfl 5 (by decide) (bt_nf hN (.fieldLinkNest "BodyText" 85 "BodyText$Program" "lineStarts" "LBodyText$Row;" "BodyText") (by decide +kernel)) (fun _ h9 => h9) rfl dX4_size_66 ?_
  refine va_getN (D := D) (ci := 1) (v := .int (nI k)) (C := RX1) (T := TX1) (N := 2) hx hb hts (by decide +kernel) hown hK hP 2 rfl rfl 1 (by decide) (bt_nf hN (.fieldLinkNest "BodyText" 78 "BodyText$Row" "count" "I" "BodyText") (by decide +kernel)) (fun _ h9 => h9) rfl dX4_size_69 ?_
  exact W.iret (v := nI k) hx hb hr (fun t9 ht hW => ⟨nI k, rfl, rfl, ht⟩) (fun _ h => by cases h) dX4_size_72
set_option maxHeartbeats 4000000 in
set_option maxRecDepth 100000 in
/-- size of another number -/
theorem kX4_size_n (l : Launch) (D : va_G) (cB cI : ClassId) (bx : Nat) (x : Int32) (hout : x.toInt < 0 ∨ 3 < x.toInt) : Met l yX4_size wsX4_size ({ frames := 0, cells := 0, slots := 0, locals := 0 }) (va_Pc [.ref bx, .int x] (fun _ => True)) (vp_Si (fun r => r = -1)) 0 0 (fun _ => False) := by
  refine Met.ofW (cc := cX4_size) (maxL := 2) (ret := (some .int)) (by decide) rfl ?_
  intro p e s m args below meth c s₁ B hml hv
  obtain ⟨rfl, -⟩ := hv
  have hx := B.exec
  have hb := B.bytes
  have hr := B.returns
  have hts := atoms_spec (ws := wsX4_size) B.pre
  have hown : s.vm.findClass RX4 = some m.cls := findClass_of_methodNamed B.named
  have hlocks := B.notSynchronized
  have hl := lv_entry ([.ref bx, .int x]) (n := 2) (Nat.le_of_ble_eq_true rfl)
  rw [lg_entry_eq]
  generalize (lg_sl ([.ref bx, .int x]) ++ List.replicate (2 - (lg_sl ([.ref bx, .int x])).length) Slot.unset).toArray = ls at hl ⊢
  have hl : lv_has ls 2 [(0, .ref bx), (1, .int x)] := hl
  refine lv_iload_n hx hb dX4_size_0 rfl (lv_at hl 1 rfl) ?_
  refine lv_tableOut (tgt := 73) hx hb dX4_size_1 hout (by decide) ?_
  refine lv_iconst (v := -1) hx hb dX4_size_73 (by decide) ?_
  exact W.iret (v := (-1)) hx hb hr (fun t9 ht hW => ⟨(-1), rfl, rfl, ht⟩) (fun _ h => by cases h) dX4_size_74
