/-- what the reference's token rows hold -/
def rwR (ts : List (Nat × Nat)) (gf go : Nat → Int32) : Prop := ∀ j p, ts[j]? = some p → gf j = nI p.1 ∧ go j = nI p.2
theorem rwR_add {ts : List (Nat × Nat)} {gf go : Nat → Int32} {x y : Nat} (h : rwR ts gf go) : rwR (ts ++ [(x, y)]) (upd gf ts.length (nI x)) (upd go ts.length (nI y)) := by
  intro j p hp
  rcases at_add hp with ⟨q, e⟩ | ⟨q, e⟩
  · rw [pk_un (by omega), pk_un (by omega)]; exact h j p e
  · rw [q, e, pk_us, pk_us]; exact ⟨rfl, rfl⟩
theorem rwR_end {ts : List (Nat × Nat)} {gf go : Nat → Int32} {x y z : Nat} (h : rwR (ts ++ [(x, y)]) gf go) : rwR (ts ++ [(x, z)]) gf (upd go ts.length (nI z)) := by
  intro j p hp
  rcases at_add hp with ⟨q, e⟩ | ⟨q, e⟩
  · rw [pk_un (by omega)]
    exact h j p (by rw [List.getElem?_append_left q]; exact e)
  · rw [q, e, pk_us]
    exact ⟨(h ts.length (x, y) (by simp)).1, rfl⟩
theorem cl_len (ts : List (Nat × Nat)) (w : Option Nat) (i : Nat) : (closeT ts w i).length = ts.length + opn w := by
  cases w with
  | none => rfl
  | some b => simp [closeT, opn]
def isS : Option Nat → Bool
  | none => false
  | some _ => true
set_option maxHeartbeats 4000000 in
set_option maxRecDepth 100000 in
/-- cut -/
theorem kX5_cut (l : Launch) (D : va_G) (cB cI : ClassId) (mo : Nat) (Z : Nat → Nat) (v : Nat → Int32) (tk0 len : Nat) (gt gf go : Nat → Int32) (BB : Nat → Nat) (htx : ∀ i, i < len → (BB i < 128 → gt i = nI (BB i)) ∧ (128 ≤ BB i → gt i < 0)) (hl16 : len < 16000) (sz : Nat) : Met l yX5_cut wsX5_cut ({ frames := 0, cells := 0, slots := 0, locals := 0 }) (va_Pc [.ref mo] (bt_M D cB cI sz [(mo, .inr (5, [.ref (Z 0), .int (v 0), .int (v 1), .ref (Z 1), .int (nI len), .ref (Z 2), .ref (Z 3), .int (nI tk0), .int (v 3), .int (v 4), .ref (Z 4), .ref (Z 5), .ref (Z 6), .ref (Z 7), .ref (Z 8), .int (v 5), .int (v 6), .int (v 7)])), ((Z 1), .inl (cB, 16000, .inl gt)), ((Z 2), .inl (cI, 16002, .inl gf)), ((Z 3), .inl (cI, 16002, .inl go))])) (va_Qi (S := (Nat → Int32) × (Nat → Int32)) (fun r u => r = Bt (cutI BB len = len) ∧ rwR (cutD BB len) u.1 u.2) (fun u t9 => bt_L D (va_A [(mo, .inr (5, [.ref (Z 0), .int (v 0), .int (v 1), .ref (Z 1), .int (nI len), .ref (Z 2), .ref (Z 3), .int (nI tk0), .int (v 3), .int (v 4), .ref (Z 4), .ref (Z 5), .ref (Z 6), .ref (Z 7), .ref (Z 8), .int (v 5), .int (v 6), .int (v 7)])), ((Z 1), .inl (cB, 16000, .inl gt)), ((Z 2), .inl (cI, 16002, .inl gf)), ((Z 3), .inl (cI, 16002, .inl go))] sz) ((fun u => [(mo, .inr (5, [.ref (Z 0), .int (v 0), .int (v 1), .ref (Z 1), .int (nI len), .ref (Z 2), .ref (Z 3), .int (nI ((cutD BB len).length)), .int (v 3), .int (v 4), .ref (Z 4), .ref (Z 5), .ref (Z 6), .ref (Z 7), .ref (Z 8), .int (v 5), .int (v 6), .int (v 7)])), ((Z 1), .inl (cB, 16000, .inl gt)), ((Z 2), .inl (cI, 16002, .inl u.1)), ((Z 3), .inl (cI, 16002, .inl u.2))]) u) t9) (va_A [(mo, .inr (5, [.ref (Z 0), .int (v 0), .int (v 1), .ref (Z 1), .int (nI len), .ref (Z 2), .ref (Z 3), .int (nI tk0), .int (v 3), .int (v 4), .ref (Z 4), .ref (Z 5), .ref (Z 6), .ref (Z 7), .ref (Z 8), .int (v 5), .int (v 6), .int (v 7)])), ((Z 1), .inl (cB, 16000, .inl gt)), ((Z 2), .inl (cI, 16002, .inl gf)), ((Z 3), .inl (cI, 16002, .inl go))] sz)) 0 0 (va_A [(mo, .inr (5, [.ref (Z 0), .int (v 0), .int (v 1), .ref (Z 1), .int (nI len), .ref (Z 2), .ref (Z 3), .int (nI tk0), .int (v 3), .int (v 4), .ref (Z 4), .ref (Z 5), .ref (Z 6), .ref (Z 7), .ref (Z 8), .int (v 5), .int (v 6), .int (v 7)])), ((Z 1), .inl (cB, 16000, .inl gt)), ((Z 2), .inl (cI, 16002, .inl gf)), ((Z 3), .inl (cI, 16002, .inl go))] sz) := by
  refine Met.ofW (cc := cX5_cut) (maxL := 7) (ret := (some .boolean)) (by decide) rfl ?_
  intro p e s m args below meth c s₁ B hml hv
  obtain ⟨rfl, hsz, hP, hK, hN, hD0⟩ := hv
  have hx := B.exec
  have hb := B.bytes
  have hr := B.returns
  have hts := atoms_spec (ws := wsX5_cut) B.pre
  have hown : s.vm.findClass RX5 = some m.cls := findClass_of_methodNamed B.named
  have hlocks := B.notSynchronized
  subst hsz
  have hD := hD0.self (sz := s.heap.size)
  generalize hAe : va_A [(mo, .inr (5, [.ref (Z 0), .int (v 0), .int (v 1), .ref (Z 1), .int (nI len), .ref (Z 2), .ref (Z 3), .int (nI tk0), .int (v 3), .int (v 4), .ref (Z 4), .ref (Z 5), .ref (Z 6), .ref (Z 7), .ref (Z 8), .int (v 5), .int (v 6), .int (v 7)])), ((Z 1), .inl (cB, 16000, .inl gt)), ((Z 2), .inl (cI, 16002, .inl gf)), ((Z 3), .inl (cI, 16002, .inl go))] s.heap.size = A at hD ⊢
  have hA : ∀ q : Nat, s.heap.size ≤ q → A q := fun q h => by rw [← hAe]; exact Or.inr h
  have hS : va_S A s.heap s.heap [] := va_S.rf
  have hl := lv_entry ([.ref mo]) (n := 7) (Nat.le_of_ble_eq_true rfl)
  rw [lg_entry_eq]
  generalize (lg_sl ([.ref mo]) ++ List.replicate (7 - (lg_sl ([.ref mo])).length) Slot.unset).toArray = ls at hl ⊢
  have hl : lv_has ls 7 [(0, .ref mo)] := hl
  refine bt_genQ (fun Qp hQ => ?_)
  refine lv_aload_n hx hb dX5_cut_0 rfl (lv_at hl 0 rfl) ?_
  refine lv_iconst (v := nI 0) hx hb dX5_cut_1 (by decide) ?_
  refine va_put (D := D) (ci := 5) (v := .int (nI 0)) (ty := .int) (C := RX5) (T := TX5) (N := 18) hx hb hts (by decide +kernel) tyX5 tyX5_ok nmX5 hown hK hP hD hS 0 rfl rfl 7 (by decide) (hts (.fieldLink RX5 56 "BodyTextModel" "tokens" "I") (by decide +kernel)) (fun _ h9 => h9) rfl (by decide +kernel) rfl rfl (Nat.le_of_ble_eq_true rfl) dX5_cut_2 (fun H locs hP hD hS => ?_)
  have hP : va_P D vwCl [(mo, .inr (5, [.ref (Z 0), .int (v 0), .int (v 1), .ref (Z 1), .int (nI len), .ref (Z 2), .ref (Z 3), .int (nI 0), .int (v 3), .int (v 4), .ref (Z 4), .ref (Z 5), .ref (Z 6), .ref (Z 7), .ref (Z 8), .int (v 5), .int (v 6), .int (v 7)])), ((Z 1), .inl (cB, 16000, .inl gt)), ((Z 2), .inl (cI, 16002, .inl gf)), ((Z 3), .inl (cI, 16002, .inl go))] H := hP
  have hD : va_D A [(mo, .inr (5, [.ref (Z 0), .int (v 0), .int (v 1), .ref (Z 1), .int (nI len), .ref (Z 2), .ref (Z 3), .int (nI 0), .int (v 3), .int (v 4), .ref (Z 4), .ref (Z 5), .ref (Z 6), .ref (Z 7), .ref (Z 8), .int (v 5), .int (v 6), .int (v 7)])), ((Z 1), .inl (cB, 16000, .inl gt)), ((Z 2), .inl (cI, 16002, .inl gf)), ((Z 3), .inl (cI, 16002, .inl go))] := hD
  refine lv_iconst (v := nI 0) hx hb dX5_cut_5 (by decide) ?_
  refine lv_istore_n (lv' := [(1, .int (nI 0)), (0, .ref mo)]) hx hb dX5_cut_6 rfl hl (by decide) rfl (fun ls hl => ?_)
  refine lv_iconst (v := nI 0) hx hb dX5_cut_7 (by decide) ?_
  refine lv_istore_n (lv' := [(2, .int (nI 0)), (1, .int (nI 0)), (0, .ref mo)]) hx hb dX5_cut_8 rfl hl (by decide) rfl (fun ls hl => ?_)
  refine lv_iconst (v := nI 0) hx hb dX5_cut_9 (by decide) ?_
  refine lv_istore_n (lv' := [(3, .int (nI 0)), (2, .int (nI 0)), (1, .int (nI 0)), (0, .ref mo)]) hx hb dX5_cut_10 rfl hl (by decide) rfl (fun ls hl => ?_)
  have hP := hP.sub (ws' := [(mo, .inr (5, [.ref (Z 0), .int (v 0), .int (v 1), .ref (Z 1), .int (nI len), .ref (Z 2), .ref (Z 3), .int (nI 0), .int (v 3), .int (v 4), .ref (Z 4), .ref (Z 5), .ref (Z 6), .ref (Z 7), .ref (Z 8), .int (v 5), .int (v 6), .int (v 7)])), ((Z 1), .inl (cB, 16000, .inl gt)), ((Z 2), .inl (cI, 16002, .inl gf)), ((Z 3), .inl (cI, 16002, .inl go))]) [0, 1, 2, 3] rfl
  have hD := hD.sub (ws' := [(mo, .inr (5, [.ref (Z 0), .int (v 0), .int (v 1), .ref (Z 1), .int (nI len), .ref (Z 2), .ref (Z 3), .int (nI 0), .int (v 3), .int (v 4), .ref (Z 4), .ref (Z 5), .ref (Z 6), .ref (Z 7), .ref (Z 8), .int (v 5), .int (v 6), .int (v 7)])), ((Z 1), .inl (cB, 16000, .inl gt)), ((Z 2), .inl (cI, 16002, .inl gf)), ((Z 3), .inl (cI, 16002, .inl go))]) [0, 1, 2, 3] (by decide) rfl
  have hP : va_P D vwCl [(mo, .inr (5, [.ref (Z 0), .int (v 0), .int (v 1), .ref (Z 1), .int (nI len), .ref (Z 2), .ref (Z 3), .int (nI ((closeT ([] : List (Nat × Nat)) none 0).length)), .int (v 3), .int (v 4), .ref (Z 4), .ref (Z 5), .ref (Z 6), .ref (Z 7), .ref (Z 8), .int (v 5), .int (v 6), .int (v 7)])), ((Z 1), .inl (cB, 16000, .inl gt)), ((Z 2), .inl (cI, 16002, .inl gf)), ((Z 3), .inl (cI, 16002, .inl go))] H := hP
  have hD : va_D A [(mo, .inr (5, [.ref (Z 0), .int (v 0), .int (v 1), .ref (Z 1), .int (nI len), .ref (Z 2), .ref (Z 3), .int (nI ((closeT ([] : List (Nat × Nat)) none 0).length)), .int (v 3), .int (v 4), .ref (Z 4), .ref (Z 5), .ref (Z 6), .ref (Z 7), .ref (Z 8), .int (v 5), .int (v 6), .int (v 7)])), ((Z 1), .inl (cB, 16000, .inl gt)), ((Z 2), .inl (cI, 16002, .inl gf)), ((Z 3), .inl (cI, 16002, .inl go))] := hD
  have loop_11 : ∀ (fu i : Nat) (ts : List (Nat × Nat)) (w : Option Nat) (r : Bool) (gf go : Nat → Int32) (H : Heap) (locs : List Loc), (len + 1 ≤ i + fu) → (i ≤ len) → (∀ j, j < i → alP (BB j)) → (scanT BB i = (ts, w, r)) → (ts.length + opn w ≤ i) → (rwR (closeT ts w i) gf go) → (va_P D vwCl [(mo, .inr (5, [.ref (Z 0), .int (v 0), .int (v 1), .ref (Z 1), .int (nI len), .ref (Z 2), .ref (Z 3), .int (nI ((closeT ts w i).length)), .int (v 3), .int (v 4), .ref (Z 4), .ref (Z 5), .ref (Z 6), .ref (Z 7), .ref (Z 8), .int (v 5), .int (v 6), .int (v 7)])), ((Z 1), .inl (cB, 16000, .inl gt)), ((Z 2), .inl (cI, 16002, .inl gf)), ((Z 3), .inl (cI, 16002, .inl go))] H) → (va_D A [(mo, .inr (5, [.ref (Z 0), .int (v 0), .int (v 1), .ref (Z 1), .int (nI len), .ref (Z 2), .ref (Z 3), .int (nI ((closeT ts w i).length)), .int (v 3), .int (v 4), .ref (Z 4), .ref (Z 5), .ref (Z 6), .ref (Z 7), .ref (Z 8), .int (v 5), .int (v 6), .int (v 7)])), ((Z 1), .inl (cB, 16000, .inl gt)), ((Z 2), .inl (cI, 16002, .inl gf)), ((Z 3), .inl (cI, 16002, .inl go))]) → (va_S A s.heap H locs) → ∀ (ls : Array Slot), lv_has ls 7 [(0, .ref mo), (1, .int (bI (isS w))), (2, .int (bI r)), (3, .int (nI i))] → W p l e ({ frames := 0, cells := 0, slots := 0, locals := 0 } : Room) s m ([.ref mo] : List Value).toArray below meth c H locs 0 0 Qp (F0 m 11 ls []) := by
    intro fu
    induction fu with
    | zero => intro i ts w r gf go H locs hm hi2 hal hsc hDl hrw hP hD hS ls hl; exfalso; omega
    | succ fu ih =>
      intro i ts w r gf go H locs hm hi2 hal hsc hDl hrw hP hD hS ls hl
      rcases w with _ | b0
      · simp only [opn] at hDl
        have hrw : rwR ts gf go := hrw
        have hP : va_P D vwCl [(mo, .inr (5, [.ref (Z 0), .int (v 0), .int (v 1), .ref (Z 1), .int (nI len), .ref (Z 2), .ref (Z 3), .int (nI ts.length), .int (v 3), .int (v 4), .ref (Z 4), .ref (Z 5), .ref (Z 6), .ref (Z 7), .ref (Z 8), .int (v 5), .int (v 6), .int (v 7)])), ((Z 1), .inl (cB, 16000, .inl gt)), ((Z 2), .inl (cI, 16002, .inl gf)), ((Z 3), .inl (cI, 16002, .inl go))] H := by exact hP
        have hD : va_D A [(mo, .inr (5, [.ref (Z 0), .int (v 0), .int (v 1), .ref (Z 1), .int (nI len), .ref (Z 2), .ref (Z 3), .int (nI ts.length), .int (v 3), .int (v 4), .ref (Z 4), .ref (Z 5), .ref (Z 6), .ref (Z 7), .ref (Z 8), .int (v 5), .int (v 6), .int (v 7)])), ((Z 1), .inl (cB, 16000, .inl gt)), ((Z 2), .inl (cI, 16002, .inl gf)), ((Z 3), .inl (cI, 16002, .inl go))] := by exact hD
        have hl : lv_has ls 7 [(0, .ref mo), (1, .int (nI 0)), (2, .int (bI r)), (3, .int (nI i))] := hl
        refine lv_iload_n hx hb dX5_cut_11 rfl (lv_at hl 3 rfl) ?_
        refine lv_aload_n hx hb dX5_cut_12 rfl (lv_at hl 0 rfl) ?_
        refine va_get (D := D) (ci := 5) (v := .int (nI len)) (C := RX5) (T := TX5) (N := 18) hx hb hts (by decide +kernel) hown hK hP 0 rfl rfl 4 (by decide) (hts (.fieldLink RX5 53 "BodyTextModel" "textLength" "I") (by decide +kernel)) (fun _ h9 => h9) rfl dX5_cut_13 ?_
        refine lv_icmp_ge (tgt := 246) hx hb dX5_cut_16 (by decide) (fun c_16 => ?_) (fun c_16 => ?_)
        · have c_16 : len ≤ i := (nI_leI (a := len) (b := i) (by omega) (by omega)).mp c_16
          refine lv_iconst (v := nI 1) hx hb dX5_cut_246 (by decide) ?_
          have hci : cutI BB len = i := (by rw [show i = len by omega] at hal ⊢; exact cutI_end hal)
          have hcd : cutD BB len = ts := cutD_at hsc hci
          have hP := hP.sub (ws' := [(mo, .inr (5, [.ref (Z 0), .int (v 0), .int (v 1), .ref (Z 1), .int (nI len), .ref (Z 2), .ref (Z 3), .int (nI ts.length), .int (v 3), .int (v 4), .ref (Z 4), .ref (Z 5), .ref (Z 6), .ref (Z 7), .ref (Z 8), .int (v 5), .int (v 6), .int (v 7)])), ((Z 1), .inl (cB, 16000, .inl gt)), ((Z 2), .inl (cI, 16002, .inl gf)), ((Z 3), .inl (cI, 16002, .inl go))]) [0, 1, 2, 3] rfl
          have hD := hD.sub (ws' := [(mo, .inr (5, [.ref (Z 0), .int (v 0), .int (v 1), .ref (Z 1), .int (nI len), .ref (Z 2), .ref (Z 3), .int (nI ts.length), .int (v 3), .int (v 4), .ref (Z 4), .ref (Z 5), .ref (Z 6), .ref (Z 7), .ref (Z 8), .int (v 5), .int (v 6), .int (v 7)])), ((Z 1), .inl (cB, 16000, .inl gt)), ((Z 2), .inl (cI, 16002, .inl gf)), ((Z 3), .inl (cI, 16002, .inl go))]) [0, 1, 2, 3] (by decide) rfl
          have hP : va_P D vwCl [(mo, .inr (5, [.ref (Z 0), .int (v 0), .int (v 1), .ref (Z 1), .int (nI len), .ref (Z 2), .ref (Z 3), .int (nI ((cutD BB len).length)), .int (v 3), .int (v 4), .ref (Z 4), .ref (Z 5), .ref (Z 6), .ref (Z 7), .ref (Z 8), .int (v 5), .int (v 6), .int (v 7)])), ((Z 1), .inl (cB, 16000, .inl gt)), ((Z 2), .inl (cI, 16002, .inl gf)), ((Z 3), .inl (cI, 16002, .inl go))] H := by rw [hcd]; exact hP
          have hD : va_D A [(mo, .inr (5, [.ref (Z 0), .int (v 0), .int (v 1), .ref (Z 1), .int (nI len), .ref (Z 2), .ref (Z 3), .int (nI ((cutD BB len).length)), .int (v 3), .int (v 4), .ref (Z 4), .ref (Z 5), .ref (Z 6), .ref (Z 7), .ref (Z 8), .int (v 5), .int (v 6), .int (v 7)])), ((Z 1), .inl (cB, 16000, .inl gt)), ((Z 2), .inl (cI, 16002, .inl gf)), ((Z 3), .inl (cI, 16002, .inl go))] := by rw [hcd]; exact hD
          rw [hQ]
          have hP9 := hP.sub (ws' := [(mo, .inr (5, [.ref (Z 0), .int (v 0), .int (v 1), .ref (Z 1), .int (nI len), .ref (Z 2), .ref (Z 3), .int (nI ((cutD BB len).length)), .int (v 3), .int (v 4), .ref (Z 4), .ref (Z 5), .ref (Z 6), .ref (Z 7), .ref (Z 8), .int (v 5), .int (v 6), .int (v 7)])), ((Z 1), .inl (cB, 16000, .inl gt)), ((Z 2), .inl (cI, 16002, .inl gf)), ((Z 3), .inl (cI, 16002, .inl go))]) [0, 1, 2, 3] rfl
          have hD9 := hD.sub (ws' := [(mo, .inr (5, [.ref (Z 0), .int (v 0), .int (v 1), .ref (Z 1), .int (nI len), .ref (Z 2), .ref (Z 3), .int (nI ((cutD BB len).length)), .int (v 3), .int (v 4), .ref (Z 4), .ref (Z 5), .ref (Z 6), .ref (Z 7), .ref (Z 8), .int (v 5), .int (v 6), .int (v 7)])), ((Z 1), .inl (cB, 16000, .inl gt)), ((Z 2), .inl (cI, 16002, .inl gf)), ((Z 3), .inl (cI, 16002, .inl go))]) [0, 1, 2, 3] (by decide) rfl
          refine W.widen (k := 0) (n := 0) (show 0 ≤ 0 by omega) (show 0 ≤ 0 by omega) ?_
          exact W.zret (v := nI 1) hx hb hr (by decide) (fun t9 ht hW => ⟨⟨nI 1, (gf, go), rfl, ⟨(Bt_t (by rw [hci]; omega)).symm, by rw [hcd]; exact hrw⟩, by rw [ht]; exact hP9, hD9⟩, hS.F ht⟩) hS.2.2 dX5_cut_247
        · have c_16 : ¬ (len ≤ i) := fun h9 => c_16 ((nI_leI (a := len) (b := i) (by omega) (by omega)).mpr h9)
          refine lv_aload_n hx hb dX5_cut_19 rfl (lv_at hl 0 rfl) ?_
          refine va_get (D := D) (ci := 5) (v := .ref (Z 1)) (C := RX5) (T := TX5) (N := 18) hx hb hts (by decide +kernel) hown hK hP 0 rfl rfl 3 (by decide) (hts (.fieldLink RX5 13 "BodyTextModel" "text" "[B") (by decide +kernel)) (fun _ h9 => h9) rfl dX5_cut_20 ?_
          refine lv_iload_n hx hb dX5_cut_23 rfl (lv_at hl 3 rfl) ?_
          refine va_bald hx hb hK hP 1 0 rfl rfl (vp_in_nI (by omega) (by omega)) dX5_cut_24 ?_
          rw [nI_clamp (by omega)]
          rcases Nat.lt_or_ge (BB i) 128 with h128 | h128
          · have hgt := (htx i (by omega)).1 h128
            refine bt_topi (y := nI (BB i)) hgt ?_
            refine lv_istore (lv' := [(4, .int (nI (BB i))), (0, .ref mo), (1, .int (nI 0)), (2, .int (bI r)), (3, .int (nI i))]) hx hb dX5_cut_25 hl (by decide) rfl (fun ls hl => ?_)
            have j_64 : (alP (BB i)) → ∀ (ls : Array Slot), lv_has ls 7 [(0, .ref mo), (1, .int (nI 0)), (2, .int (bI r)), (3, .int (nI i)), (4, .int (nI (BB i)))] → W p l e ({ frames := 0, cells := 0, slots := 0, locals := 0 } : Room) s m ([.ref mo] : List Value).toArray below meth c H locs 0 0 Qp (F0 m 64 ls []) := by
              intro h_al ls hl
              have j_85 : ∀ (rv : Bool), (rv = remT (BB i) r) → ∀ (ls : Array Slot), lv_has ls 7 [(0, .ref mo), (1, .int (nI 0)), (2, .int (bI rv)), (3, .int (nI i)), (4, .int (nI (BB i)))] → W p l e ({ frames := 0, cells := 0, slots := 0, locals := 0 } : Room) s m ([.ref mo] : List Value).toArray below meth c H locs 0 0 Qp (F0 m 85 ls []) := by
                intro rv hrv ls hl
                refine lv_iload_n hx hb dX5_cut_85 rfl (lv_at hl 2 rfl) ?_
                refine lv_if_ne (tgt := 117) hx hb dX5_cut_86 (by decide) (fun c_86 => ?_) (fun c_86 => ?_)
                · refine lv_iconst (v := nI 1) hx hb dX5_cut_117 (by decide) ?_
                  refine lv_goto (tgt := 122) hx hb dX5_cut_118 (by decide) ?_
                  refine lv_istore (lv' := [(5, .int (nI 1)), (0, .ref mo), (1, .int (nI 0)), (2, .int (bI rv)), (3, .int (nI i)), (4, .int (nI (BB i)))]) hx hb dX5_cut_122 hl (by decide) rfl (fun ls hl => ?_)
                  refine lv_iload hx hb dX5_cut_124 (lv_at hl 0 rfl) ?_
                  refine lv_if_ne (tgt := 168) hx hb dX5_cut_126 (by decide) (fun c_126 => ?_) (fun c_126 => ?_)
                  · clear c_126
                    refine lv_iconst (v := nI 0) hx hb dX5_cut_168 (by decide) ?_
                    refine lv_istore (lv' := [(6, .int (nI 0)), (5, .int (nI 1)), (0, .ref mo), (1, .int (nI 0)), (2, .int (bI rv)), (3, .int (nI i)), (4, .int (nI (BB i)))]) hx hb dX5_cut_169 hl (by decide) rfl (fun ls hl => ?_)
                    refine lv_iload hx hb dX5_cut_171 (lv_at hl 1 rfl) ?_
                    refine lv_if_ne (tgt := 181) hx hb dX5_cut_173 (by decide) (fun c_173 => ?_) (fun c_173 => ?_)
                    · clear c_173
                      refine lv_iconst (v := nI 0) hx hb dX5_cut_181 (by decide) ?_
                      refine lv_istore_n (lv' := [(1, .int (nI 0)), (6, .int (nI 0)), (5, .int (nI 1)), (0, .ref mo), (2, .int (bI rv)), (3, .int (nI i)), (4, .int (nI (BB i)))]) hx hb dX5_cut_182 rfl hl (by decide) rfl (fun ls hl => ?_)
                      refine lv_iload hx hb dX5_cut_183 (lv_at hl 2 rfl) ?_
                      refine lv_if_eq (tgt := 191) hx hb dX5_cut_185 (by decide) (fun c_185 => ?_) (fun c_185 => ?_)
                      · exact absurd c_185 (by decide)
                      · clear c_185
                        refine lv_goto (tgt := 240) hx hb dX5_cut_188 (by decide) ?_
                        refine lv_iinc (v := nI (i + 1)) (lv' := [(3, .int (nI (i + 1))), (1, .int (nI 0)), (6, .int (nI 0)), (5, .int (nI 1)), (0, .ref mo), (2, .int (bI rv)), (4, .int (nI (BB i)))]) hx hb dX5_cut_240 hl (k := 5) rfl (nI_add i 1) (by decide) rfl (fun ls hl => ?_)
                        refine lv_goto (tgt := 11) hx hb dX5_cut_243 (by decide) ?_
                        have hP := hP.sub (ws' := [(mo, .inr (5, [.ref (Z 0), .int (v 0), .int (v 1), .ref (Z 1), .int (nI len), .ref (Z 2), .ref (Z 3), .int (nI ts.length), .int (v 3), .int (v 4), .ref (Z 4), .ref (Z 5), .ref (Z 6), .ref (Z 7), .ref (Z 8), .int (v 5), .int (v 6), .int (v 7)])), ((Z 1), .inl (cB, 16000, .inl gt)), ((Z 2), .inl (cI, 16002, .inl gf)), ((Z 3), .inl (cI, 16002, .inl go))]) [0, 1, 2, 3] rfl
                        have hD := hD.sub (ws' := [(mo, .inr (5, [.ref (Z 0), .int (v 0), .int (v 1), .ref (Z 1), .int (nI len), .ref (Z 2), .ref (Z 3), .int (nI ts.length), .int (v 3), .int (v 4), .ref (Z 4), .ref (Z 5), .ref (Z 6), .ref (Z 7), .ref (Z 8), .int (v 5), .int (v 6), .int (v 7)])), ((Z 1), .inl (cB, 16000, .inl gt)), ((Z 2), .inl (cI, 16002, .inl gf)), ((Z 3), .inl (cI, 16002, .inl go))]) [0, 1, 2, 3] (by decide) rfl
                        have hP : va_P D vwCl [(mo, .inr (5, [.ref (Z 0), .int (v 0), .int (v 1), .ref (Z 1), .int (nI len), .ref (Z 2), .ref (Z 3), .int (nI ts.length), .int (v 3), .int (v 4), .ref (Z 4), .ref (Z 5), .ref (Z 6), .ref (Z 7), .ref (Z 8), .int (v 5), .int (v 6), .int (v 7)])), ((Z 1), .inl (cB, 16000, .inl gt)), ((Z 2), .inl (cI, 16002, .inl gf)), ((Z 3), .inl (cI, 16002, .inl go))] H := hP
                        have hD : va_D A [(mo, .inr (5, [.ref (Z 0), .int (v 0), .int (v 1), .ref (Z 1), .int (nI len), .ref (Z 2), .ref (Z 3), .int (nI ts.length), .int (v 3), .int (v 4), .ref (Z 4), .ref (Z 5), .ref (Z 6), .ref (Z 7), .ref (Z 8), .int (v 5), .int (v 6), .int (v 7)])), ((Z 1), .inl (cB, 16000, .inl gt)), ((Z 2), .inl (cI, 16002, .inl gf)), ((Z 3), .inl (cI, 16002, .inl go))] := hD
                        have hP : va_P D vwCl [(mo, .inr (5, [.ref (Z 0), .int (v 0), .int (v 1), .ref (Z 1), .int (nI len), .ref (Z 2), .ref (Z 3), .int (nI ((closeT ts none (i + 1)).length)), .int (v 3), .int (v 4), .ref (Z 4), .ref (Z 5), .ref (Z 6), .ref (Z 7), .ref (Z 8), .int (v 5), .int (v 6), .int (v 7)])), ((Z 1), .inl (cB, 16000, .inl gt)), ((Z 2), .inl (cI, 16002, .inl gf)), ((Z 3), .inl (cI, 16002, .inl go))] H := by rw [cl_len]; simp only [len1, opn, Nat.add_zero]; exact hP
                        have hD : va_D A [(mo, .inr (5, [.ref (Z 0), .int (v 0), .int (v 1), .ref (Z 1), .int (nI len), .ref (Z 2), .ref (Z 3), .int (nI ((closeT ts none (i + 1)).length)), .int (v 3), .int (v 4), .ref (Z 4), .ref (Z 5), .ref (Z 6), .ref (Z 7), .ref (Z 8), .int (v 5), .int (v 6), .int (v 7)])), ((Z 1), .inl (cB, 16000, .inl gt)), ((Z 2), .inl (cI, 16002, .inl gf)), ((Z 3), .inl (cI, 16002, .inl go))] := by rw [cl_len]; simp only [len1, opn, Nat.add_zero]; exact hD
                        exact ih (i + 1) ts none rv gf go H locs (by omega) (by omega) (fun j hj => by rcases Nat.lt_or_ge j i with q9 | q9; exact hal j q9; rw [show j = i by omega]; exact h_al) (scan_b hsc hrv (Or.inl (bI_1 c_86))) (by simp only [len1, opn]; omega) (hrw) hP hD hS ls (lv_sub hl [4, 1, 5, 0] rfl)
                    · exact absurd c_173 (by decide)
                  · exact absurd c_126 (by decide)
                · refine lv_iload hx hb dX5_cut_89 (lv_at hl 4 rfl) ?_
                  refine lv_bipush (v := nI 9) hx hb dX5_cut_91 (by decide) ?_
                  refine lv_icmp_eq (tgt := 117) hx hb dX5_cut_93 (by decide) (fun c_93 => ?_) (fun c_93 => ?_)
                  · have c_93 : (BB i) = 9 := (nI_eq (a := (BB i)) (b := 9) (by omega) (by omega)).mp c_93
                    refine lv_iconst (v := nI 1) hx hb dX5_cut_117 (by decide) ?_
                    refine lv_goto (tgt := 122) hx hb dX5_cut_118 (by decide) ?_
                    refine lv_istore (lv' := [(5, .int (nI 1)), (0, .ref mo), (1, .int (nI 0)), (2, .int (bI rv)), (3, .int (nI i)), (4, .int (nI (BB i)))]) hx hb dX5_cut_122 hl (by decide) rfl (fun ls hl => ?_)
                    refine lv_iload hx hb dX5_cut_124 (lv_at hl 0 rfl) ?_
                    refine lv_if_ne (tgt := 168) hx hb dX5_cut_126 (by decide) (fun c_126 => ?_) (fun c_126 => ?_)
                    · clear c_126
                      refine lv_iconst (v := nI 0) hx hb dX5_cut_168 (by decide) ?_
                      refine lv_istore (lv' := [(6, .int (nI 0)), (5, .int (nI 1)), (0, .ref mo), (1, .int (nI 0)), (2, .int (bI rv)), (3, .int (nI i)), (4, .int (nI (BB i)))]) hx hb dX5_cut_169 hl (by decide) rfl (fun ls hl => ?_)
                      refine lv_iload hx hb dX5_cut_171 (lv_at hl 1 rfl) ?_
                      refine lv_if_ne (tgt := 181) hx hb dX5_cut_173 (by decide) (fun c_173 => ?_) (fun c_173 => ?_)
                      · clear c_173
                        refine lv_iconst (v := nI 0) hx hb dX5_cut_181 (by decide) ?_
                        refine lv_istore_n (lv' := [(1, .int (nI 0)), (6, .int (nI 0)), (5, .int (nI 1)), (0, .ref mo), (2, .int (bI rv)), (3, .int (nI i)), (4, .int (nI (BB i)))]) hx hb dX5_cut_182 rfl hl (by decide) rfl (fun ls hl => ?_)
                        refine lv_iload hx hb dX5_cut_183 (lv_at hl 2 rfl) ?_
                        refine lv_if_eq (tgt := 191) hx hb dX5_cut_185 (by decide) (fun c_185 => ?_) (fun c_185 => ?_)
                        · exact absurd c_185 (by decide)
                        · clear c_185
                          refine lv_goto (tgt := 240) hx hb dX5_cut_188 (by decide) ?_
                          refine lv_iinc (v := nI (i + 1)) (lv' := [(3, .int (nI (i + 1))), (1, .int (nI 0)), (6, .int (nI 0)), (5, .int (nI 1)), (0, .ref mo), (2, .int (bI rv)), (4, .int (nI (BB i)))]) hx hb dX5_cut_240 hl (k := 5) rfl (nI_add i 1) (by decide) rfl (fun ls hl => ?_)
                          refine lv_goto (tgt := 11) hx hb dX5_cut_243 (by decide) ?_
                          have hP := hP.sub (ws' := [(mo, .inr (5, [.ref (Z 0), .int (v 0), .int (v 1), .ref (Z 1), .int (nI len), .ref (Z 2), .ref (Z 3), .int (nI ts.length), .int (v 3), .int (v 4), .ref (Z 4), .ref (Z 5), .ref (Z 6), .ref (Z 7), .ref (Z 8), .int (v 5), .int (v 6), .int (v 7)])), ((Z 1), .inl (cB, 16000, .inl gt)), ((Z 2), .inl (cI, 16002, .inl gf)), ((Z 3), .inl (cI, 16002, .inl go))]) [0, 1, 2, 3] rfl
                          have hD := hD.sub (ws' := [(mo, .inr (5, [.ref (Z 0), .int (v 0), .int (v 1), .ref (Z 1), .int (nI len), .ref (Z 2), .ref (Z 3), .int (nI ts.length), .int (v 3), .int (v 4), .ref (Z 4), .ref (Z 5), .ref (Z 6), .ref (Z 7), .ref (Z 8), .int (v 5), .int (v 6), .int (v 7)])), ((Z 1), .inl (cB, 16000, .inl gt)), ((Z 2), .inl (cI, 16002, .inl gf)), ((Z 3), .inl (cI, 16002, .inl go))]) [0, 1, 2, 3] (by decide) rfl
                          have hP : va_P D vwCl [(mo, .inr (5, [.ref (Z 0), .int (v 0), .int (v 1), .ref (Z 1), .int (nI len), .ref (Z 2), .ref (Z 3), .int (nI ts.length), .int (v 3), .int (v 4), .ref (Z 4), .ref (Z 5), .ref (Z 6), .ref (Z 7), .ref (Z 8), .int (v 5), .int (v 6), .int (v 7)])), ((Z 1), .inl (cB, 16000, .inl gt)), ((Z 2), .inl (cI, 16002, .inl gf)), ((Z 3), .inl (cI, 16002, .inl go))] H := hP
                          have hD : va_D A [(mo, .inr (5, [.ref (Z 0), .int (v 0), .int (v 1), .ref (Z 1), .int (nI len), .ref (Z 2), .ref (Z 3), .int (nI ts.length), .int (v 3), .int (v 4), .ref (Z 4), .ref (Z 5), .ref (Z 6), .ref (Z 7), .ref (Z 8), .int (v 5), .int (v 6), .int (v 7)])), ((Z 1), .inl (cB, 16000, .inl gt)), ((Z 2), .inl (cI, 16002, .inl gf)), ((Z 3), .inl (cI, 16002, .inl go))] := hD
                          have hP : va_P D vwCl [(mo, .inr (5, [.ref (Z 0), .int (v 0), .int (v 1), .ref (Z 1), .int (nI len), .ref (Z 2), .ref (Z 3), .int (nI ((closeT ts none (i + 1)).length)), .int (v 3), .int (v 4), .ref (Z 4), .ref (Z 5), .ref (Z 6), .ref (Z 7), .ref (Z 8), .int (v 5), .int (v 6), .int (v 7)])), ((Z 1), .inl (cB, 16000, .inl gt)), ((Z 2), .inl (cI, 16002, .inl gf)), ((Z 3), .inl (cI, 16002, .inl go))] H := by rw [cl_len]; simp only [len1, opn, Nat.add_zero]; exact hP
                          have hD : va_D A [(mo, .inr (5, [.ref (Z 0), .int (v 0), .int (v 1), .ref (Z 1), .int (nI len), .ref (Z 2), .ref (Z 3), .int (nI ((closeT ts none (i + 1)).length)), .int (v 3), .int (v 4), .ref (Z 4), .ref (Z 5), .ref (Z 6), .ref (Z 7), .ref (Z 8), .int (v 5), .int (v 6), .int (v 7)])), ((Z 1), .inl (cB, 16000, .inl gt)), ((Z 2), .inl (cI, 16002, .inl gf)), ((Z 3), .inl (cI, 16002, .inl go))] := by rw [cl_len]; simp only [len1, opn, Nat.add_zero]; exact hD
                          exact ih (i + 1) ts none rv gf go H locs (by omega) (by omega) (fun j hj => by rcases Nat.lt_or_ge j i with q9 | q9; exact hal j q9; rw [show j = i by omega]; exact h_al) (scan_b hsc hrv (Or.inr (by omega))) (by simp only [len1, opn]; omega) (hrw) hP hD hS ls (lv_sub hl [4, 1, 5, 0] rfl)
                      · exact absurd c_173 (by decide)
                    · exact absurd c_126 (by decide)
                  · have c_93 : ¬ ((BB i) = 9) := fun h9 => c_93 ((nI_eq (a := (BB i)) (b := 9) (by omega) (by omega)).mpr h9)
                    refine lv_iload hx hb dX5_cut_96 (lv_at hl 4 rfl) ?_
                    refine lv_bipush (v := nI 10) hx hb dX5_cut_98 (by decide) ?_
                    refine lv_icmp_eq (tgt := 117) hx hb dX5_cut_100 (by decide) (fun c_100 => ?_) (fun c_100 => ?_)
                    · have c_100 : (BB i) = 10 := (nI_eq (a := (BB i)) (b := 10) (by omega) (by omega)).mp c_100
                      refine lv_iconst (v := nI 1) hx hb dX5_cut_117 (by decide) ?_
                      refine lv_goto (tgt := 122) hx hb dX5_cut_118 (by decide) ?_
                      refine lv_istore (lv' := [(5, .int (nI 1)), (0, .ref mo), (1, .int (nI 0)), (2, .int (bI rv)), (3, .int (nI i)), (4, .int (nI (BB i)))]) hx hb dX5_cut_122 hl (by decide) rfl (fun ls hl => ?_)
                      refine lv_iload hx hb dX5_cut_124 (lv_at hl 0 rfl) ?_
                      refine lv_if_ne (tgt := 168) hx hb dX5_cut_126 (by decide) (fun c_126 => ?_) (fun c_126 => ?_)
                      · clear c_126
                        refine lv_iconst (v := nI 0) hx hb dX5_cut_168 (by decide) ?_
                        refine lv_istore (lv' := [(6, .int (nI 0)), (5, .int (nI 1)), (0, .ref mo), (1, .int (nI 0)), (2, .int (bI rv)), (3, .int (nI i)), (4, .int (nI (BB i)))]) hx hb dX5_cut_169 hl (by decide) rfl (fun ls hl => ?_)
                        refine lv_iload hx hb dX5_cut_171 (lv_at hl 1 rfl) ?_
                        refine lv_if_ne (tgt := 181) hx hb dX5_cut_173 (by decide) (fun c_173 => ?_) (fun c_173 => ?_)
                        · clear c_173
                          refine lv_iconst (v := nI 0) hx hb dX5_cut_181 (by decide) ?_
                          refine lv_istore_n (lv' := [(1, .int (nI 0)), (6, .int (nI 0)), (5, .int (nI 1)), (0, .ref mo), (2, .int (bI rv)), (3, .int (nI i)), (4, .int (nI (BB i)))]) hx hb dX5_cut_182 rfl hl (by decide) rfl (fun ls hl => ?_)
                          refine lv_iload hx hb dX5_cut_183 (lv_at hl 2 rfl) ?_
                          refine lv_if_eq (tgt := 191) hx hb dX5_cut_185 (by decide) (fun c_185 => ?_) (fun c_185 => ?_)
                          · exact absurd c_185 (by decide)
                          · clear c_185
                            refine lv_goto (tgt := 240) hx hb dX5_cut_188 (by decide) ?_
                            refine lv_iinc (v := nI (i + 1)) (lv' := [(3, .int (nI (i + 1))), (1, .int (nI 0)), (6, .int (nI 0)), (5, .int (nI 1)), (0, .ref mo), (2, .int (bI rv)), (4, .int (nI (BB i)))]) hx hb dX5_cut_240 hl (k := 5) rfl (nI_add i 1) (by decide) rfl (fun ls hl => ?_)
                            refine lv_goto (tgt := 11) hx hb dX5_cut_243 (by decide) ?_
                            have hP := hP.sub (ws' := [(mo, .inr (5, [.ref (Z 0), .int (v 0), .int (v 1), .ref (Z 1), .int (nI len), .ref (Z 2), .ref (Z 3), .int (nI ts.length), .int (v 3), .int (v 4), .ref (Z 4), .ref (Z 5), .ref (Z 6), .ref (Z 7), .ref (Z 8), .int (v 5), .int (v 6), .int (v 7)])), ((Z 1), .inl (cB, 16000, .inl gt)), ((Z 2), .inl (cI, 16002, .inl gf)), ((Z 3), .inl (cI, 16002, .inl go))]) [0, 1, 2, 3] rfl
                            have hD := hD.sub (ws' := [(mo, .inr (5, [.ref (Z 0), .int (v 0), .int (v 1), .ref (Z 1), .int (nI len), .ref (Z 2), .ref (Z 3), .int (nI ts.length), .int (v 3), .int (v 4), .ref (Z 4), .ref (Z 5), .ref (Z 6), .ref (Z 7), .ref (Z 8), .int (v 5), .int (v 6), .int (v 7)])), ((Z 1), .inl (cB, 16000, .inl gt)), ((Z 2), .inl (cI, 16002, .inl gf)), ((Z 3), .inl (cI, 16002, .inl go))]) [0, 1, 2, 3] (by decide) rfl
                            have hP : va_P D vwCl [(mo, .inr (5, [.ref (Z 0), .int (v 0), .int (v 1), .ref (Z 1), .int (nI len), .ref (Z 2), .ref (Z 3), .int (nI ts.length), .int (v 3), .int (v 4), .ref (Z 4), .ref (Z 5), .ref (Z 6), .ref (Z 7), .ref (Z 8), .int (v 5), .int (v 6), .int (v 7)])), ((Z 1), .inl (cB, 16000, .inl gt)), ((Z 2), .inl (cI, 16002, .inl gf)), ((Z 3), .inl (cI, 16002, .inl go))] H := hP
                            have hD : va_D A [(mo, .inr (5, [.ref (Z 0), .int (v 0), .int (v 1), .ref (Z 1), .int (nI len), .ref (Z 2), .ref (Z 3), .int (nI ts.length), .int (v 3), .int (v 4), .ref (Z 4), .ref (Z 5), .ref (Z 6), .ref (Z 7), .ref (Z 8), .int (v 5), .int (v 6), .int (v 7)])), ((Z 1), .inl (cB, 16000, .inl gt)), ((Z 2), .inl (cI, 16002, .inl gf)), ((Z 3), .inl (cI, 16002, .inl go))] := hD
                            have hP : va_P D vwCl [(mo, .inr (5, [.ref (Z 0), .int (v 0), .int (v 1), .ref (Z 1), .int (nI len), .ref (Z 2), .ref (Z 3), .int (nI ((closeT ts none (i + 1)).length)), .int (v 3), .int (v 4), .ref (Z 4), .ref (Z 5), .ref (Z 6), .ref (Z 7), .ref (Z 8), .int (v 5), .int (v 6), .int (v 7)])), ((Z 1), .inl (cB, 16000, .inl gt)), ((Z 2), .inl (cI, 16002, .inl gf)), ((Z 3), .inl (cI, 16002, .inl go))] H := by rw [cl_len]; simp only [len1, opn, Nat.add_zero]; exact hP
                            have hD : va_D A [(mo, .inr (5, [.ref (Z 0), .int (v 0), .int (v 1), .ref (Z 1), .int (nI len), .ref (Z 2), .ref (Z 3), .int (nI ((closeT ts none (i + 1)).length)), .int (v 3), .int (v 4), .ref (Z 4), .ref (Z 5), .ref (Z 6), .ref (Z 7), .ref (Z 8), .int (v 5), .int (v 6), .int (v 7)])), ((Z 1), .inl (cB, 16000, .inl gt)), ((Z 2), .inl (cI, 16002, .inl gf)), ((Z 3), .inl (cI, 16002, .inl go))] := by rw [cl_len]; simp only [len1, opn, Nat.add_zero]; exact hD
                            exact ih (i + 1) ts none rv gf go H locs (by omega) (by omega) (fun j hj => by rcases Nat.lt_or_ge j i with q9 | q9; exact hal j q9; rw [show j = i by omega]; exact h_al) (scan_b hsc hrv (Or.inr (by omega))) (by simp only [len1, opn]; omega) (hrw) hP hD hS ls (lv_sub hl [4, 1, 5, 0] rfl)
                        · exact absurd c_173 (by decide)
                      · exact absurd c_126 (by decide)
                    · have c_100 : ¬ ((BB i) = 10) := fun h9 => c_100 ((nI_eq (a := (BB i)) (b := 10) (by omega) (by omega)).mpr h9)
                      refine lv_iload hx hb dX5_cut_103 (lv_at hl 4 rfl) ?_
                      refine lv_bipush (v := nI 13) hx hb dX5_cut_105 (by decide) ?_
                      refine lv_icmp_eq (tgt := 117) hx hb dX5_cut_107 (by decide) (fun c_107 => ?_) (fun c_107 => ?_)
                      · have c_107 : (BB i) = 13 := (nI_eq (a := (BB i)) (b := 13) (by omega) (by omega)).mp c_107
                        refine lv_iconst (v := nI 1) hx hb dX5_cut_117 (by decide) ?_
                        refine lv_goto (tgt := 122) hx hb dX5_cut_118 (by decide) ?_
                        refine lv_istore (lv' := [(5, .int (nI 1)), (0, .ref mo), (1, .int (nI 0)), (2, .int (bI rv)), (3, .int (nI i)), (4, .int (nI (BB i)))]) hx hb dX5_cut_122 hl (by decide) rfl (fun ls hl => ?_)
                        refine lv_iload hx hb dX5_cut_124 (lv_at hl 0 rfl) ?_
                        refine lv_if_ne (tgt := 168) hx hb dX5_cut_126 (by decide) (fun c_126 => ?_) (fun c_126 => ?_)
                        · clear c_126
                          refine lv_iconst (v := nI 0) hx hb dX5_cut_168 (by decide) ?_
                          refine lv_istore (lv' := [(6, .int (nI 0)), (5, .int (nI 1)), (0, .ref mo), (1, .int (nI 0)), (2, .int (bI rv)), (3, .int (nI i)), (4, .int (nI (BB i)))]) hx hb dX5_cut_169 hl (by decide) rfl (fun ls hl => ?_)
                          refine lv_iload hx hb dX5_cut_171 (lv_at hl 1 rfl) ?_
                          refine lv_if_ne (tgt := 181) hx hb dX5_cut_173 (by decide) (fun c_173 => ?_) (fun c_173 => ?_)
                          · clear c_173
                            refine lv_iconst (v := nI 0) hx hb dX5_cut_181 (by decide) ?_
                            refine lv_istore_n (lv' := [(1, .int (nI 0)), (6, .int (nI 0)), (5, .int (nI 1)), (0, .ref mo), (2, .int (bI rv)), (3, .int (nI i)), (4, .int (nI (BB i)))]) hx hb dX5_cut_182 rfl hl (by decide) rfl (fun ls hl => ?_)
                            refine lv_iload hx hb dX5_cut_183 (lv_at hl 2 rfl) ?_
                            refine lv_if_eq (tgt := 191) hx hb dX5_cut_185 (by decide) (fun c_185 => ?_) (fun c_185 => ?_)
                            · exact absurd c_185 (by decide)
                            · clear c_185
                              refine lv_goto (tgt := 240) hx hb dX5_cut_188 (by decide) ?_
                              refine lv_iinc (v := nI (i + 1)) (lv' := [(3, .int (nI (i + 1))), (1, .int (nI 0)), (6, .int (nI 0)), (5, .int (nI 1)), (0, .ref mo), (2, .int (bI rv)), (4, .int (nI (BB i)))]) hx hb dX5_cut_240 hl (k := 5) rfl (nI_add i 1) (by decide) rfl (fun ls hl => ?_)
                              refine lv_goto (tgt := 11) hx hb dX5_cut_243 (by decide) ?_
                              have hP := hP.sub (ws' := [(mo, .inr (5, [.ref (Z 0), .int (v 0), .int (v 1), .ref (Z 1), .int (nI len), .ref (Z 2), .ref (Z 3), .int (nI ts.length), .int (v 3), .int (v 4), .ref (Z 4), .ref (Z 5), .ref (Z 6), .ref (Z 7), .ref (Z 8), .int (v 5), .int (v 6), .int (v 7)])), ((Z 1), .inl (cB, 16000, .inl gt)), ((Z 2), .inl (cI, 16002, .inl gf)), ((Z 3), .inl (cI, 16002, .inl go))]) [0, 1, 2, 3] rfl
                              have hD := hD.sub (ws' := [(mo, .inr (5, [.ref (Z 0), .int (v 0), .int (v 1), .ref (Z 1), .int (nI len), .ref (Z 2), .ref (Z 3), .int (nI ts.length), .int (v 3), .int (v 4), .ref (Z 4), .ref (Z 5), .ref (Z 6), .ref (Z 7), .ref (Z 8), .int (v 5), .int (v 6), .int (v 7)])), ((Z 1), .inl (cB, 16000, .inl gt)), ((Z 2), .inl (cI, 16002, .inl gf)), ((Z 3), .inl (cI, 16002, .inl go))]) [0, 1, 2, 3] (by decide) rfl
                              have hP : va_P D vwCl [(mo, .inr (5, [.ref (Z 0), .int (v 0), .int (v 1), .ref (Z 1), .int (nI len), .ref (Z 2), .ref (Z 3), .int (nI ts.length), .int (v 3), .int (v 4), .ref (Z 4), .ref (Z 5), .ref (Z 6), .ref (Z 7), .ref (Z 8), .int (v 5), .int (v 6), .int (v 7)])), ((Z 1), .inl (cB, 16000, .inl gt)), ((Z 2), .inl (cI, 16002, .inl gf)), ((Z 3), .inl (cI, 16002, .inl go))] H := hP
                              have hD : va_D A [(mo, .inr (5, [.ref (Z 0), .int (v 0), .int (v 1), .ref (Z 1), .int (nI len), .ref (Z 2), .ref (Z 3), .int (nI ts.length), .int (v 3), .int (v 4), .ref (Z 4), .ref (Z 5), .ref (Z 6), .ref (Z 7), .ref (Z 8), .int (v 5), .int (v 6), .int (v 7)])), ((Z 1), .inl (cB, 16000, .inl gt)), ((Z 2), .inl (cI, 16002, .inl gf)), ((Z 3), .inl (cI, 16002, .inl go))] := hD
                              have hP : va_P D vwCl [(mo, .inr (5, [.ref (Z 0), .int (v 0), .int (v 1), .ref (Z 1), .int (nI len), .ref (Z 2), .ref (Z 3), .int (nI ((closeT ts none (i + 1)).length)), .int (v 3), .int (v 4), .ref (Z 4), .ref (Z 5), .ref (Z 6), .ref (Z 7), .ref (Z 8), .int (v 5), .int (v 6), .int (v 7)])), ((Z 1), .inl (cB, 16000, .inl gt)), ((Z 2), .inl (cI, 16002, .inl gf)), ((Z 3), .inl (cI, 16002, .inl go))] H := by rw [cl_len]; simp only [len1, opn, Nat.add_zero]; exact hP
                              have hD : va_D A [(mo, .inr (5, [.ref (Z 0), .int (v 0), .int (v 1), .ref (Z 1), .int (nI len), .ref (Z 2), .ref (Z 3), .int (nI ((closeT ts none (i + 1)).length)), .int (v 3), .int (v 4), .ref (Z 4), .ref (Z 5), .ref (Z 6), .ref (Z 7), .ref (Z 8), .int (v 5), .int (v 6), .int (v 7)])), ((Z 1), .inl (cB, 16000, .inl gt)), ((Z 2), .inl (cI, 16002, .inl gf)), ((Z 3), .inl (cI, 16002, .inl go))] := by rw [cl_len]; simp only [len1, opn, Nat.add_zero]; exact hD
                              exact ih (i + 1) ts none rv gf go H locs (by omega) (by omega) (fun j hj => by rcases Nat.lt_or_ge j i with q9 | q9; exact hal j q9; rw [show j = i by omega]; exact h_al) (scan_b hsc hrv (Or.inr (by omega))) (by simp only [len1, opn]; omega) (hrw) hP hD hS ls (lv_sub hl [4, 1, 5, 0] rfl)
                          · exact absurd c_173 (by decide)
                        · exact absurd c_126 (by decide)
                      · have c_107 : ¬ ((BB i) = 13) := fun h9 => c_107 ((nI_eq (a := (BB i)) (b := 13) (by omega) (by omega)).mpr h9)
                        refine lv_iload hx hb dX5_cut_110 (lv_at hl 4 rfl) ?_
                        refine lv_bipush (v := nI 32) hx hb dX5_cut_112 (by decide) ?_
                        refine lv_icmp_ne (tgt := 121) hx hb dX5_cut_114 (by decide) (fun c_114 => ?_) (fun c_114 => ?_)
                        · have c_114 : ¬ ((BB i) = 32) := fun h9 => c_114 ((nI_eq (a := (BB i)) (b := 32) (by omega) (by omega)).mpr h9)
                          refine lv_iconst (v := nI 0) hx hb dX5_cut_121 (by decide) ?_
                          refine lv_istore (lv' := [(5, .int (nI 0)), (0, .ref mo), (1, .int (nI 0)), (2, .int (bI rv)), (3, .int (nI i)), (4, .int (nI (BB i)))]) hx hb dX5_cut_122 hl (by decide) rfl (fun ls hl => ?_)
                          refine lv_iload hx hb dX5_cut_124 (lv_at hl 0 rfl) ?_
                          refine lv_if_ne (tgt := 168) hx hb dX5_cut_126 (by decide) (fun c_126 => ?_) (fun c_126 => ?_)
                          · exact absurd (by decide) c_126
                          · clear c_126
                            refine lv_iload hx hb dX5_cut_129 (lv_at hl 5 rfl) ?_
                            refine lv_bipush (v := nI 40) hx hb dX5_cut_131 (by decide) ?_
                            refine lv_icmp_eq (tgt := 164) hx hb dX5_cut_133 (by decide) (fun c_133 => ?_) (fun c_133 => ?_)
                            · have c_133 : (BB i) = 40 := (nI_eq (a := (BB i)) (b := 40) (by omega) (by omega)).mp c_133
                              refine lv_iconst (v := nI 1) hx hb dX5_cut_164 (by decide) ?_
                              refine lv_goto (tgt := 169) hx hb dX5_cut_165 (by decide) ?_
                              refine lv_istore (lv' := [(6, .int (nI 1)), (5, .int (nI 0)), (0, .ref mo), (1, .int (nI 0)), (2, .int (bI rv)), (3, .int (nI i)), (4, .int (nI (BB i)))]) hx hb dX5_cut_169 hl (by decide) rfl (fun ls hl => ?_)
                              refine lv_iload hx hb dX5_cut_171 (lv_at hl 1 rfl) ?_
                              refine lv_if_ne (tgt := 181) hx hb dX5_cut_173 (by decide) (fun c_173 => ?_) (fun c_173 => ?_)
                              · exact absurd (by decide) c_173
                              · clear c_173
                                refine lv_iload hx hb dX5_cut_176 (lv_at hl 0 rfl) ?_
                                refine lv_if_eq (tgt := 183) hx hb dX5_cut_178 (by decide) (fun c_178 => ?_) (fun c_178 => ?_)
                                · exact absurd c_178 (by decide)
                                · clear c_178
                                  refine lv_iconst (v := nI 0) hx hb dX5_cut_181 (by decide) ?_
                                  refine lv_istore_n (lv' := [(1, .int (nI 0)), (6, .int (nI 1)), (5, .int (nI 0)), (0, .ref mo), (2, .int (bI rv)), (3, .int (nI i)), (4, .int (nI (BB i)))]) hx hb dX5_cut_182 rfl hl (by decide) rfl (fun ls hl => ?_)
                                  refine lv_iload hx hb dX5_cut_183 (lv_at hl 2 rfl) ?_
                                  refine lv_if_eq (tgt := 191) hx hb dX5_cut_185 (by decide) (fun c_185 => ?_) (fun c_185 => ?_)
                                  · clear c_185
                                    refine lv_iload_n hx hb dX5_cut_191 rfl (lv_at hl 0 rfl) ?_
                                    refine lv_if_ne (tgt := 215) hx hb dX5_cut_192 (by decide) (fun c_192 => ?_) (fun c_192 => ?_)
                                    · exact absurd (by decide) c_192
                                    · clear c_192
                                      refine lv_aload_n hx hb dX5_cut_195 rfl (lv_at hl 3 rfl) ?_
                                      refine va_get (D := D) (ci := 5) (v := .ref (Z 2)) (C := RX5) (T := TX5) (N := 18) hx hb hts (by decide +kernel) hown hK hP 0 rfl rfl 5 (by decide) (hts (.fieldLink RX5 16 "BodyTextModel" "tokenFrom" "[I") (by decide +kernel)) (fun _ h9 => h9) rfl dX5_cut_196 ?_
                                      refine lv_aload_n hx hb dX5_cut_199 rfl (lv_at hl 3 rfl) ?_
                                      refine va_get (D := D) (ci := 5) (v := .int (nI ts.length)) (C := RX5) (T := TX5) (N := 18) hx hb hts (by decide +kernel) hown hK hP 0 rfl rfl 7 (by decide) (hts (.fieldLink RX5 56 "BodyTextModel" "tokens" "I") (by decide +kernel)) (fun _ h9 => h9) rfl dX5_cut_200 ?_
                                      refine lv_iload_n hx hb dX5_cut_203 rfl (lv_at hl 5 rfl) ?_
                                      refine va_iast hx hb hK hP hD hS 2 1 rfl rfl (vp_in_nI (by omega) (by omega)) dX5_cut_204 (fun H locs hP hD hS => ?_)
                                      rw [nI_clamp (by omega)] at hP hD
                                      have hP : va_P D vwCl [(mo, .inr (5, [.ref (Z 0), .int (v 0), .int (v 1), .ref (Z 1), .int (nI len), .ref (Z 2), .ref (Z 3), .int (nI ts.length), .int (v 3), .int (v 4), .ref (Z 4), .ref (Z 5), .ref (Z 6), .ref (Z 7), .ref (Z 8), .int (v 5), .int (v 6), .int (v 7)])), ((Z 1), .inl (cB, 16000, .inl gt)), ((Z 2), .inl (cI, 16002, .inl (upd gf ts.length (nI i)))), ((Z 3), .inl (cI, 16002, .inl go))] H := hP
                                      have hD : va_D A [(mo, .inr (5, [.ref (Z 0), .int (v 0), .int (v 1), .ref (Z 1), .int (nI len), .ref (Z 2), .ref (Z 3), .int (nI ts.length), .int (v 3), .int (v 4), .ref (Z 4), .ref (Z 5), .ref (Z 6), .ref (Z 7), .ref (Z 8), .int (v 5), .int (v 6), .int (v 7)])), ((Z 1), .inl (cB, 16000, .inl gt)), ((Z 2), .inl (cI, 16002, .inl (upd gf ts.length (nI i)))), ((Z 3), .inl (cI, 16002, .inl go))] := hD
                                      refine lv_aload_n hx hb dX5_cut_205 rfl (lv_at hl 3 rfl) ?_
                                      refine lv_dup hx hb dX5_cut_206 rfl ?_
                                      refine va_get (D := D) (ci := 5) (v := .int (nI ts.length)) (C := RX5) (T := TX5) (N := 18) hx hb hts (by decide +kernel) hown hK hP 0 rfl rfl 7 (by decide) (hts (.fieldLink RX5 56 "BodyTextModel" "tokens" "I") (by decide +kernel)) (fun _ h9 => h9) rfl dX5_cut_207 ?_
                                      refine lv_iconst (v := nI 1) hx hb dX5_cut_210 (by decide) ?_
                                      refine lv_iadd hx hb dX5_cut_211 ?_
                                      refine bt_topi (y := nI (ts.length + 1)) (nI_add _ _) ?_
                                      refine va_put (D := D) (ci := 5) (v := .int (nI (ts.length + 1))) (ty := .int) (C := RX5) (T := TX5) (N := 18) hx hb hts (by decide +kernel) tyX5 tyX5_ok nmX5 hown hK hP hD hS 0 rfl rfl 7 (by decide) (hts (.fieldLink RX5 56 "BodyTextModel" "tokens" "I") (by decide +kernel)) (fun _ h9 => h9) rfl (by decide +kernel) rfl rfl (Nat.le_of_ble_eq_true rfl) dX5_cut_212 (fun H locs hP hD hS => ?_)
                                      have hP : va_P D vwCl [(mo, .inr (5, [.ref (Z 0), .int (v 0), .int (v 1), .ref (Z 1), .int (nI len), .ref (Z 2), .ref (Z 3), .int (nI (ts.length + 1)), .int (v 3), .int (v 4), .ref (Z 4), .ref (Z 5), .ref (Z 6), .ref (Z 7), .ref (Z 8), .int (v 5), .int (v 6), .int (v 7)])), ((Z 1), .inl (cB, 16000, .inl gt)), ((Z 2), .inl (cI, 16002, .inl (upd gf ts.length (nI i)))), ((Z 3), .inl (cI, 16002, .inl go))] H := hP
                                      have hD : va_D A [(mo, .inr (5, [.ref (Z 0), .int (v 0), .int (v 1), .ref (Z 1), .int (nI len), .ref (Z 2), .ref (Z 3), .int (nI (ts.length + 1)), .int (v 3), .int (v 4), .ref (Z 4), .ref (Z 5), .ref (Z 6), .ref (Z 7), .ref (Z 8), .int (v 5), .int (v 6), .int (v 7)])), ((Z 1), .inl (cB, 16000, .inl gt)), ((Z 2), .inl (cI, 16002, .inl (upd gf ts.length (nI i)))), ((Z 3), .inl (cI, 16002, .inl go))] := hD
                                      refine lv_aload_n hx hb dX5_cut_215 rfl (lv_at hl 3 rfl) ?_
                                      refine va_get (D := D) (ci := 5) (v := .ref (Z 3)) (C := RX5) (T := TX5) (N := 18) hx hb hts (by decide +kernel) hown hK hP 0 rfl rfl 6 (by decide) (hts (.fieldLink RX5 20 "BodyTextModel" "tokenTo" "[I") (by decide +kernel)) (fun _ h9 => h9) rfl dX5_cut_216 ?_
                                      refine lv_aload_n hx hb dX5_cut_219 rfl (lv_at hl 3 rfl) ?_
                                      refine va_get (D := D) (ci := 5) (v := .int (nI (ts.length + 1))) (C := RX5) (T := TX5) (N := 18) hx hb hts (by decide +kernel) hown hK hP 0 rfl rfl 7 (by decide) (hts (.fieldLink RX5 56 "BodyTextModel" "tokens" "I") (by decide +kernel)) (fun _ h9 => h9) rfl dX5_cut_220 ?_
                                      refine lv_iconst (v := nI 1) hx hb dX5_cut_223 (by decide) ?_
                                      refine lv_isub hx hb dX5_cut_224 ?_
                                      refine bt_topi (y := nI ((ts.length + 1) - 1)) (pk_sub (by omega)) ?_
                                      refine lv_iload_n hx hb dX5_cut_225 rfl (lv_at hl 5 rfl) ?_
                                      refine lv_iconst (v := nI 1) hx hb dX5_cut_226 (by decide) ?_
                                      refine lv_iadd hx hb dX5_cut_227 ?_
                                      refine bt_topi (y := nI (i + 1)) (nI_add _ _) ?_
                                      refine va_iast hx hb hK hP hD hS 3 1 rfl rfl (vp_in_nI (by omega) (by omega)) dX5_cut_228 (fun H locs hP hD hS => ?_)
                                      rw [nI_clamp (by omega)] at hP hD
                                      have hP : va_P D vwCl [(mo, .inr (5, [.ref (Z 0), .int (v 0), .int (v 1), .ref (Z 1), .int (nI len), .ref (Z 2), .ref (Z 3), .int (nI (ts.length + 1)), .int (v 3), .int (v 4), .ref (Z 4), .ref (Z 5), .ref (Z 6), .ref (Z 7), .ref (Z 8), .int (v 5), .int (v 6), .int (v 7)])), ((Z 1), .inl (cB, 16000, .inl gt)), ((Z 2), .inl (cI, 16002, .inl (upd gf ts.length (nI i)))), ((Z 3), .inl (cI, 16002, .inl (upd go ((ts.length + 1) - 1) (nI (i + 1)))))] H := hP
                                      have hD : va_D A [(mo, .inr (5, [.ref (Z 0), .int (v 0), .int (v 1), .ref (Z 1), .int (nI len), .ref (Z 2), .ref (Z 3), .int (nI (ts.length + 1)), .int (v 3), .int (v 4), .ref (Z 4), .ref (Z 5), .ref (Z 6), .ref (Z 7), .ref (Z 8), .int (v 5), .int (v 6), .int (v 7)])), ((Z 1), .inl (cB, 16000, .inl gt)), ((Z 2), .inl (cI, 16002, .inl (upd gf ts.length (nI i)))), ((Z 3), .inl (cI, 16002, .inl (upd go ((ts.length + 1) - 1) (nI (i + 1)))))] := hD
                                      refine lv_iload hx hb dX5_cut_229 (lv_at hl 1 rfl) ?_
                                      refine lv_if_ne (tgt := 238) hx hb dX5_cut_231 (by decide) (fun c_231 => ?_) (fun c_231 => ?_)
                                      · clear c_231
                                        refine lv_iconst (v := nI 0) hx hb dX5_cut_238 (by decide) ?_
                                        refine lv_istore_n (lv' := [(1, .int (nI 0)), (6, .int (nI 1)), (5, .int (nI 0)), (0, .ref mo), (2, .int (bI rv)), (3, .int (nI i)), (4, .int (nI (BB i)))]) hx hb dX5_cut_239 rfl hl (by decide) rfl (fun ls hl => ?_)
                                        refine lv_iinc (v := nI (i + 1)) (lv' := [(3, .int (nI (i + 1))), (1, .int (nI 0)), (6, .int (nI 1)), (5, .int (nI 0)), (0, .ref mo), (2, .int (bI rv)), (4, .int (nI (BB i)))]) hx hb dX5_cut_240 hl (k := 5) rfl (nI_add i 1) (by decide) rfl (fun ls hl => ?_)
                                        refine lv_goto (tgt := 11) hx hb dX5_cut_243 (by decide) ?_
                                        have hP := hP.sub (ws' := [(mo, .inr (5, [.ref (Z 0), .int (v 0), .int (v 1), .ref (Z 1), .int (nI len), .ref (Z 2), .ref (Z 3), .int (nI (ts.length + 1)), .int (v 3), .int (v 4), .ref (Z 4), .ref (Z 5), .ref (Z 6), .ref (Z 7), .ref (Z 8), .int (v 5), .int (v 6), .int (v 7)])), ((Z 1), .inl (cB, 16000, .inl gt)), ((Z 2), .inl (cI, 16002, .inl (upd gf ts.length (nI i)))), ((Z 3), .inl (cI, 16002, .inl (upd go ((ts.length + 1) - 1) (nI (i + 1)))))]) [0, 1, 2, 3] rfl
                                        have hD := hD.sub (ws' := [(mo, .inr (5, [.ref (Z 0), .int (v 0), .int (v 1), .ref (Z 1), .int (nI len), .ref (Z 2), .ref (Z 3), .int (nI (ts.length + 1)), .int (v 3), .int (v 4), .ref (Z 4), .ref (Z 5), .ref (Z 6), .ref (Z 7), .ref (Z 8), .int (v 5), .int (v 6), .int (v 7)])), ((Z 1), .inl (cB, 16000, .inl gt)), ((Z 2), .inl (cI, 16002, .inl (upd gf ts.length (nI i)))), ((Z 3), .inl (cI, 16002, .inl (upd go ((ts.length + 1) - 1) (nI (i + 1)))))]) [0, 1, 2, 3] (by decide) rfl
                                        have hP : va_P D vwCl [(mo, .inr (5, [.ref (Z 0), .int (v 0), .int (v 1), .ref (Z 1), .int (nI len), .ref (Z 2), .ref (Z 3), .int (nI (ts.length + 1)), .int (v 3), .int (v 4), .ref (Z 4), .ref (Z 5), .ref (Z 6), .ref (Z 7), .ref (Z 8), .int (v 5), .int (v 6), .int (v 7)])), ((Z 1), .inl (cB, 16000, .inl gt)), ((Z 2), .inl (cI, 16002, .inl (upd gf ts.length (nI i)))), ((Z 3), .inl (cI, 16002, .inl (upd go ts.length (nI (i + 1)))))] H := hP
                                        have hD : va_D A [(mo, .inr (5, [.ref (Z 0), .int (v 0), .int (v 1), .ref (Z 1), .int (nI len), .ref (Z 2), .ref (Z 3), .int (nI (ts.length + 1)), .int (v 3), .int (v 4), .ref (Z 4), .ref (Z 5), .ref (Z 6), .ref (Z 7), .ref (Z 8), .int (v 5), .int (v 6), .int (v 7)])), ((Z 1), .inl (cB, 16000, .inl gt)), ((Z 2), .inl (cI, 16002, .inl (upd gf ts.length (nI i)))), ((Z 3), .inl (cI, 16002, .inl (upd go ts.length (nI (i + 1)))))] := hD
                                        have hP : va_P D vwCl [(mo, .inr (5, [.ref (Z 0), .int (v 0), .int (v 1), .ref (Z 1), .int (nI len), .ref (Z 2), .ref (Z 3), .int (nI ((closeT (ts ++ [(i, i + 1)]) none (i + 1)).length)), .int (v 3), .int (v 4), .ref (Z 4), .ref (Z 5), .ref (Z 6), .ref (Z 7), .ref (Z 8), .int (v 5), .int (v 6), .int (v 7)])), ((Z 1), .inl (cB, 16000, .inl gt)), ((Z 2), .inl (cI, 16002, .inl (upd gf ts.length (nI i)))), ((Z 3), .inl (cI, 16002, .inl (upd go ts.length (nI (i + 1)))))] H := by rw [cl_len]; simp only [len1, opn, Nat.add_zero]; exact hP
                                        have hD : va_D A [(mo, .inr (5, [.ref (Z 0), .int (v 0), .int (v 1), .ref (Z 1), .int (nI len), .ref (Z 2), .ref (Z 3), .int (nI ((closeT (ts ++ [(i, i + 1)]) none (i + 1)).length)), .int (v 3), .int (v 4), .ref (Z 4), .ref (Z 5), .ref (Z 6), .ref (Z 7), .ref (Z 8), .int (v 5), .int (v 6), .int (v 7)])), ((Z 1), .inl (cB, 16000, .inl gt)), ((Z 2), .inl (cI, 16002, .inl (upd gf ts.length (nI i)))), ((Z 3), .inl (cI, 16002, .inl (upd go ts.length (nI (i + 1)))))] := by rw [cl_len]; simp only [len1, opn, Nat.add_zero]; exact hD
                                        exact ih (i + 1) (ts ++ [(i, i + 1)]) none rv (upd gf ts.length (nI i)) (upd go ts.length (nI (i + 1))) H locs (by omega) (by omega) (fun j hj => by rcases Nat.lt_or_ge j i with q9 | q9; exact hal j q9; rw [show j = i by omega]; exact h_al) (scan_g hsc hrv (fun q => q.elim (fun q => by rw [bI_0 c_86] at q; cases q) (fun q => by unfold alP at h_al; omega)) (by rw [c_133]; decide)) (by simp only [len1, opn]; omega) (rwR_add hrw) hP hD hS ls (lv_sub hl [4, 1, 5, 0] rfl)
                                      · exact absurd c_231 (by decide)
                                  · exact absurd (by decide) c_185
                            · have c_133 : ¬ ((BB i) = 40) := fun h9 => c_133 ((nI_eq (a := (BB i)) (b := 40) (by omega) (by omega)).mpr h9)
                              refine lv_iload hx hb dX5_cut_136 (lv_at hl 5 rfl) ?_
                              refine lv_bipush (v := nI 41) hx hb dX5_cut_138 (by decide) ?_
                              refine lv_icmp_eq (tgt := 164) hx hb dX5_cut_140 (by decide) (fun c_140 => ?_) (fun c_140 => ?_)
                              · have c_140 : (BB i) = 41 := (nI_eq (a := (BB i)) (b := 41) (by omega) (by omega)).mp c_140
                                refine lv_iconst (v := nI 1) hx hb dX5_cut_164 (by decide) ?_
                                refine lv_goto (tgt := 169) hx hb dX5_cut_165 (by decide) ?_
                                refine lv_istore (lv' := [(6, .int (nI 1)), (5, .int (nI 0)), (0, .ref mo), (1, .int (nI 0)), (2, .int (bI rv)), (3, .int (nI i)), (4, .int (nI (BB i)))]) hx hb dX5_cut_169 hl (by decide) rfl (fun ls hl => ?_)
                                refine lv_iload hx hb dX5_cut_171 (lv_at hl 1 rfl) ?_
                                refine lv_if_ne (tgt := 181) hx hb dX5_cut_173 (by decide) (fun c_173 => ?_) (fun c_173 => ?_)
                                · exact absurd (by decide) c_173
                                · clear c_173
                                  refine lv_iload hx hb dX5_cut_176 (lv_at hl 0 rfl) ?_
                                  refine lv_if_eq (tgt := 183) hx hb dX5_cut_178 (by decide) (fun c_178 => ?_) (fun c_178 => ?_)
                                  · exact absurd c_178 (by decide)
                                  · clear c_178
                                    refine lv_iconst (v := nI 0) hx hb dX5_cut_181 (by decide) ?_
                                    refine lv_istore_n (lv' := [(1, .int (nI 0)), (6, .int (nI 1)), (5, .int (nI 0)), (0, .ref mo), (2, .int (bI rv)), (3, .int (nI i)), (4, .int (nI (BB i)))]) hx hb dX5_cut_182 rfl hl (by decide) rfl (fun ls hl => ?_)
                                    refine lv_iload hx hb dX5_cut_183 (lv_at hl 2 rfl) ?_
                                    refine lv_if_eq (tgt := 191) hx hb dX5_cut_185 (by decide) (fun c_185 => ?_) (fun c_185 => ?_)
                                    · clear c_185
                                      refine lv_iload_n hx hb dX5_cut_191 rfl (lv_at hl 0 rfl) ?_
                                      refine lv_if_ne (tgt := 215) hx hb dX5_cut_192 (by decide) (fun c_192 => ?_) (fun c_192 => ?_)
                                      · exact absurd (by decide) c_192
                                      · clear c_192
                                        refine lv_aload_n hx hb dX5_cut_195 rfl (lv_at hl 3 rfl) ?_
                                        refine va_get (D := D) (ci := 5) (v := .ref (Z 2)) (C := RX5) (T := TX5) (N := 18) hx hb hts (by decide +kernel) hown hK hP 0 rfl rfl 5 (by decide) (hts (.fieldLink RX5 16 "BodyTextModel" "tokenFrom" "[I") (by decide +kernel)) (fun _ h9 => h9) rfl dX5_cut_196 ?_
                                        refine lv_aload_n hx hb dX5_cut_199 rfl (lv_at hl 3 rfl) ?_
                                        refine va_get (D := D) (ci := 5) (v := .int (nI ts.length)) (C := RX5) (T := TX5) (N := 18) hx hb hts (by decide +kernel) hown hK hP 0 rfl rfl 7 (by decide) (hts (.fieldLink RX5 56 "BodyTextModel" "tokens" "I") (by decide +kernel)) (fun _ h9 => h9) rfl dX5_cut_200 ?_
                                        refine lv_iload_n hx hb dX5_cut_203 rfl (lv_at hl 5 rfl) ?_
                                        refine va_iast hx hb hK hP hD hS 2 1 rfl rfl (vp_in_nI (by omega) (by omega)) dX5_cut_204 (fun H locs hP hD hS => ?_)
                                        rw [nI_clamp (by omega)] at hP hD
                                        have hP : va_P D vwCl [(mo, .inr (5, [.ref (Z 0), .int (v 0), .int (v 1), .ref (Z 1), .int (nI len), .ref (Z 2), .ref (Z 3), .int (nI ts.length), .int (v 3), .int (v 4), .ref (Z 4), .ref (Z 5), .ref (Z 6), .ref (Z 7), .ref (Z 8), .int (v 5), .int (v 6), .int (v 7)])), ((Z 1), .inl (cB, 16000, .inl gt)), ((Z 2), .inl (cI, 16002, .inl (upd gf ts.length (nI i)))), ((Z 3), .inl (cI, 16002, .inl go))] H := hP
                                        have hD : va_D A [(mo, .inr (5, [.ref (Z 0), .int (v 0), .int (v 1), .ref (Z 1), .int (nI len), .ref (Z 2), .ref (Z 3), .int (nI ts.length), .int (v 3), .int (v 4), .ref (Z 4), .ref (Z 5), .ref (Z 6), .ref (Z 7), .ref (Z 8), .int (v 5), .int (v 6), .int (v 7)])), ((Z 1), .inl (cB, 16000, .inl gt)), ((Z 2), .inl (cI, 16002, .inl (upd gf ts.length (nI i)))), ((Z 3), .inl (cI, 16002, .inl go))] := hD
                                        refine lv_aload_n hx hb dX5_cut_205 rfl (lv_at hl 3 rfl) ?_
                                        refine lv_dup hx hb dX5_cut_206 rfl ?_
                                        refine va_get (D := D) (ci := 5) (v := .int (nI ts.length)) (C := RX5) (T := TX5) (N := 18) hx hb hts (by decide +kernel) hown hK hP 0 rfl rfl 7 (by decide) (hts (.fieldLink RX5 56 "BodyTextModel" "tokens" "I") (by decide +kernel)) (fun _ h9 => h9) rfl dX5_cut_207 ?_
                                        refine lv_iconst (v := nI 1) hx hb dX5_cut_210 (by decide) ?_
                                        refine lv_iadd hx hb dX5_cut_211 ?_
                                        refine bt_topi (y := nI (ts.length + 1)) (nI_add _ _) ?_
                                        refine va_put (D := D) (ci := 5) (v := .int (nI (ts.length + 1))) (ty := .int) (C := RX5) (T := TX5) (N := 18) hx hb hts (by decide +kernel) tyX5 tyX5_ok nmX5 hown hK hP hD hS 0 rfl rfl 7 (by decide) (hts (.fieldLink RX5 56 "BodyTextModel" "tokens" "I") (by decide +kernel)) (fun _ h9 => h9) rfl (by decide +kernel) rfl rfl (Nat.le_of_ble_eq_true rfl) dX5_cut_212 (fun H locs hP hD hS => ?_)
                                        have hP : va_P D vwCl [(mo, .inr (5, [.ref (Z 0), .int (v 0), .int (v 1), .ref (Z 1), .int (nI len), .ref (Z 2), .ref (Z 3), .int (nI (ts.length + 1)), .int (v 3), .int (v 4), .ref (Z 4), .ref (Z 5), .ref (Z 6), .ref (Z 7), .ref (Z 8), .int (v 5), .int (v 6), .int (v 7)])), ((Z 1), .inl (cB, 16000, .inl gt)), ((Z 2), .inl (cI, 16002, .inl (upd gf ts.length (nI i)))), ((Z 3), .inl (cI, 16002, .inl go))] H := hP
                                        have hD : va_D A [(mo, .inr (5, [.ref (Z 0), .int (v 0), .int (v 1), .ref (Z 1), .int (nI len), .ref (Z 2), .ref (Z 3), .int (nI (ts.length + 1)), .int (v 3), .int (v 4), .ref (Z 4), .ref (Z 5), .ref (Z 6), .ref (Z 7), .ref (Z 8), .int (v 5), .int (v 6), .int (v 7)])), ((Z 1), .inl (cB, 16000, .inl gt)), ((Z 2), .inl (cI, 16002, .inl (upd gf ts.length (nI i)))), ((Z 3), .inl (cI, 16002, .inl go))] := hD
                                        refine lv_aload_n hx hb dX5_cut_215 rfl (lv_at hl 3 rfl) ?_
                                        refine va_get (D := D) (ci := 5) (v := .ref (Z 3)) (C := RX5) (T := TX5) (N := 18) hx hb hts (by decide +kernel) hown hK hP 0 rfl rfl 6 (by decide) (hts (.fieldLink RX5 20 "BodyTextModel" "tokenTo" "[I") (by decide +kernel)) (fun _ h9 => h9) rfl dX5_cut_216 ?_
                                        refine lv_aload_n hx hb dX5_cut_219 rfl (lv_at hl 3 rfl) ?_
                                        refine va_get (D := D) (ci := 5) (v := .int (nI (ts.length + 1))) (C := RX5) (T := TX5) (N := 18) hx hb hts (by decide +kernel) hown hK hP 0 rfl rfl 7 (by decide) (hts (.fieldLink RX5 56 "BodyTextModel" "tokens" "I") (by decide +kernel)) (fun _ h9 => h9) rfl dX5_cut_220 ?_
                                        refine lv_iconst (v := nI 1) hx hb dX5_cut_223 (by decide) ?_
                                        refine lv_isub hx hb dX5_cut_224 ?_
                                        refine bt_topi (y := nI ((ts.length + 1) - 1)) (pk_sub (by omega)) ?_
                                        refine lv_iload_n hx hb dX5_cut_225 rfl (lv_at hl 5 rfl) ?_
                                        refine lv_iconst (v := nI 1) hx hb dX5_cut_226 (by decide) ?_
                                        refine lv_iadd hx hb dX5_cut_227 ?_
                                        refine bt_topi (y := nI (i + 1)) (nI_add _ _) ?_
                                        refine va_iast hx hb hK hP hD hS 3 1 rfl rfl (vp_in_nI (by omega) (by omega)) dX5_cut_228 (fun H locs hP hD hS => ?_)
                                        rw [nI_clamp (by omega)] at hP hD
                                        have hP : va_P D vwCl [(mo, .inr (5, [.ref (Z 0), .int (v 0), .int (v 1), .ref (Z 1), .int (nI len), .ref (Z 2), .ref (Z 3), .int (nI (ts.length + 1)), .int (v 3), .int (v 4), .ref (Z 4), .ref (Z 5), .ref (Z 6), .ref (Z 7), .ref (Z 8), .int (v 5), .int (v 6), .int (v 7)])), ((Z 1), .inl (cB, 16000, .inl gt)), ((Z 2), .inl (cI, 16002, .inl (upd gf ts.length (nI i)))), ((Z 3), .inl (cI, 16002, .inl (upd go ((ts.length + 1) - 1) (nI (i + 1)))))] H := hP
                                        have hD : va_D A [(mo, .inr (5, [.ref (Z 0), .int (v 0), .int (v 1), .ref (Z 1), .int (nI len), .ref (Z 2), .ref (Z 3), .int (nI (ts.length + 1)), .int (v 3), .int (v 4), .ref (Z 4), .ref (Z 5), .ref (Z 6), .ref (Z 7), .ref (Z 8), .int (v 5), .int (v 6), .int (v 7)])), ((Z 1), .inl (cB, 16000, .inl gt)), ((Z 2), .inl (cI, 16002, .inl (upd gf ts.length (nI i)))), ((Z 3), .inl (cI, 16002, .inl (upd go ((ts.length + 1) - 1) (nI (i + 1)))))] := hD
                                        refine lv_iload hx hb dX5_cut_229 (lv_at hl 1 rfl) ?_
                                        refine lv_if_ne (tgt := 238) hx hb dX5_cut_231 (by decide) (fun c_231 => ?_) (fun c_231 => ?_)
                                        · clear c_231
                                          refine lv_iconst (v := nI 0) hx hb dX5_cut_238 (by decide) ?_
                                          refine lv_istore_n (lv' := [(1, .int (nI 0)), (6, .int (nI 1)), (5, .int (nI 0)), (0, .ref mo), (2, .int (bI rv)), (3, .int (nI i)), (4, .int (nI (BB i)))]) hx hb dX5_cut_239 rfl hl (by decide) rfl (fun ls hl => ?_)
                                          refine lv_iinc (v := nI (i + 1)) (lv' := [(3, .int (nI (i + 1))), (1, .int (nI 0)), (6, .int (nI 1)), (5, .int (nI 0)), (0, .ref mo), (2, .int (bI rv)), (4, .int (nI (BB i)))]) hx hb dX5_cut_240 hl (k := 5) rfl (nI_add i 1) (by decide) rfl (fun ls hl => ?_)
                                          refine lv_goto (tgt := 11) hx hb dX5_cut_243 (by decide) ?_
                                          have hP := hP.sub (ws' := [(mo, .inr (5, [.ref (Z 0), .int (v 0), .int (v 1), .ref (Z 1), .int (nI len), .ref (Z 2), .ref (Z 3), .int (nI (ts.length + 1)), .int (v 3), .int (v 4), .ref (Z 4), .ref (Z 5), .ref (Z 6), .ref (Z 7), .ref (Z 8), .int (v 5), .int (v 6), .int (v 7)])), ((Z 1), .inl (cB, 16000, .inl gt)), ((Z 2), .inl (cI, 16002, .inl (upd gf ts.length (nI i)))), ((Z 3), .inl (cI, 16002, .inl (upd go ((ts.length + 1) - 1) (nI (i + 1)))))]) [0, 1, 2, 3] rfl
                                          have hD := hD.sub (ws' := [(mo, .inr (5, [.ref (Z 0), .int (v 0), .int (v 1), .ref (Z 1), .int (nI len), .ref (Z 2), .ref (Z 3), .int (nI (ts.length + 1)), .int (v 3), .int (v 4), .ref (Z 4), .ref (Z 5), .ref (Z 6), .ref (Z 7), .ref (Z 8), .int (v 5), .int (v 6), .int (v 7)])), ((Z 1), .inl (cB, 16000, .inl gt)), ((Z 2), .inl (cI, 16002, .inl (upd gf ts.length (nI i)))), ((Z 3), .inl (cI, 16002, .inl (upd go ((ts.length + 1) - 1) (nI (i + 1)))))]) [0, 1, 2, 3] (by decide) rfl
                                          have hP : va_P D vwCl [(mo, .inr (5, [.ref (Z 0), .int (v 0), .int (v 1), .ref (Z 1), .int (nI len), .ref (Z 2), .ref (Z 3), .int (nI (ts.length + 1)), .int (v 3), .int (v 4), .ref (Z 4), .ref (Z 5), .ref (Z 6), .ref (Z 7), .ref (Z 8), .int (v 5), .int (v 6), .int (v 7)])), ((Z 1), .inl (cB, 16000, .inl gt)), ((Z 2), .inl (cI, 16002, .inl (upd gf ts.length (nI i)))), ((Z 3), .inl (cI, 16002, .inl (upd go ts.length (nI (i + 1)))))] H := hP
                                          have hD : va_D A [(mo, .inr (5, [.ref (Z 0), .int (v 0), .int (v 1), .ref (Z 1), .int (nI len), .ref (Z 2), .ref (Z 3), .int (nI (ts.length + 1)), .int (v 3), .int (v 4), .ref (Z 4), .ref (Z 5), .ref (Z 6), .ref (Z 7), .ref (Z 8), .int (v 5), .int (v 6), .int (v 7)])), ((Z 1), .inl (cB, 16000, .inl gt)), ((Z 2), .inl (cI, 16002, .inl (upd gf ts.length (nI i)))), ((Z 3), .inl (cI, 16002, .inl (upd go ts.length (nI (i + 1)))))] := hD
                                          have hP : va_P D vwCl [(mo, .inr (5, [.ref (Z 0), .int (v 0), .int (v 1), .ref (Z 1), .int (nI len), .ref (Z 2), .ref (Z 3), .int (nI ((closeT (ts ++ [(i, i + 1)]) none (i + 1)).length)), .int (v 3), .int (v 4), .ref (Z 4), .ref (Z 5), .ref (Z 6), .ref (Z 7), .ref (Z 8), .int (v 5), .int (v 6), .int (v 7)])), ((Z 1), .inl (cB, 16000, .inl gt)), ((Z 2), .inl (cI, 16002, .inl (upd gf ts.length (nI i)))), ((Z 3), .inl (cI, 16002, .inl (upd go ts.length (nI (i + 1)))))] H := by rw [cl_len]; simp only [len1, opn, Nat.add_zero]; exact hP
                                          have hD : va_D A [(mo, .inr (5, [.ref (Z 0), .int (v 0), .int (v 1), .ref (Z 1), .int (nI len), .ref (Z 2), .ref (Z 3), .int (nI ((closeT (ts ++ [(i, i + 1)]) none (i + 1)).length)), .int (v 3), .int (v 4), .ref (Z 4), .ref (Z 5), .ref (Z 6), .ref (Z 7), .ref (Z 8), .int (v 5), .int (v 6), .int (v 7)])), ((Z 1), .inl (cB, 16000, .inl gt)), ((Z 2), .inl (cI, 16002, .inl (upd gf ts.length (nI i)))), ((Z 3), .inl (cI, 16002, .inl (upd go ts.length (nI (i + 1)))))] := by rw [cl_len]; simp only [len1, opn, Nat.add_zero]; exact hD
                                          exact ih (i + 1) (ts ++ [(i, i + 1)]) none rv (upd gf ts.length (nI i)) (upd go ts.length (nI (i + 1))) H locs (by omega) (by omega) (fun j hj => by rcases Nat.lt_or_ge j i with q9 | q9; exact hal j q9; rw [show j = i by omega]; exact h_al) (scan_g hsc hrv (fun q => q.elim (fun q => by rw [bI_0 c_86] at q; cases q) (fun q => by unfold alP at h_al; omega)) (by rw [c_140]; decide)) (by simp only [len1, opn]; omega) (rwR_add hrw) hP hD hS ls (lv_sub hl [4, 1, 5, 0] rfl)
                                        · exact absurd c_231 (by decide)
                                    · exact absurd (by decide) c_185
                              · have c_140 : ¬ ((BB i) = 41) := fun h9 => c_140 ((nI_eq (a := (BB i)) (b := 41) (by omega) (by omega)).mpr h9)
                                refine lv_iload hx hb dX5_cut_143 (lv_at hl 5 rfl) ?_
                                refine lv_bipush (v := nI 123) hx hb dX5_cut_145 (by decide) ?_
                                refine lv_icmp_eq (tgt := 164) hx hb dX5_cut_147 (by decide) (fun c_147 => ?_) (fun c_147 => ?_)
                                · have c_147 : (BB i) = 123 := (nI_eq (a := (BB i)) (b := 123) (by omega) (by omega)).mp c_147
                                  refine lv_iconst (v := nI 1) hx hb dX5_cut_164 (by decide) ?_
                                  refine lv_goto (tgt := 169) hx hb dX5_cut_165 (by decide) ?_
                                  refine lv_istore (lv' := [(6, .int (nI 1)), (5, .int (nI 0)), (0, .ref mo), (1, .int (nI 0)), (2, .int (bI rv)), (3, .int (nI i)), (4, .int (nI (BB i)))]) hx hb dX5_cut_169 hl (by decide) rfl (fun ls hl => ?_)
                                  refine lv_iload hx hb dX5_cut_171 (lv_at hl 1 rfl) ?_
                                  refine lv_if_ne (tgt := 181) hx hb dX5_cut_173 (by decide) (fun c_173 => ?_) (fun c_173 => ?_)
                                  · exact absurd (by decide) c_173
                                  · clear c_173
                                    refine lv_iload hx hb dX5_cut_176 (lv_at hl 0 rfl) ?_
                                    refine lv_if_eq (tgt := 183) hx hb dX5_cut_178 (by decide) (fun c_178 => ?_) (fun c_178 => ?_)
                                    · exact absurd c_178 (by decide)
                                    · clear c_178
                                      refine lv_iconst (v := nI 0) hx hb dX5_cut_181 (by decide) ?_
                                      refine lv_istore_n (lv' := [(1, .int (nI 0)), (6, .int (nI 1)), (5, .int (nI 0)), (0, .ref mo), (2, .int (bI rv)), (3, .int (nI i)), (4, .int (nI (BB i)))]) hx hb dX5_cut_182 rfl hl (by decide) rfl (fun ls hl => ?_)
                                      refine lv_iload hx hb dX5_cut_183 (lv_at hl 2 rfl) ?_
                                      refine lv_if_eq (tgt := 191) hx hb dX5_cut_185 (by decide) (fun c_185 => ?_) (fun c_185 => ?_)
                                      · clear c_185
                                        refine lv_iload_n hx hb dX5_cut_191 rfl (lv_at hl 0 rfl) ?_
                                        refine lv_if_ne (tgt := 215) hx hb dX5_cut_192 (by decide) (fun c_192 => ?_) (fun c_192 => ?_)
                                        · exact absurd (by decide) c_192
                                        · clear c_192
                                          refine lv_aload_n hx hb dX5_cut_195 rfl (lv_at hl 3 rfl) ?_
                                          refine va_get (D := D) (ci := 5) (v := .ref (Z 2)) (C := RX5) (T := TX5) (N := 18) hx hb hts (by decide +kernel) hown hK hP 0 rfl rfl 5 (by decide) (hts (.fieldLink RX5 16 "BodyTextModel" "tokenFrom" "[I") (by decide +kernel)) (fun _ h9 => h9) rfl dX5_cut_196 ?_
                                          refine lv_aload_n hx hb dX5_cut_199 rfl (lv_at hl 3 rfl) ?_
                                          refine va_get (D := D) (ci := 5) (v := .int (nI ts.length)) (C := RX5) (T := TX5) (N := 18) hx hb hts (by decide +kernel) hown hK hP 0 rfl rfl 7 (by decide) (hts (.fieldLink RX5 56 "BodyTextModel" "tokens" "I") (by decide +kernel)) (fun _ h9 => h9) rfl dX5_cut_200 ?_
                                          refine lv_iload_n hx hb dX5_cut_203 rfl (lv_at hl 5 rfl) ?_
                                          refine va_iast hx hb hK hP hD hS 2 1 rfl rfl (vp_in_nI (by omega) (by omega)) dX5_cut_204 (fun H locs hP hD hS => ?_)
                                          rw [nI_clamp (by omega)] at hP hD
                                          have hP : va_P D vwCl [(mo, .inr (5, [.ref (Z 0), .int (v 0), .int (v 1), .ref (Z 1), .int (nI len), .ref (Z 2), .ref (Z 3), .int (nI ts.length), .int (v 3), .int (v 4), .ref (Z 4), .ref (Z 5), .ref (Z 6), .ref (Z 7), .ref (Z 8), .int (v 5), .int (v 6), .int (v 7)])), ((Z 1), .inl (cB, 16000, .inl gt)), ((Z 2), .inl (cI, 16002, .inl (upd gf ts.length (nI i)))), ((Z 3), .inl (cI, 16002, .inl go))] H := hP
                                          have hD : va_D A [(mo, .inr (5, [.ref (Z 0), .int (v 0), .int (v 1), .ref (Z 1), .int (nI len), .ref (Z 2), .ref (Z 3), .int (nI ts.length), .int (v 3), .int (v 4), .ref (Z 4), .ref (Z 5), .ref (Z 6), .ref (Z 7), .ref (Z 8), .int (v 5), .int (v 6), .int (v 7)])), ((Z 1), .inl (cB, 16000, .inl gt)), ((Z 2), .inl (cI, 16002, .inl (upd gf ts.length (nI i)))), ((Z 3), .inl (cI, 16002, .inl go))] := hD
                                          refine lv_aload_n hx hb dX5_cut_205 rfl (lv_at hl 3 rfl) ?_
                                          refine lv_dup hx hb dX5_cut_206 rfl ?_
                                          refine va_get (D := D) (ci := 5) (v := .int (nI ts.length)) (C := RX5) (T := TX5) (N := 18) hx hb hts (by decide +kernel) hown hK hP 0 rfl rfl 7 (by decide) (hts (.fieldLink RX5 56 "BodyTextModel" "tokens" "I") (by decide +kernel)) (fun _ h9 => h9) rfl dX5_cut_207 ?_
                                          refine lv_iconst (v := nI 1) hx hb dX5_cut_210 (by decide) ?_
                                          refine lv_iadd hx hb dX5_cut_211 ?_
                                          refine bt_topi (y := nI (ts.length + 1)) (nI_add _ _) ?_
                                          refine va_put (D := D) (ci := 5) (v := .int (nI (ts.length + 1))) (ty := .int) (C := RX5) (T := TX5) (N := 18) hx hb hts (by decide +kernel) tyX5 tyX5_ok nmX5 hown hK hP hD hS 0 rfl rfl 7 (by decide) (hts (.fieldLink RX5 56 "BodyTextModel" "tokens" "I") (by decide +kernel)) (fun _ h9 => h9) rfl (by decide +kernel) rfl rfl (Nat.le_of_ble_eq_true rfl) dX5_cut_212 (fun H locs hP hD hS => ?_)
                                          have hP : va_P D vwCl [(mo, .inr (5, [.ref (Z 0), .int (v 0), .int (v 1), .ref (Z 1), .int (nI len), .ref (Z 2), .ref (Z 3), .int (nI (ts.length + 1)), .int (v 3), .int (v 4), .ref (Z 4), .ref (Z 5), .ref (Z 6), .ref (Z 7), .ref (Z 8), .int (v 5), .int (v 6), .int (v 7)])), ((Z 1), .inl (cB, 16000, .inl gt)), ((Z 2), .inl (cI, 16002, .inl (upd gf ts.length (nI i)))), ((Z 3), .inl (cI, 16002, .inl go))] H := hP
                                          have hD : va_D A [(mo, .inr (5, [.ref (Z 0), .int (v 0), .int (v 1), .ref (Z 1), .int (nI len), .ref (Z 2), .ref (Z 3), .int (nI (ts.length + 1)), .int (v 3), .int (v 4), .ref (Z 4), .ref (Z 5), .ref (Z 6), .ref (Z 7), .ref (Z 8), .int (v 5), .int (v 6), .int (v 7)])), ((Z 1), .inl (cB, 16000, .inl gt)), ((Z 2), .inl (cI, 16002, .inl (upd gf ts.length (nI i)))), ((Z 3), .inl (cI, 16002, .inl go))] := hD
                                          refine lv_aload_n hx hb dX5_cut_215 rfl (lv_at hl 3 rfl) ?_
                                          refine va_get (D := D) (ci := 5) (v := .ref (Z 3)) (C := RX5) (T := TX5) (N := 18) hx hb hts (by decide +kernel) hown hK hP 0 rfl rfl 6 (by decide) (hts (.fieldLink RX5 20 "BodyTextModel" "tokenTo" "[I") (by decide +kernel)) (fun _ h9 => h9) rfl dX5_cut_216 ?_
                                          refine lv_aload_n hx hb dX5_cut_219 rfl (lv_at hl 3 rfl) ?_
                                          refine va_get (D := D) (ci := 5) (v := .int (nI (ts.length + 1))) (C := RX5) (T := TX5) (N := 18) hx hb hts (by decide +kernel) hown hK hP 0 rfl rfl 7 (by decide) (hts (.fieldLink RX5 56 "BodyTextModel" "tokens" "I") (by decide +kernel)) (fun _ h9 => h9) rfl dX5_cut_220 ?_
                                          refine lv_iconst (v := nI 1) hx hb dX5_cut_223 (by decide) ?_
                                          refine lv_isub hx hb dX5_cut_224 ?_
                                          refine bt_topi (y := nI ((ts.length + 1) - 1)) (pk_sub (by omega)) ?_
                                          refine lv_iload_n hx hb dX5_cut_225 rfl (lv_at hl 5 rfl) ?_
                                          refine lv_iconst (v := nI 1) hx hb dX5_cut_226 (by decide) ?_
                                          refine lv_iadd hx hb dX5_cut_227 ?_
                                          refine bt_topi (y := nI (i + 1)) (nI_add _ _) ?_
                                          refine va_iast hx hb hK hP hD hS 3 1 rfl rfl (vp_in_nI (by omega) (by omega)) dX5_cut_228 (fun H locs hP hD hS => ?_)
                                          rw [nI_clamp (by omega)] at hP hD
                                          have hP : va_P D vwCl [(mo, .inr (5, [.ref (Z 0), .int (v 0), .int (v 1), .ref (Z 1), .int (nI len), .ref (Z 2), .ref (Z 3), .int (nI (ts.length + 1)), .int (v 3), .int (v 4), .ref (Z 4), .ref (Z 5), .ref (Z 6), .ref (Z 7), .ref (Z 8), .int (v 5), .int (v 6), .int (v 7)])), ((Z 1), .inl (cB, 16000, .inl gt)), ((Z 2), .inl (cI, 16002, .inl (upd gf ts.length (nI i)))), ((Z 3), .inl (cI, 16002, .inl (upd go ((ts.length + 1) - 1) (nI (i + 1)))))] H := hP
                                          have hD : va_D A [(mo, .inr (5, [.ref (Z 0), .int (v 0), .int (v 1), .ref (Z 1), .int (nI len), .ref (Z 2), .ref (Z 3), .int (nI (ts.length + 1)), .int (v 3), .int (v 4), .ref (Z 4), .ref (Z 5), .ref (Z 6), .ref (Z 7), .ref (Z 8), .int (v 5), .int (v 6), .int (v 7)])), ((Z 1), .inl (cB, 16000, .inl gt)), ((Z 2), .inl (cI, 16002, .inl (upd gf ts.length (nI i)))), ((Z 3), .inl (cI, 16002, .inl (upd go ((ts.length + 1) - 1) (nI (i + 1)))))] := hD
                                          refine lv_iload hx hb dX5_cut_229 (lv_at hl 1 rfl) ?_
                                          refine lv_if_ne (tgt := 238) hx hb dX5_cut_231 (by decide) (fun c_231 => ?_) (fun c_231 => ?_)
                                          · clear c_231
                                            refine lv_iconst (v := nI 0) hx hb dX5_cut_238 (by decide) ?_
                                            refine lv_istore_n (lv' := [(1, .int (nI 0)), (6, .int (nI 1)), (5, .int (nI 0)), (0, .ref mo), (2, .int (bI rv)), (3, .int (nI i)), (4, .int (nI (BB i)))]) hx hb dX5_cut_239 rfl hl (by decide) rfl (fun ls hl => ?_)
                                            refine lv_iinc (v := nI (i + 1)) (lv' := [(3, .int (nI (i + 1))), (1, .int (nI 0)), (6, .int (nI 1)), (5, .int (nI 0)), (0, .ref mo), (2, .int (bI rv)), (4, .int (nI (BB i)))]) hx hb dX5_cut_240 hl (k := 5) rfl (nI_add i 1) (by decide) rfl (fun ls hl => ?_)
                                            refine lv_goto (tgt := 11) hx hb dX5_cut_243 (by decide) ?_
                                            have hP := hP.sub (ws' := [(mo, .inr (5, [.ref (Z 0), .int (v 0), .int (v 1), .ref (Z 1), .int (nI len), .ref (Z 2), .ref (Z 3), .int (nI (ts.length + 1)), .int (v 3), .int (v 4), .ref (Z 4), .ref (Z 5), .ref (Z 6), .ref (Z 7), .ref (Z 8), .int (v 5), .int (v 6), .int (v 7)])), ((Z 1), .inl (cB, 16000, .inl gt)), ((Z 2), .inl (cI, 16002, .inl (upd gf ts.length (nI i)))), ((Z 3), .inl (cI, 16002, .inl (upd go ((ts.length + 1) - 1) (nI (i + 1)))))]) [0, 1, 2, 3] rfl
                                            have hD := hD.sub (ws' := [(mo, .inr (5, [.ref (Z 0), .int (v 0), .int (v 1), .ref (Z 1), .int (nI len), .ref (Z 2), .ref (Z 3), .int (nI (ts.length + 1)), .int (v 3), .int (v 4), .ref (Z 4), .ref (Z 5), .ref (Z 6), .ref (Z 7), .ref (Z 8), .int (v 5), .int (v 6), .int (v 7)])), ((Z 1), .inl (cB, 16000, .inl gt)), ((Z 2), .inl (cI, 16002, .inl (upd gf ts.length (nI i)))), ((Z 3), .inl (cI, 16002, .inl (upd go ((ts.length + 1) - 1) (nI (i + 1)))))]) [0, 1, 2, 3] (by decide) rfl
                                            have hP : va_P D vwCl [(mo, .inr (5, [.ref (Z 0), .int (v 0), .int (v 1), .ref (Z 1), .int (nI len), .ref (Z 2), .ref (Z 3), .int (nI (ts.length + 1)), .int (v 3), .int (v 4), .ref (Z 4), .ref (Z 5), .ref (Z 6), .ref (Z 7), .ref (Z 8), .int (v 5), .int (v 6), .int (v 7)])), ((Z 1), .inl (cB, 16000, .inl gt)), ((Z 2), .inl (cI, 16002, .inl (upd gf ts.length (nI i)))), ((Z 3), .inl (cI, 16002, .inl (upd go ts.length (nI (i + 1)))))] H := hP
                                            have hD : va_D A [(mo, .inr (5, [.ref (Z 0), .int (v 0), .int (v 1), .ref (Z 1), .int (nI len), .ref (Z 2), .ref (Z 3), .int (nI (ts.length + 1)), .int (v 3), .int (v 4), .ref (Z 4), .ref (Z 5), .ref (Z 6), .ref (Z 7), .ref (Z 8), .int (v 5), .int (v 6), .int (v 7)])), ((Z 1), .inl (cB, 16000, .inl gt)), ((Z 2), .inl (cI, 16002, .inl (upd gf ts.length (nI i)))), ((Z 3), .inl (cI, 16002, .inl (upd go ts.length (nI (i + 1)))))] := hD
                                            have hP : va_P D vwCl [(mo, .inr (5, [.ref (Z 0), .int (v 0), .int (v 1), .ref (Z 1), .int (nI len), .ref (Z 2), .ref (Z 3), .int (nI ((closeT (ts ++ [(i, i + 1)]) none (i + 1)).length)), .int (v 3), .int (v 4), .ref (Z 4), .ref (Z 5), .ref (Z 6), .ref (Z 7), .ref (Z 8), .int (v 5), .int (v 6), .int (v 7)])), ((Z 1), .inl (cB, 16000, .inl gt)), ((Z 2), .inl (cI, 16002, .inl (upd gf ts.length (nI i)))), ((Z 3), .inl (cI, 16002, .inl (upd go ts.length (nI (i + 1)))))] H := by rw [cl_len]; simp only [len1, opn, Nat.add_zero]; exact hP
                                            have hD : va_D A [(mo, .inr (5, [.ref (Z 0), .int (v 0), .int (v 1), .ref (Z 1), .int (nI len), .ref (Z 2), .ref (Z 3), .int (nI ((closeT (ts ++ [(i, i + 1)]) none (i + 1)).length)), .int (v 3), .int (v 4), .ref (Z 4), .ref (Z 5), .ref (Z 6), .ref (Z 7), .ref (Z 8), .int (v 5), .int (v 6), .int (v 7)])), ((Z 1), .inl (cB, 16000, .inl gt)), ((Z 2), .inl (cI, 16002, .inl (upd gf ts.length (nI i)))), ((Z 3), .inl (cI, 16002, .inl (upd go ts.length (nI (i + 1)))))] := by rw [cl_len]; simp only [len1, opn, Nat.add_zero]; exact hD
                                            exact ih (i + 1) (ts ++ [(i, i + 1)]) none rv (upd gf ts.length (nI i)) (upd go ts.length (nI (i + 1))) H locs (by omega) (by omega) (fun j hj => by rcases Nat.lt_or_ge j i with q9 | q9; exact hal j q9; rw [show j = i by omega]; exact h_al) (scan_g hsc hrv (fun q => q.elim (fun q => by rw [bI_0 c_86] at q; cases q) (fun q => by unfold alP at h_al; omega)) (by rw [c_147]; decide)) (by simp only [len1, opn]; omega) (rwR_add hrw) hP hD hS ls (lv_sub hl [4, 1, 5, 0] rfl)
                                          · exact absurd c_231 (by decide)
                                      · exact absurd (by decide) c_185
                                · have c_147 : ¬ ((BB i) = 123) := fun h9 => c_147 ((nI_eq (a := (BB i)) (b := 123) (by omega) (by omega)).mpr h9)
                                  refine lv_iload hx hb dX5_cut_150 (lv_at hl 5 rfl) ?_
                                  refine lv_bipush (v := nI 125) hx hb dX5_cut_152 (by decide) ?_
                                  refine lv_icmp_eq (tgt := 164) hx hb dX5_cut_154 (by decide) (fun c_154 => ?_) (fun c_154 => ?_)
                                  · have c_154 : (BB i) = 125 := (nI_eq (a := (BB i)) (b := 125) (by omega) (by omega)).mp c_154
                                    refine lv_iconst (v := nI 1) hx hb dX5_cut_164 (by decide) ?_
                                    refine lv_goto (tgt := 169) hx hb dX5_cut_165 (by decide) ?_
                                    refine lv_istore (lv' := [(6, .int (nI 1)), (5, .int (nI 0)), (0, .ref mo), (1, .int (nI 0)), (2, .int (bI rv)), (3, .int (nI i)), (4, .int (nI (BB i)))]) hx hb dX5_cut_169 hl (by decide) rfl (fun ls hl => ?_)
                                    refine lv_iload hx hb dX5_cut_171 (lv_at hl 1 rfl) ?_
                                    refine lv_if_ne (tgt := 181) hx hb dX5_cut_173 (by decide) (fun c_173 => ?_) (fun c_173 => ?_)
                                    · exact absurd (by decide) c_173
                                    · clear c_173
                                      refine lv_iload hx hb dX5_cut_176 (lv_at hl 0 rfl) ?_
                                      refine lv_if_eq (tgt := 183) hx hb dX5_cut_178 (by decide) (fun c_178 => ?_) (fun c_178 => ?_)
                                      · exact absurd c_178 (by decide)
                                      · clear c_178
                                        refine lv_iconst (v := nI 0) hx hb dX5_cut_181 (by decide) ?_
                                        refine lv_istore_n (lv' := [(1, .int (nI 0)), (6, .int (nI 1)), (5, .int (nI 0)), (0, .ref mo), (2, .int (bI rv)), (3, .int (nI i)), (4, .int (nI (BB i)))]) hx hb dX5_cut_182 rfl hl (by decide) rfl (fun ls hl => ?_)
                                        refine lv_iload hx hb dX5_cut_183 (lv_at hl 2 rfl) ?_
                                        refine lv_if_eq (tgt := 191) hx hb dX5_cut_185 (by decide) (fun c_185 => ?_) (fun c_185 => ?_)
                                        · clear c_185
                                          refine lv_iload_n hx hb dX5_cut_191 rfl (lv_at hl 0 rfl) ?_
                                          refine lv_if_ne (tgt := 215) hx hb dX5_cut_192 (by decide) (fun c_192 => ?_) (fun c_192 => ?_)
                                          · exact absurd (by decide) c_192
                                          · clear c_192
                                            refine lv_aload_n hx hb dX5_cut_195 rfl (lv_at hl 3 rfl) ?_
                                            refine va_get (D := D) (ci := 5) (v := .ref (Z 2)) (C := RX5) (T := TX5) (N := 18) hx hb hts (by decide +kernel) hown hK hP 0 rfl rfl 5 (by decide) (hts (.fieldLink RX5 16 "BodyTextModel" "tokenFrom" "[I") (by decide +kernel)) (fun _ h9 => h9) rfl dX5_cut_196 ?_
                                            refine lv_aload_n hx hb dX5_cut_199 rfl (lv_at hl 3 rfl) ?_
                                            refine va_get (D := D) (ci := 5) (v := .int (nI ts.length)) (C := RX5) (T := TX5) (N := 18) hx hb hts (by decide +kernel) hown hK hP 0 rfl rfl 7 (by decide) (hts (.fieldLink RX5 56 "BodyTextModel" "tokens" "I") (by decide +kernel)) (fun _ h9 => h9) rfl dX5_cut_200 ?_
                                            refine lv_iload_n hx hb dX5_cut_203 rfl (lv_at hl 5 rfl) ?_
                                            refine va_iast hx hb hK hP hD hS 2 1 rfl rfl (vp_in_nI (by omega) (by omega)) dX5_cut_204 (fun H locs hP hD hS => ?_)
                                            rw [nI_clamp (by omega)] at hP hD
                                            have hP : va_P D vwCl [(mo, .inr (5, [.ref (Z 0), .int (v 0), .int (v 1), .ref (Z 1), .int (nI len), .ref (Z 2), .ref (Z 3), .int (nI ts.length), .int (v 3), .int (v 4), .ref (Z 4), .ref (Z 5), .ref (Z 6), .ref (Z 7), .ref (Z 8), .int (v 5), .int (v 6), .int (v 7)])), ((Z 1), .inl (cB, 16000, .inl gt)), ((Z 2), .inl (cI, 16002, .inl (upd gf ts.length (nI i)))), ((Z 3), .inl (cI, 16002, .inl go))] H := hP
                                            have hD : va_D A [(mo, .inr (5, [.ref (Z 0), .int (v 0), .int (v 1), .ref (Z 1), .int (nI len), .ref (Z 2), .ref (Z 3), .int (nI ts.length), .int (v 3), .int (v 4), .ref (Z 4), .ref (Z 5), .ref (Z 6), .ref (Z 7), .ref (Z 8), .int (v 5), .int (v 6), .int (v 7)])), ((Z 1), .inl (cB, 16000, .inl gt)), ((Z 2), .inl (cI, 16002, .inl (upd gf ts.length (nI i)))), ((Z 3), .inl (cI, 16002, .inl go))] := hD
                                            refine lv_aload_n hx hb dX5_cut_205 rfl (lv_at hl 3 rfl) ?_
                                            refine lv_dup hx hb dX5_cut_206 rfl ?_
                                            refine va_get (D := D) (ci := 5) (v := .int (nI ts.length)) (C := RX5) (T := TX5) (N := 18) hx hb hts (by decide +kernel) hown hK hP 0 rfl rfl 7 (by decide) (hts (.fieldLink RX5 56 "BodyTextModel" "tokens" "I") (by decide +kernel)) (fun _ h9 => h9) rfl dX5_cut_207 ?_
                                            refine lv_iconst (v := nI 1) hx hb dX5_cut_210 (by decide) ?_
                                            refine lv_iadd hx hb dX5_cut_211 ?_
                                            refine bt_topi (y := nI (ts.length + 1)) (nI_add _ _) ?_
                                            refine va_put (D := D) (ci := 5) (v := .int (nI (ts.length + 1))) (ty := .int) (C := RX5) (T := TX5) (N := 18) hx hb hts (by decide +kernel) tyX5 tyX5_ok nmX5 hown hK hP hD hS 0 rfl rfl 7 (by decide) (hts (.fieldLink RX5 56 "BodyTextModel" "tokens" "I") (by decide +kernel)) (fun _ h9 => h9) rfl (by decide +kernel) rfl rfl (Nat.le_of_ble_eq_true rfl) dX5_cut_212 (fun H locs hP hD hS => ?_)
                                            have hP : va_P D vwCl [(mo, .inr (5, [.ref (Z 0), .int (v 0), .int (v 1), .ref (Z 1), .int (nI len), .ref (Z 2), .ref (Z 3), .int (nI (ts.length + 1)), .int (v 3), .int (v 4), .ref (Z 4), .ref (Z 5), .ref (Z 6), .ref (Z 7), .ref (Z 8), .int (v 5), .int (v 6), .int (v 7)])), ((Z 1), .inl (cB, 16000, .inl gt)), ((Z 2), .inl (cI, 16002, .inl (upd gf ts.length (nI i)))), ((Z 3), .inl (cI, 16002, .inl go))] H := hP
                                            have hD : va_D A [(mo, .inr (5, [.ref (Z 0), .int (v 0), .int (v 1), .ref (Z 1), .int (nI len), .ref (Z 2), .ref (Z 3), .int (nI (ts.length + 1)), .int (v 3), .int (v 4), .ref (Z 4), .ref (Z 5), .ref (Z 6), .ref (Z 7), .ref (Z 8), .int (v 5), .int (v 6), .int (v 7)])), ((Z 1), .inl (cB, 16000, .inl gt)), ((Z 2), .inl (cI, 16002, .inl (upd gf ts.length (nI i)))), ((Z 3), .inl (cI, 16002, .inl go))] := hD
                                            refine lv_aload_n hx hb dX5_cut_215 rfl (lv_at hl 3 rfl) ?_
                                            refine va_get (D := D) (ci := 5) (v := .ref (Z 3)) (C := RX5) (T := TX5) (N := 18) hx hb hts (by decide +kernel) hown hK hP 0 rfl rfl 6 (by decide) (hts (.fieldLink RX5 20 "BodyTextModel" "tokenTo" "[I") (by decide +kernel)) (fun _ h9 => h9) rfl dX5_cut_216 ?_
                                            refine lv_aload_n hx hb dX5_cut_219 rfl (lv_at hl 3 rfl) ?_
                                            refine va_get (D := D) (ci := 5) (v := .int (nI (ts.length + 1))) (C := RX5) (T := TX5) (N := 18) hx hb hts (by decide +kernel) hown hK hP 0 rfl rfl 7 (by decide) (hts (.fieldLink RX5 56 "BodyTextModel" "tokens" "I") (by decide +kernel)) (fun _ h9 => h9) rfl dX5_cut_220 ?_
                                            refine lv_iconst (v := nI 1) hx hb dX5_cut_223 (by decide) ?_
                                            refine lv_isub hx hb dX5_cut_224 ?_
                                            refine bt_topi (y := nI ((ts.length + 1) - 1)) (pk_sub (by omega)) ?_
                                            refine lv_iload_n hx hb dX5_cut_225 rfl (lv_at hl 5 rfl) ?_
                                            refine lv_iconst (v := nI 1) hx hb dX5_cut_226 (by decide) ?_
                                            refine lv_iadd hx hb dX5_cut_227 ?_
                                            refine bt_topi (y := nI (i + 1)) (nI_add _ _) ?_
                                            refine va_iast hx hb hK hP hD hS 3 1 rfl rfl (vp_in_nI (by omega) (by omega)) dX5_cut_228 (fun H locs hP hD hS => ?_)
                                            rw [nI_clamp (by omega)] at hP hD
                                            have hP : va_P D vwCl [(mo, .inr (5, [.ref (Z 0), .int (v 0), .int (v 1), .ref (Z 1), .int (nI len), .ref (Z 2), .ref (Z 3), .int (nI (ts.length + 1)), .int (v 3), .int (v 4), .ref (Z 4), .ref (Z 5), .ref (Z 6), .ref (Z 7), .ref (Z 8), .int (v 5), .int (v 6), .int (v 7)])), ((Z 1), .inl (cB, 16000, .inl gt)), ((Z 2), .inl (cI, 16002, .inl (upd gf ts.length (nI i)))), ((Z 3), .inl (cI, 16002, .inl (upd go ((ts.length + 1) - 1) (nI (i + 1)))))] H := hP
                                            have hD : va_D A [(mo, .inr (5, [.ref (Z 0), .int (v 0), .int (v 1), .ref (Z 1), .int (nI len), .ref (Z 2), .ref (Z 3), .int (nI (ts.length + 1)), .int (v 3), .int (v 4), .ref (Z 4), .ref (Z 5), .ref (Z 6), .ref (Z 7), .ref (Z 8), .int (v 5), .int (v 6), .int (v 7)])), ((Z 1), .inl (cB, 16000, .inl gt)), ((Z 2), .inl (cI, 16002, .inl (upd gf ts.length (nI i)))), ((Z 3), .inl (cI, 16002, .inl (upd go ((ts.length + 1) - 1) (nI (i + 1)))))] := hD
                                            refine lv_iload hx hb dX5_cut_229 (lv_at hl 1 rfl) ?_
                                            refine lv_if_ne (tgt := 238) hx hb dX5_cut_231 (by decide) (fun c_231 => ?_) (fun c_231 => ?_)
                                            · clear c_231
                                              refine lv_iconst (v := nI 0) hx hb dX5_cut_238 (by decide) ?_
                                              refine lv_istore_n (lv' := [(1, .int (nI 0)), (6, .int (nI 1)), (5, .int (nI 0)), (0, .ref mo), (2, .int (bI rv)), (3, .int (nI i)), (4, .int (nI (BB i)))]) hx hb dX5_cut_239 rfl hl (by decide) rfl (fun ls hl => ?_)
                                              refine lv_iinc (v := nI (i + 1)) (lv' := [(3, .int (nI (i + 1))), (1, .int (nI 0)), (6, .int (nI 1)), (5, .int (nI 0)), (0, .ref mo), (2, .int (bI rv)), (4, .int (nI (BB i)))]) hx hb dX5_cut_240 hl (k := 5) rfl (nI_add i 1) (by decide) rfl (fun ls hl => ?_)
                                              refine lv_goto (tgt := 11) hx hb dX5_cut_243 (by decide) ?_
                                              have hP := hP.sub (ws' := [(mo, .inr (5, [.ref (Z 0), .int (v 0), .int (v 1), .ref (Z 1), .int (nI len), .ref (Z 2), .ref (Z 3), .int (nI (ts.length + 1)), .int (v 3), .int (v 4), .ref (Z 4), .ref (Z 5), .ref (Z 6), .ref (Z 7), .ref (Z 8), .int (v 5), .int (v 6), .int (v 7)])), ((Z 1), .inl (cB, 16000, .inl gt)), ((Z 2), .inl (cI, 16002, .inl (upd gf ts.length (nI i)))), ((Z 3), .inl (cI, 16002, .inl (upd go ((ts.length + 1) - 1) (nI (i + 1)))))]) [0, 1, 2, 3] rfl
                                              have hD := hD.sub (ws' := [(mo, .inr (5, [.ref (Z 0), .int (v 0), .int (v 1), .ref (Z 1), .int (nI len), .ref (Z 2), .ref (Z 3), .int (nI (ts.length + 1)), .int (v 3), .int (v 4), .ref (Z 4), .ref (Z 5), .ref (Z 6), .ref (Z 7), .ref (Z 8), .int (v 5), .int (v 6), .int (v 7)])), ((Z 1), .inl (cB, 16000, .inl gt)), ((Z 2), .inl (cI, 16002, .inl (upd gf ts.length (nI i)))), ((Z 3), .inl (cI, 16002, .inl (upd go ((ts.length + 1) - 1) (nI (i + 1)))))]) [0, 1, 2, 3] (by decide) rfl
                                              have hP : va_P D vwCl [(mo, .inr (5, [.ref (Z 0), .int (v 0), .int (v 1), .ref (Z 1), .int (nI len), .ref (Z 2), .ref (Z 3), .int (nI (ts.length + 1)), .int (v 3), .int (v 4), .ref (Z 4), .ref (Z 5), .ref (Z 6), .ref (Z 7), .ref (Z 8), .int (v 5), .int (v 6), .int (v 7)])), ((Z 1), .inl (cB, 16000, .inl gt)), ((Z 2), .inl (cI, 16002, .inl (upd gf ts.length (nI i)))), ((Z 3), .inl (cI, 16002, .inl (upd go ts.length (nI (i + 1)))))] H := hP
                                              have hD : va_D A [(mo, .inr (5, [.ref (Z 0), .int (v 0), .int (v 1), .ref (Z 1), .int (nI len), .ref (Z 2), .ref (Z 3), .int (nI (ts.length + 1)), .int (v 3), .int (v 4), .ref (Z 4), .ref (Z 5), .ref (Z 6), .ref (Z 7), .ref (Z 8), .int (v 5), .int (v 6), .int (v 7)])), ((Z 1), .inl (cB, 16000, .inl gt)), ((Z 2), .inl (cI, 16002, .inl (upd gf ts.length (nI i)))), ((Z 3), .inl (cI, 16002, .inl (upd go ts.length (nI (i + 1)))))] := hD
                                              have hP : va_P D vwCl [(mo, .inr (5, [.ref (Z 0), .int (v 0), .int (v 1), .ref (Z 1), .int (nI len), .ref (Z 2), .ref (Z 3), .int (nI ((closeT (ts ++ [(i, i + 1)]) none (i + 1)).length)), .int (v 3), .int (v 4), .ref (Z 4), .ref (Z 5), .ref (Z 6), .ref (Z 7), .ref (Z 8), .int (v 5), .int (v 6), .int (v 7)])), ((Z 1), .inl (cB, 16000, .inl gt)), ((Z 2), .inl (cI, 16002, .inl (upd gf ts.length (nI i)))), ((Z 3), .inl (cI, 16002, .inl (upd go ts.length (nI (i + 1)))))] H := by rw [cl_len]; simp only [len1, opn, Nat.add_zero]; exact hP
                                              have hD : va_D A [(mo, .inr (5, [.ref (Z 0), .int (v 0), .int (v 1), .ref (Z 1), .int (nI len), .ref (Z 2), .ref (Z 3), .int (nI ((closeT (ts ++ [(i, i + 1)]) none (i + 1)).length)), .int (v 3), .int (v 4), .ref (Z 4), .ref (Z 5), .ref (Z 6), .ref (Z 7), .ref (Z 8), .int (v 5), .int (v 6), .int (v 7)])), ((Z 1), .inl (cB, 16000, .inl gt)), ((Z 2), .inl (cI, 16002, .inl (upd gf ts.length (nI i)))), ((Z 3), .inl (cI, 16002, .inl (upd go ts.length (nI (i + 1)))))] := by rw [cl_len]; simp only [len1, opn, Nat.add_zero]; exact hD
                                              exact ih (i + 1) (ts ++ [(i, i + 1)]) none rv (upd gf ts.length (nI i)) (upd go ts.length (nI (i + 1))) H locs (by omega) (by omega) (fun j hj => by rcases Nat.lt_or_ge j i with q9 | q9; exact hal j q9; rw [show j = i by omega]; exact h_al) (scan_g hsc hrv (fun q => q.elim (fun q => by rw [bI_0 c_86] at q; cases q) (fun q => by unfold alP at h_al; omega)) (by rw [c_154]; decide)) (by simp only [len1, opn]; omega) (rwR_add hrw) hP hD hS ls (lv_sub hl [4, 1, 5, 0] rfl)
                                            · exact absurd c_231 (by decide)
                                        · exact absurd (by decide) c_185
                                  · have c_154 : ¬ ((BB i) = 125) := fun h9 => c_154 ((nI_eq (a := (BB i)) (b := 125) (by omega) (by omega)).mpr h9)
                                    refine lv_iload hx hb dX5_cut_157 (lv_at hl 5 rfl) ?_
                                    refine lv_bipush (v := nI 58) hx hb dX5_cut_159 (by decide) ?_
                                    refine lv_icmp_ne (tgt := 168) hx hb dX5_cut_161 (by decide) (fun c_161 => ?_) (fun c_161 => ?_)
                                    · have c_161 : ¬ ((BB i) = 58) := fun h9 => c_161 ((nI_eq (a := (BB i)) (b := 58) (by omega) (by omega)).mpr h9)
                                      refine lv_iconst (v := nI 0) hx hb dX5_cut_168 (by decide) ?_
                                      refine lv_istore (lv' := [(6, .int (nI 0)), (5, .int (nI 0)), (0, .ref mo), (1, .int (nI 0)), (2, .int (bI rv)), (3, .int (nI i)), (4, .int (nI (BB i)))]) hx hb dX5_cut_169 hl (by decide) rfl (fun ls hl => ?_)
                                      refine lv_iload hx hb dX5_cut_171 (lv_at hl 1 rfl) ?_
                                      refine lv_if_ne (tgt := 181) hx hb dX5_cut_173 (by decide) (fun c_173 => ?_) (fun c_173 => ?_)
                                      · exact absurd (by decide) c_173
                                      · clear c_173
                                        refine lv_iload hx hb dX5_cut_176 (lv_at hl 0 rfl) ?_
                                        refine lv_if_eq (tgt := 183) hx hb dX5_cut_178 (by decide) (fun c_178 => ?_) (fun c_178 => ?_)
                                        · clear c_178
                                          refine lv_iload hx hb dX5_cut_183 (lv_at hl 1 rfl) ?_
                                          refine lv_if_eq (tgt := 191) hx hb dX5_cut_185 (by decide) (fun c_185 => ?_) (fun c_185 => ?_)
                                          · clear c_185
                                            refine lv_iload_n hx hb dX5_cut_191 rfl (lv_at hl 3 rfl) ?_
                                            refine lv_if_ne (tgt := 215) hx hb dX5_cut_192 (by decide) (fun c_192 => ?_) (fun c_192 => ?_)
                                            · exact absurd (by decide) c_192
                                            · clear c_192
                                              refine lv_aload_n hx hb dX5_cut_195 rfl (lv_at hl 2 rfl) ?_
                                              refine va_get (D := D) (ci := 5) (v := .ref (Z 2)) (C := RX5) (T := TX5) (N := 18) hx hb hts (by decide +kernel) hown hK hP 0 rfl rfl 5 (by decide) (hts (.fieldLink RX5 16 "BodyTextModel" "tokenFrom" "[I") (by decide +kernel)) (fun _ h9 => h9) rfl dX5_cut_196 ?_
                                              refine lv_aload_n hx hb dX5_cut_199 rfl (lv_at hl 2 rfl) ?_
                                              refine va_get (D := D) (ci := 5) (v := .int (nI ts.length)) (C := RX5) (T := TX5) (N := 18) hx hb hts (by decide +kernel) hown hK hP 0 rfl rfl 7 (by decide) (hts (.fieldLink RX5 56 "BodyTextModel" "tokens" "I") (by decide +kernel)) (fun _ h9 => h9) rfl dX5_cut_200 ?_
                                              refine lv_iload_n hx hb dX5_cut_203 rfl (lv_at hl 5 rfl) ?_
                                              refine va_iast hx hb hK hP hD hS 2 1 rfl rfl (vp_in_nI (by omega) (by omega)) dX5_cut_204 (fun H locs hP hD hS => ?_)
                                              rw [nI_clamp (by omega)] at hP hD
                                              have hP : va_P D vwCl [(mo, .inr (5, [.ref (Z 0), .int (v 0), .int (v 1), .ref (Z 1), .int (nI len), .ref (Z 2), .ref (Z 3), .int (nI ts.length), .int (v 3), .int (v 4), .ref (Z 4), .ref (Z 5), .ref (Z 6), .ref (Z 7), .ref (Z 8), .int (v 5), .int (v 6), .int (v 7)])), ((Z 1), .inl (cB, 16000, .inl gt)), ((Z 2), .inl (cI, 16002, .inl (upd gf ts.length (nI i)))), ((Z 3), .inl (cI, 16002, .inl go))] H := hP
                                              have hD : va_D A [(mo, .inr (5, [.ref (Z 0), .int (v 0), .int (v 1), .ref (Z 1), .int (nI len), .ref (Z 2), .ref (Z 3), .int (nI ts.length), .int (v 3), .int (v 4), .ref (Z 4), .ref (Z 5), .ref (Z 6), .ref (Z 7), .ref (Z 8), .int (v 5), .int (v 6), .int (v 7)])), ((Z 1), .inl (cB, 16000, .inl gt)), ((Z 2), .inl (cI, 16002, .inl (upd gf ts.length (nI i)))), ((Z 3), .inl (cI, 16002, .inl go))] := hD
                                              refine lv_aload_n hx hb dX5_cut_205 rfl (lv_at hl 2 rfl) ?_
                                              refine lv_dup hx hb dX5_cut_206 rfl ?_
                                              refine va_get (D := D) (ci := 5) (v := .int (nI ts.length)) (C := RX5) (T := TX5) (N := 18) hx hb hts (by decide +kernel) hown hK hP 0 rfl rfl 7 (by decide) (hts (.fieldLink RX5 56 "BodyTextModel" "tokens" "I") (by decide +kernel)) (fun _ h9 => h9) rfl dX5_cut_207 ?_
                                              refine lv_iconst (v := nI 1) hx hb dX5_cut_210 (by decide) ?_
                                              refine lv_iadd hx hb dX5_cut_211 ?_
                                              refine bt_topi (y := nI (ts.length + 1)) (nI_add _ _) ?_
                                              refine va_put (D := D) (ci := 5) (v := .int (nI (ts.length + 1))) (ty := .int) (C := RX5) (T := TX5) (N := 18) hx hb hts (by decide +kernel) tyX5 tyX5_ok nmX5 hown hK hP hD hS 0 rfl rfl 7 (by decide) (hts (.fieldLink RX5 56 "BodyTextModel" "tokens" "I") (by decide +kernel)) (fun _ h9 => h9) rfl (by decide +kernel) rfl rfl (Nat.le_of_ble_eq_true rfl) dX5_cut_212 (fun H locs hP hD hS => ?_)
                                              have hP : va_P D vwCl [(mo, .inr (5, [.ref (Z 0), .int (v 0), .int (v 1), .ref (Z 1), .int (nI len), .ref (Z 2), .ref (Z 3), .int (nI (ts.length + 1)), .int (v 3), .int (v 4), .ref (Z 4), .ref (Z 5), .ref (Z 6), .ref (Z 7), .ref (Z 8), .int (v 5), .int (v 6), .int (v 7)])), ((Z 1), .inl (cB, 16000, .inl gt)), ((Z 2), .inl (cI, 16002, .inl (upd gf ts.length (nI i)))), ((Z 3), .inl (cI, 16002, .inl go))] H := hP
                                              have hD : va_D A [(mo, .inr (5, [.ref (Z 0), .int (v 0), .int (v 1), .ref (Z 1), .int (nI len), .ref (Z 2), .ref (Z 3), .int (nI (ts.length + 1)), .int (v 3), .int (v 4), .ref (Z 4), .ref (Z 5), .ref (Z 6), .ref (Z 7), .ref (Z 8), .int (v 5), .int (v 6), .int (v 7)])), ((Z 1), .inl (cB, 16000, .inl gt)), ((Z 2), .inl (cI, 16002, .inl (upd gf ts.length (nI i)))), ((Z 3), .inl (cI, 16002, .inl go))] := hD
                                              refine lv_aload_n hx hb dX5_cut_215 rfl (lv_at hl 2 rfl) ?_
                                              refine va_get (D := D) (ci := 5) (v := .ref (Z 3)) (C := RX5) (T := TX5) (N := 18) hx hb hts (by decide +kernel) hown hK hP 0 rfl rfl 6 (by decide) (hts (.fieldLink RX5 20 "BodyTextModel" "tokenTo" "[I") (by decide +kernel)) (fun _ h9 => h9) rfl dX5_cut_216 ?_
                                              refine lv_aload_n hx hb dX5_cut_219 rfl (lv_at hl 2 rfl) ?_
                                              refine va_get (D := D) (ci := 5) (v := .int (nI (ts.length + 1))) (C := RX5) (T := TX5) (N := 18) hx hb hts (by decide +kernel) hown hK hP 0 rfl rfl 7 (by decide) (hts (.fieldLink RX5 56 "BodyTextModel" "tokens" "I") (by decide +kernel)) (fun _ h9 => h9) rfl dX5_cut_220 ?_
                                              refine lv_iconst (v := nI 1) hx hb dX5_cut_223 (by decide) ?_
                                              refine lv_isub hx hb dX5_cut_224 ?_
                                              refine bt_topi (y := nI ((ts.length + 1) - 1)) (pk_sub (by omega)) ?_
                                              refine lv_iload_n hx hb dX5_cut_225 rfl (lv_at hl 5 rfl) ?_
                                              refine lv_iconst (v := nI 1) hx hb dX5_cut_226 (by decide) ?_
                                              refine lv_iadd hx hb dX5_cut_227 ?_
                                              refine bt_topi (y := nI (i + 1)) (nI_add _ _) ?_
                                              refine va_iast hx hb hK hP hD hS 3 1 rfl rfl (vp_in_nI (by omega) (by omega)) dX5_cut_228 (fun H locs hP hD hS => ?_)
                                              rw [nI_clamp (by omega)] at hP hD
                                              have hP : va_P D vwCl [(mo, .inr (5, [.ref (Z 0), .int (v 0), .int (v 1), .ref (Z 1), .int (nI len), .ref (Z 2), .ref (Z 3), .int (nI (ts.length + 1)), .int (v 3), .int (v 4), .ref (Z 4), .ref (Z 5), .ref (Z 6), .ref (Z 7), .ref (Z 8), .int (v 5), .int (v 6), .int (v 7)])), ((Z 1), .inl (cB, 16000, .inl gt)), ((Z 2), .inl (cI, 16002, .inl (upd gf ts.length (nI i)))), ((Z 3), .inl (cI, 16002, .inl (upd go ((ts.length + 1) - 1) (nI (i + 1)))))] H := hP
                                              have hD : va_D A [(mo, .inr (5, [.ref (Z 0), .int (v 0), .int (v 1), .ref (Z 1), .int (nI len), .ref (Z 2), .ref (Z 3), .int (nI (ts.length + 1)), .int (v 3), .int (v 4), .ref (Z 4), .ref (Z 5), .ref (Z 6), .ref (Z 7), .ref (Z 8), .int (v 5), .int (v 6), .int (v 7)])), ((Z 1), .inl (cB, 16000, .inl gt)), ((Z 2), .inl (cI, 16002, .inl (upd gf ts.length (nI i)))), ((Z 3), .inl (cI, 16002, .inl (upd go ((ts.length + 1) - 1) (nI (i + 1)))))] := hD
                                              refine lv_iload hx hb dX5_cut_229 (lv_at hl 0 rfl) ?_
                                              refine lv_if_ne (tgt := 238) hx hb dX5_cut_231 (by decide) (fun c_231 => ?_) (fun c_231 => ?_)
                                              · exact absurd (by decide) c_231
                                              · clear c_231
                                                refine lv_iconst (v := nI 1) hx hb dX5_cut_234 (by decide) ?_
                                                refine lv_goto (tgt := 239) hx hb dX5_cut_235 (by decide) ?_
                                                refine lv_istore_n (lv' := [(1, .int (nI 1)), (6, .int (nI 0)), (5, .int (nI 0)), (0, .ref mo), (2, .int (bI rv)), (3, .int (nI i)), (4, .int (nI (BB i)))]) hx hb dX5_cut_239 rfl hl (by decide) rfl (fun ls hl => ?_)
                                                refine lv_iinc (v := nI (i + 1)) (lv' := [(3, .int (nI (i + 1))), (1, .int (nI 1)), (6, .int (nI 0)), (5, .int (nI 0)), (0, .ref mo), (2, .int (bI rv)), (4, .int (nI (BB i)))]) hx hb dX5_cut_240 hl (k := 5) rfl (nI_add i 1) (by decide) rfl (fun ls hl => ?_)
                                                refine lv_goto (tgt := 11) hx hb dX5_cut_243 (by decide) ?_
                                                have hP := hP.sub (ws' := [(mo, .inr (5, [.ref (Z 0), .int (v 0), .int (v 1), .ref (Z 1), .int (nI len), .ref (Z 2), .ref (Z 3), .int (nI (ts.length + 1)), .int (v 3), .int (v 4), .ref (Z 4), .ref (Z 5), .ref (Z 6), .ref (Z 7), .ref (Z 8), .int (v 5), .int (v 6), .int (v 7)])), ((Z 1), .inl (cB, 16000, .inl gt)), ((Z 2), .inl (cI, 16002, .inl (upd gf ts.length (nI i)))), ((Z 3), .inl (cI, 16002, .inl (upd go ((ts.length + 1) - 1) (nI (i + 1)))))]) [0, 1, 2, 3] rfl
                                                have hD := hD.sub (ws' := [(mo, .inr (5, [.ref (Z 0), .int (v 0), .int (v 1), .ref (Z 1), .int (nI len), .ref (Z 2), .ref (Z 3), .int (nI (ts.length + 1)), .int (v 3), .int (v 4), .ref (Z 4), .ref (Z 5), .ref (Z 6), .ref (Z 7), .ref (Z 8), .int (v 5), .int (v 6), .int (v 7)])), ((Z 1), .inl (cB, 16000, .inl gt)), ((Z 2), .inl (cI, 16002, .inl (upd gf ts.length (nI i)))), ((Z 3), .inl (cI, 16002, .inl (upd go ((ts.length + 1) - 1) (nI (i + 1)))))]) [0, 1, 2, 3] (by decide) rfl
                                                have hP : va_P D vwCl [(mo, .inr (5, [.ref (Z 0), .int (v 0), .int (v 1), .ref (Z 1), .int (nI len), .ref (Z 2), .ref (Z 3), .int (nI (ts.length + 1)), .int (v 3), .int (v 4), .ref (Z 4), .ref (Z 5), .ref (Z 6), .ref (Z 7), .ref (Z 8), .int (v 5), .int (v 6), .int (v 7)])), ((Z 1), .inl (cB, 16000, .inl gt)), ((Z 2), .inl (cI, 16002, .inl (upd gf ts.length (nI i)))), ((Z 3), .inl (cI, 16002, .inl (upd go ts.length (nI (i + 1)))))] H := hP
                                                have hD : va_D A [(mo, .inr (5, [.ref (Z 0), .int (v 0), .int (v 1), .ref (Z 1), .int (nI len), .ref (Z 2), .ref (Z 3), .int (nI (ts.length + 1)), .int (v 3), .int (v 4), .ref (Z 4), .ref (Z 5), .ref (Z 6), .ref (Z 7), .ref (Z 8), .int (v 5), .int (v 6), .int (v 7)])), ((Z 1), .inl (cB, 16000, .inl gt)), ((Z 2), .inl (cI, 16002, .inl (upd gf ts.length (nI i)))), ((Z 3), .inl (cI, 16002, .inl (upd go ts.length (nI (i + 1)))))] := hD
                                                have hP : va_P D vwCl [(mo, .inr (5, [.ref (Z 0), .int (v 0), .int (v 1), .ref (Z 1), .int (nI len), .ref (Z 2), .ref (Z 3), .int (nI ((closeT ts (some i) (i + 1)).length)), .int (v 3), .int (v 4), .ref (Z 4), .ref (Z 5), .ref (Z 6), .ref (Z 7), .ref (Z 8), .int (v 5), .int (v 6), .int (v 7)])), ((Z 1), .inl (cB, 16000, .inl gt)), ((Z 2), .inl (cI, 16002, .inl (upd gf ts.length (nI i)))), ((Z 3), .inl (cI, 16002, .inl (upd go ts.length (nI (i + 1)))))] H := by rw [cl_len]; simp only [len1, opn, Nat.add_zero]; exact hP
                                                have hD : va_D A [(mo, .inr (5, [.ref (Z 0), .int (v 0), .int (v 1), .ref (Z 1), .int (nI len), .ref (Z 2), .ref (Z 3), .int (nI ((closeT ts (some i) (i + 1)).length)), .int (v 3), .int (v 4), .ref (Z 4), .ref (Z 5), .ref (Z 6), .ref (Z 7), .ref (Z 8), .int (v 5), .int (v 6), .int (v 7)])), ((Z 1), .inl (cB, 16000, .inl gt)), ((Z 2), .inl (cI, 16002, .inl (upd gf ts.length (nI i)))), ((Z 3), .inl (cI, 16002, .inl (upd go ts.length (nI (i + 1)))))] := by rw [cl_len]; simp only [len1, opn, Nat.add_zero]; exact hD
                                                exact ih (i + 1) ts (some i) rv (upd gf ts.length (nI i)) (upd go ts.length (nI (i + 1))) H locs (by omega) (by omega) (fun j hj => by rcases Nat.lt_or_ge j i with q9 | q9; exact hal j q9; rw [show j = i by omega]; exact h_al) (scan_w hsc hrv (fun q => q.elim (fun q => by rw [bI_0 c_86] at q; cases q) (fun q => by unfold alP at h_al; omega)) (by unfold sgF; rw [if_neg c_133, if_neg c_140, if_neg c_161, if_neg c_147, if_neg c_154])) (by simp only [len1, opn]; omega) (rwR_add hrw) hP hD hS ls (lv_sub hl [4, 1, 5, 0] rfl)
                                          · exact absurd (by decide) c_185
                                        · exact absurd (by decide) c_178
                                    · have c_161 : (BB i) = 58 := (nI_eq (a := (BB i)) (b := 58) (by omega) (by omega)).mp c_161
                                      refine lv_iconst (v := nI 1) hx hb dX5_cut_164 (by decide) ?_
                                      refine lv_goto (tgt := 169) hx hb dX5_cut_165 (by decide) ?_
                                      refine lv_istore (lv' := [(6, .int (nI 1)), (5, .int (nI 0)), (0, .ref mo), (1, .int (nI 0)), (2, .int (bI rv)), (3, .int (nI i)), (4, .int (nI (BB i)))]) hx hb dX5_cut_169 hl (by decide) rfl (fun ls hl => ?_)
                                      refine lv_iload hx hb dX5_cut_171 (lv_at hl 1 rfl) ?_
                                      refine lv_if_ne (tgt := 181) hx hb dX5_cut_173 (by decide) (fun c_173 => ?_) (fun c_173 => ?_)
                                      · exact absurd (by decide) c_173
                                      · clear c_173
                                        refine lv_iload hx hb dX5_cut_176 (lv_at hl 0 rfl) ?_
                                        refine lv_if_eq (tgt := 183) hx hb dX5_cut_178 (by decide) (fun c_178 => ?_) (fun c_178 => ?_)
                                        · exact absurd c_178 (by decide)
                                        · clear c_178
                                          refine lv_iconst (v := nI 0) hx hb dX5_cut_181 (by decide) ?_
                                          refine lv_istore_n (lv' := [(1, .int (nI 0)), (6, .int (nI 1)), (5, .int (nI 0)), (0, .ref mo), (2, .int (bI rv)), (3, .int (nI i)), (4, .int (nI (BB i)))]) hx hb dX5_cut_182 rfl hl (by decide) rfl (fun ls hl => ?_)
                                          refine lv_iload hx hb dX5_cut_183 (lv_at hl 2 rfl) ?_
                                          refine lv_if_eq (tgt := 191) hx hb dX5_cut_185 (by decide) (fun c_185 => ?_) (fun c_185 => ?_)
                                          · clear c_185
                                            refine lv_iload_n hx hb dX5_cut_191 rfl (lv_at hl 0 rfl) ?_
                                            refine lv_if_ne (tgt := 215) hx hb dX5_cut_192 (by decide) (fun c_192 => ?_) (fun c_192 => ?_)
                                            · exact absurd (by decide) c_192
                                            · clear c_192
                                              refine lv_aload_n hx hb dX5_cut_195 rfl (lv_at hl 3 rfl) ?_
                                              refine va_get (D := D) (ci := 5) (v := .ref (Z 2)) (C := RX5) (T := TX5) (N := 18) hx hb hts (by decide +kernel) hown hK hP 0 rfl rfl 5 (by decide) (hts (.fieldLink RX5 16 "BodyTextModel" "tokenFrom" "[I") (by decide +kernel)) (fun _ h9 => h9) rfl dX5_cut_196 ?_
                                              refine lv_aload_n hx hb dX5_cut_199 rfl (lv_at hl 3 rfl) ?_
                                              refine va_get (D := D) (ci := 5) (v := .int (nI ts.length)) (C := RX5) (T := TX5) (N := 18) hx hb hts (by decide +kernel) hown hK hP 0 rfl rfl 7 (by decide) (hts (.fieldLink RX5 56 "BodyTextModel" "tokens" "I") (by decide +kernel)) (fun _ h9 => h9) rfl dX5_cut_200 ?_
                                              refine lv_iload_n hx hb dX5_cut_203 rfl (lv_at hl 5 rfl) ?_
                                              refine va_iast hx hb hK hP hD hS 2 1 rfl rfl (vp_in_nI (by omega) (by omega)) dX5_cut_204 (fun H locs hP hD hS => ?_)
                                              rw [nI_clamp (by omega)] at hP hD
                                              have hP : va_P D vwCl [(mo, .inr (5, [.ref (Z 0), .int (v 0), .int (v 1), .ref (Z 1), .int (nI len), .ref (Z 2), .ref (Z 3), .int (nI ts.length), .int (v 3), .int (v 4), .ref (Z 4), .ref (Z 5), .ref (Z 6), .ref (Z 7), .ref (Z 8), .int (v 5), .int (v 6), .int (v 7)])), ((Z 1), .inl (cB, 16000, .inl gt)), ((Z 2), .inl (cI, 16002, .inl (upd gf ts.length (nI i)))), ((Z 3), .inl (cI, 16002, .inl go))] H := hP
                                              have hD : va_D A [(mo, .inr (5, [.ref (Z 0), .int (v 0), .int (v 1), .ref (Z 1), .int (nI len), .ref (Z 2), .ref (Z 3), .int (nI ts.length), .int (v 3), .int (v 4), .ref (Z 4), .ref (Z 5), .ref (Z 6), .ref (Z 7), .ref (Z 8), .int (v 5), .int (v 6), .int (v 7)])), ((Z 1), .inl (cB, 16000, .inl gt)), ((Z 2), .inl (cI, 16002, .inl (upd gf ts.length (nI i)))), ((Z 3), .inl (cI, 16002, .inl go))] := hD
                                              refine lv_aload_n hx hb dX5_cut_205 rfl (lv_at hl 3 rfl) ?_
                                              refine lv_dup hx hb dX5_cut_206 rfl ?_
                                              refine va_get (D := D) (ci := 5) (v := .int (nI ts.length)) (C := RX5) (T := TX5) (N := 18) hx hb hts (by decide +kernel) hown hK hP 0 rfl rfl 7 (by decide) (hts (.fieldLink RX5 56 "BodyTextModel" "tokens" "I") (by decide +kernel)) (fun _ h9 => h9) rfl dX5_cut_207 ?_
                                              refine lv_iconst (v := nI 1) hx hb dX5_cut_210 (by decide) ?_
                                              refine lv_iadd hx hb dX5_cut_211 ?_
                                              refine bt_topi (y := nI (ts.length + 1)) (nI_add _ _) ?_
                                              refine va_put (D := D) (ci := 5) (v := .int (nI (ts.length + 1))) (ty := .int) (C := RX5) (T := TX5) (N := 18) hx hb hts (by decide +kernel) tyX5 tyX5_ok nmX5 hown hK hP hD hS 0 rfl rfl 7 (by decide) (hts (.fieldLink RX5 56 "BodyTextModel" "tokens" "I") (by decide +kernel)) (fun _ h9 => h9) rfl (by decide +kernel) rfl rfl (Nat.le_of_ble_eq_true rfl) dX5_cut_212 (fun H locs hP hD hS => ?_)
                                              have hP : va_P D vwCl [(mo, .inr (5, [.ref (Z 0), .int (v 0), .int (v 1), .ref (Z 1), .int (nI len), .ref (Z 2), .ref (Z 3), .int (nI (ts.length + 1)), .int (v 3), .int (v 4), .ref (Z 4), .ref (Z 5), .ref (Z 6), .ref (Z 7), .ref (Z 8), .int (v 5), .int (v 6), .int (v 7)])), ((Z 1), .inl (cB, 16000, .inl gt)), ((Z 2), .inl (cI, 16002, .inl (upd gf ts.length (nI i)))), ((Z 3), .inl (cI, 16002, .inl go))] H := hP
                                              have hD : va_D A [(mo, .inr (5, [.ref (Z 0), .int (v 0), .int (v 1), .ref (Z 1), .int (nI len), .ref (Z 2), .ref (Z 3), .int (nI (ts.length + 1)), .int (v 3), .int (v 4), .ref (Z 4), .ref (Z 5), .ref (Z 6), .ref (Z 7), .ref (Z 8), .int (v 5), .int (v 6), .int (v 7)])), ((Z 1), .inl (cB, 16000, .inl gt)), ((Z 2), .inl (cI, 16002, .inl (upd gf ts.length (nI i)))), ((Z 3), .inl (cI, 16002, .inl go))] := hD
                                              refine lv_aload_n hx hb dX5_cut_215 rfl (lv_at hl 3 rfl) ?_
                                              refine va_get (D := D) (ci := 5) (v := .ref (Z 3)) (C := RX5) (T := TX5) (N := 18) hx hb hts (by decide +kernel) hown hK hP 0 rfl rfl 6 (by decide) (hts (.fieldLink RX5 20 "BodyTextModel" "tokenTo" "[I") (by decide +kernel)) (fun _ h9 => h9) rfl dX5_cut_216 ?_
                                              refine lv_aload_n hx hb dX5_cut_219 rfl (lv_at hl 3 rfl) ?_
                                              refine va_get (D := D) (ci := 5) (v := .int (nI (ts.length + 1))) (C := RX5) (T := TX5) (N := 18) hx hb hts (by decide +kernel) hown hK hP 0 rfl rfl 7 (by decide) (hts (.fieldLink RX5 56 "BodyTextModel" "tokens" "I") (by decide +kernel)) (fun _ h9 => h9) rfl dX5_cut_220 ?_
                                              refine lv_iconst (v := nI 1) hx hb dX5_cut_223 (by decide) ?_
                                              refine lv_isub hx hb dX5_cut_224 ?_
                                              refine bt_topi (y := nI ((ts.length + 1) - 1)) (pk_sub (by omega)) ?_
                                              refine lv_iload_n hx hb dX5_cut_225 rfl (lv_at hl 5 rfl) ?_
                                              refine lv_iconst (v := nI 1) hx hb dX5_cut_226 (by decide) ?_
                                              refine lv_iadd hx hb dX5_cut_227 ?_
                                              refine bt_topi (y := nI (i + 1)) (nI_add _ _) ?_
                                              refine va_iast hx hb hK hP hD hS 3 1 rfl rfl (vp_in_nI (by omega) (by omega)) dX5_cut_228 (fun H locs hP hD hS => ?_)
                                              rw [nI_clamp (by omega)] at hP hD
                                              have hP : va_P D vwCl [(mo, .inr (5, [.ref (Z 0), .int (v 0), .int (v 1), .ref (Z 1), .int (nI len), .ref (Z 2), .ref (Z 3), .int (nI (ts.length + 1)), .int (v 3), .int (v 4), .ref (Z 4), .ref (Z 5), .ref (Z 6), .ref (Z 7), .ref (Z 8), .int (v 5), .int (v 6), .int (v 7)])), ((Z 1), .inl (cB, 16000, .inl gt)), ((Z 2), .inl (cI, 16002, .inl (upd gf ts.length (nI i)))), ((Z 3), .inl (cI, 16002, .inl (upd go ((ts.length + 1) - 1) (nI (i + 1)))))] H := hP
                                              have hD : va_D A [(mo, .inr (5, [.ref (Z 0), .int (v 0), .int (v 1), .ref (Z 1), .int (nI len), .ref (Z 2), .ref (Z 3), .int (nI (ts.length + 1)), .int (v 3), .int (v 4), .ref (Z 4), .ref (Z 5), .ref (Z 6), .ref (Z 7), .ref (Z 8), .int (v 5), .int (v 6), .int (v 7)])), ((Z 1), .inl (cB, 16000, .inl gt)), ((Z 2), .inl (cI, 16002, .inl (upd gf ts.length (nI i)))), ((Z 3), .inl (cI, 16002, .inl (upd go ((ts.length + 1) - 1) (nI (i + 1)))))] := hD
                                              refine lv_iload hx hb dX5_cut_229 (lv_at hl 1 rfl) ?_
                                              refine lv_if_ne (tgt := 238) hx hb dX5_cut_231 (by decide) (fun c_231 => ?_) (fun c_231 => ?_)
                                              · clear c_231
                                                refine lv_iconst (v := nI 0) hx hb dX5_cut_238 (by decide) ?_
                                                refine lv_istore_n (lv' := [(1, .int (nI 0)), (6, .int (nI 1)), (5, .int (nI 0)), (0, .ref mo), (2, .int (bI rv)), (3, .int (nI i)), (4, .int (nI (BB i)))]) hx hb dX5_cut_239 rfl hl (by decide) rfl (fun ls hl => ?_)
                                                refine lv_iinc (v := nI (i + 1)) (lv' := [(3, .int (nI (i + 1))), (1, .int (nI 0)), (6, .int (nI 1)), (5, .int (nI 0)), (0, .ref mo), (2, .int (bI rv)), (4, .int (nI (BB i)))]) hx hb dX5_cut_240 hl (k := 5) rfl (nI_add i 1) (by decide) rfl (fun ls hl => ?_)
                                                refine lv_goto (tgt := 11) hx hb dX5_cut_243 (by decide) ?_
                                                have hP := hP.sub (ws' := [(mo, .inr (5, [.ref (Z 0), .int (v 0), .int (v 1), .ref (Z 1), .int (nI len), .ref (Z 2), .ref (Z 3), .int (nI (ts.length + 1)), .int (v 3), .int (v 4), .ref (Z 4), .ref (Z 5), .ref (Z 6), .ref (Z 7), .ref (Z 8), .int (v 5), .int (v 6), .int (v 7)])), ((Z 1), .inl (cB, 16000, .inl gt)), ((Z 2), .inl (cI, 16002, .inl (upd gf ts.length (nI i)))), ((Z 3), .inl (cI, 16002, .inl (upd go ((ts.length + 1) - 1) (nI (i + 1)))))]) [0, 1, 2, 3] rfl
                                                have hD := hD.sub (ws' := [(mo, .inr (5, [.ref (Z 0), .int (v 0), .int (v 1), .ref (Z 1), .int (nI len), .ref (Z 2), .ref (Z 3), .int (nI (ts.length + 1)), .int (v 3), .int (v 4), .ref (Z 4), .ref (Z 5), .ref (Z 6), .ref (Z 7), .ref (Z 8), .int (v 5), .int (v 6), .int (v 7)])), ((Z 1), .inl (cB, 16000, .inl gt)), ((Z 2), .inl (cI, 16002, .inl (upd gf ts.length (nI i)))), ((Z 3), .inl (cI, 16002, .inl (upd go ((ts.length + 1) - 1) (nI (i + 1)))))]) [0, 1, 2, 3] (by decide) rfl
                                                have hP : va_P D vwCl [(mo, .inr (5, [.ref (Z 0), .int (v 0), .int (v 1), .ref (Z 1), .int (nI len), .ref (Z 2), .ref (Z 3), .int (nI (ts.length + 1)), .int (v 3), .int (v 4), .ref (Z 4), .ref (Z 5), .ref (Z 6), .ref (Z 7), .ref (Z 8), .int (v 5), .int (v 6), .int (v 7)])), ((Z 1), .inl (cB, 16000, .inl gt)), ((Z 2), .inl (cI, 16002, .inl (upd gf ts.length (nI i)))), ((Z 3), .inl (cI, 16002, .inl (upd go ts.length (nI (i + 1)))))] H := hP
                                                have hD : va_D A [(mo, .inr (5, [.ref (Z 0), .int (v 0), .int (v 1), .ref (Z 1), .int (nI len), .ref (Z 2), .ref (Z 3), .int (nI (ts.length + 1)), .int (v 3), .int (v 4), .ref (Z 4), .ref (Z 5), .ref (Z 6), .ref (Z 7), .ref (Z 8), .int (v 5), .int (v 6), .int (v 7)])), ((Z 1), .inl (cB, 16000, .inl gt)), ((Z 2), .inl (cI, 16002, .inl (upd gf ts.length (nI i)))), ((Z 3), .inl (cI, 16002, .inl (upd go ts.length (nI (i + 1)))))] := hD
                                                have hP : va_P D vwCl [(mo, .inr (5, [.ref (Z 0), .int (v 0), .int (v 1), .ref (Z 1), .int (nI len), .ref (Z 2), .ref (Z 3), .int (nI ((closeT (ts ++ [(i, i + 1)]) none (i + 1)).length)), .int (v 3), .int (v 4), .ref (Z 4), .ref (Z 5), .ref (Z 6), .ref (Z 7), .ref (Z 8), .int (v 5), .int (v 6), .int (v 7)])), ((Z 1), .inl (cB, 16000, .inl gt)), ((Z 2), .inl (cI, 16002, .inl (upd gf ts.length (nI i)))), ((Z 3), .inl (cI, 16002, .inl (upd go ts.length (nI (i + 1)))))] H := by rw [cl_len]; simp only [len1, opn, Nat.add_zero]; exact hP
                                                have hD : va_D A [(mo, .inr (5, [.ref (Z 0), .int (v 0), .int (v 1), .ref (Z 1), .int (nI len), .ref (Z 2), .ref (Z 3), .int (nI ((closeT (ts ++ [(i, i + 1)]) none (i + 1)).length)), .int (v 3), .int (v 4), .ref (Z 4), .ref (Z 5), .ref (Z 6), .ref (Z 7), .ref (Z 8), .int (v 5), .int (v 6), .int (v 7)])), ((Z 1), .inl (cB, 16000, .inl gt)), ((Z 2), .inl (cI, 16002, .inl (upd gf ts.length (nI i)))), ((Z 3), .inl (cI, 16002, .inl (upd go ts.length (nI (i + 1)))))] := by rw [cl_len]; simp only [len1, opn, Nat.add_zero]; exact hD
                                                exact ih (i + 1) (ts ++ [(i, i + 1)]) none rv (upd gf ts.length (nI i)) (upd go ts.length (nI (i + 1))) H locs (by omega) (by omega) (fun j hj => by rcases Nat.lt_or_ge j i with q9 | q9; exact hal j q9; rw [show j = i by omega]; exact h_al) (scan_g hsc hrv (fun q => q.elim (fun q => by rw [bI_0 c_86] at q; cases q) (fun q => by unfold alP at h_al; omega)) (by rw [c_161]; decide)) (by simp only [len1, opn]; omega) (rwR_add hrw) hP hD hS ls (lv_sub hl [4, 1, 5, 0] rfl)
                                              · exact absurd c_231 (by decide)
                                          · exact absurd (by decide) c_185
                        · have c_114 : (BB i) = 32 := (nI_eq (a := (BB i)) (b := 32) (by omega) (by omega)).mp c_114
                          refine lv_iconst (v := nI 1) hx hb dX5_cut_117 (by decide) ?_
                          refine lv_goto (tgt := 122) hx hb dX5_cut_118 (by decide) ?_
                          refine lv_istore (lv' := [(5, .int (nI 1)), (0, .ref mo), (1, .int (nI 0)), (2, .int (bI rv)), (3, .int (nI i)), (4, .int (nI (BB i)))]) hx hb dX5_cut_122 hl (by decide) rfl (fun ls hl => ?_)
                          refine lv_iload hx hb dX5_cut_124 (lv_at hl 0 rfl) ?_
                          refine lv_if_ne (tgt := 168) hx hb dX5_cut_126 (by decide) (fun c_126 => ?_) (fun c_126 => ?_)
                          · clear c_126
                            refine lv_iconst (v := nI 0) hx hb dX5_cut_168 (by decide) ?_
                            refine lv_istore (lv' := [(6, .int (nI 0)), (5, .int (nI 1)), (0, .ref mo), (1, .int (nI 0)), (2, .int (bI rv)), (3, .int (nI i)), (4, .int (nI (BB i)))]) hx hb dX5_cut_169 hl (by decide) rfl (fun ls hl => ?_)
                            refine lv_iload hx hb dX5_cut_171 (lv_at hl 1 rfl) ?_
                            refine lv_if_ne (tgt := 181) hx hb dX5_cut_173 (by decide) (fun c_173 => ?_) (fun c_173 => ?_)
                            · clear c_173
                              refine lv_iconst (v := nI 0) hx hb dX5_cut_181 (by decide) ?_
                              refine lv_istore_n (lv' := [(1, .int (nI 0)), (6, .int (nI 0)), (5, .int (nI 1)), (0, .ref mo), (2, .int (bI rv)), (3, .int (nI i)), (4, .int (nI (BB i)))]) hx hb dX5_cut_182 rfl hl (by decide) rfl (fun ls hl => ?_)
                              refine lv_iload hx hb dX5_cut_183 (lv_at hl 2 rfl) ?_
                              refine lv_if_eq (tgt := 191) hx hb dX5_cut_185 (by decide) (fun c_185 => ?_) (fun c_185 => ?_)
                              · exact absurd c_185 (by decide)
                              · clear c_185
                                refine lv_goto (tgt := 240) hx hb dX5_cut_188 (by decide) ?_
                                refine lv_iinc (v := nI (i + 1)) (lv' := [(3, .int (nI (i + 1))), (1, .int (nI 0)), (6, .int (nI 0)), (5, .int (nI 1)), (0, .ref mo), (2, .int (bI rv)), (4, .int (nI (BB i)))]) hx hb dX5_cut_240 hl (k := 5) rfl (nI_add i 1) (by decide) rfl (fun ls hl => ?_)
                                refine lv_goto (tgt := 11) hx hb dX5_cut_243 (by decide) ?_
                                have hP := hP.sub (ws' := [(mo, .inr (5, [.ref (Z 0), .int (v 0), .int (v 1), .ref (Z 1), .int (nI len), .ref (Z 2), .ref (Z 3), .int (nI ts.length), .int (v 3), .int (v 4), .ref (Z 4), .ref (Z 5), .ref (Z 6), .ref (Z 7), .ref (Z 8), .int (v 5), .int (v 6), .int (v 7)])), ((Z 1), .inl (cB, 16000, .inl gt)), ((Z 2), .inl (cI, 16002, .inl gf)), ((Z 3), .inl (cI, 16002, .inl go))]) [0, 1, 2, 3] rfl
                                have hD := hD.sub (ws' := [(mo, .inr (5, [.ref (Z 0), .int (v 0), .int (v 1), .ref (Z 1), .int (nI len), .ref (Z 2), .ref (Z 3), .int (nI ts.length), .int (v 3), .int (v 4), .ref (Z 4), .ref (Z 5), .ref (Z 6), .ref (Z 7), .ref (Z 8), .int (v 5), .int (v 6), .int (v 7)])), ((Z 1), .inl (cB, 16000, .inl gt)), ((Z 2), .inl (cI, 16002, .inl gf)), ((Z 3), .inl (cI, 16002, .inl go))]) [0, 1, 2, 3] (by decide) rfl
                                have hP : va_P D vwCl [(mo, .inr (5, [.ref (Z 0), .int (v 0), .int (v 1), .ref (Z 1), .int (nI len), .ref (Z 2), .ref (Z 3), .int (nI ts.length), .int (v 3), .int (v 4), .ref (Z 4), .ref (Z 5), .ref (Z 6), .ref (Z 7), .ref (Z 8), .int (v 5), .int (v 6), .int (v 7)])), ((Z 1), .inl (cB, 16000, .inl gt)), ((Z 2), .inl (cI, 16002, .inl gf)), ((Z 3), .inl (cI, 16002, .inl go))] H := hP
                                have hD : va_D A [(mo, .inr (5, [.ref (Z 0), .int (v 0), .int (v 1), .ref (Z 1), .int (nI len), .ref (Z 2), .ref (Z 3), .int (nI ts.length), .int (v 3), .int (v 4), .ref (Z 4), .ref (Z 5), .ref (Z 6), .ref (Z 7), .ref (Z 8), .int (v 5), .int (v 6), .int (v 7)])), ((Z 1), .inl (cB, 16000, .inl gt)), ((Z 2), .inl (cI, 16002, .inl gf)), ((Z 3), .inl (cI, 16002, .inl go))] := hD
                                have hP : va_P D vwCl [(mo, .inr (5, [.ref (Z 0), .int (v 0), .int (v 1), .ref (Z 1), .int (nI len), .ref (Z 2), .ref (Z 3), .int (nI ((closeT ts none (i + 1)).length)), .int (v 3), .int (v 4), .ref (Z 4), .ref (Z 5), .ref (Z 6), .ref (Z 7), .ref (Z 8), .int (v 5), .int (v 6), .int (v 7)])), ((Z 1), .inl (cB, 16000, .inl gt)), ((Z 2), .inl (cI, 16002, .inl gf)), ((Z 3), .inl (cI, 16002, .inl go))] H := by rw [cl_len]; simp only [len1, opn, Nat.add_zero]; exact hP
                                have hD : va_D A [(mo, .inr (5, [.ref (Z 0), .int (v 0), .int (v 1), .ref (Z 1), .int (nI len), .ref (Z 2), .ref (Z 3), .int (nI ((closeT ts none (i + 1)).length)), .int (v 3), .int (v 4), .ref (Z 4), .ref (Z 5), .ref (Z 6), .ref (Z 7), .ref (Z 8), .int (v 5), .int (v 6), .int (v 7)])), ((Z 1), .inl (cB, 16000, .inl gt)), ((Z 2), .inl (cI, 16002, .inl gf)), ((Z 3), .inl (cI, 16002, .inl go))] := by rw [cl_len]; simp only [len1, opn, Nat.add_zero]; exact hD
                                exact ih (i + 1) ts none rv gf go H locs (by omega) (by omega) (fun j hj => by rcases Nat.lt_or_ge j i with q9 | q9; exact hal j q9; rw [show j = i by omega]; exact h_al) (scan_b hsc hrv (Or.inr (by omega))) (by simp only [len1, opn]; omega) (hrw) hP hD hS ls (lv_sub hl [4, 1, 5, 0] rfl)
                            · exact absurd c_173 (by decide)
                          · exact absurd c_126 (by decide)
              refine lv_iload hx hb dX5_cut_64 (lv_at hl 4 rfl) ?_
              refine lv_bipush (v := nI 10) hx hb dX5_cut_66 (by decide) ?_
              refine lv_icmp_ne (tgt := 76) hx hb dX5_cut_68 (by decide) (fun c_68 => ?_) (fun c_68 => ?_)
              · have c_68 : ¬ ((BB i) = 10) := fun h9 => c_68 ((nI_eq (a := (BB i)) (b := 10) (by omega) (by omega)).mpr h9)
                refine lv_iload hx hb dX5_cut_76 (lv_at hl 4 rfl) ?_
                refine lv_bipush (v := nI 59) hx hb dX5_cut_78 (by decide) ?_
                refine lv_icmp_ne (tgt := 85) hx hb dX5_cut_80 (by decide) (fun c_80 => ?_) (fun c_80 => ?_)
                · have c_80 : ¬ ((BB i) = 59) := fun h9 => c_80 ((nI_eq (a := (BB i)) (b := 59) (by omega) (by omega)).mpr h9)
                  exact j_85 r (by unfold remT; rw [decide_eq_true c_68, decide_eq_false c_80]; simp) ls (lv_sub hl [0, 1, 2, 3, 4] rfl)
                · have c_80 : (BB i) = 59 := (nI_eq (a := (BB i)) (b := 59) (by omega) (by omega)).mp c_80
                  refine lv_iconst (v := nI 1) hx hb dX5_cut_83 (by decide) ?_
                  refine lv_istore_n (lv' := [(2, .int (nI 1)), (0, .ref mo), (1, .int (nI 0)), (3, .int (nI i)), (4, .int (nI (BB i)))]) hx hb dX5_cut_84 rfl hl (by decide) rfl (fun ls hl => ?_)
                  exact j_85 true (by unfold remT; rw [c_80]; simp) ls (lv_sub hl [1, 2, 0, 3, 4] rfl)
              · have c_68 : (BB i) = 10 := (nI_eq (a := (BB i)) (b := 10) (by omega) (by omega)).mp c_68
                refine lv_iconst (v := nI 0) hx hb dX5_cut_71 (by decide) ?_
                refine lv_istore_n (lv' := [(2, .int (nI 0)), (0, .ref mo), (1, .int (nI 0)), (3, .int (nI i)), (4, .int (nI (BB i)))]) hx hb dX5_cut_72 rfl hl (by decide) rfl (fun ls hl => ?_)
                refine lv_goto (tgt := 85) hx hb dX5_cut_73 (by decide) ?_
                exact j_85 false (by unfold remT; rw [c_68]; rfl) ls (lv_sub hl [1, 2, 0, 3, 4] rfl)
            refine lv_iload hx hb dX5_cut_27 (lv_at hl 0 rfl) ?_
            refine lv_bipush (v := nI 9) hx hb dX5_cut_29 (by decide) ?_
            refine lv_icmp_eq (tgt := 64) hx hb dX5_cut_31 (by decide) (fun c_31 => ?_) (fun c_31 => ?_)
            · have c_31 : (BB i) = 9 := (nI_eq (a := (BB i)) (b := 9) (by omega) (by omega)).mp c_31
              exact j_64  (by unfold alP; omega) ls (lv_sub hl [1, 2, 3, 4, 0] rfl)
            · have c_31 : ¬ ((BB i) = 9) := fun h9 => c_31 ((nI_eq (a := (BB i)) (b := 9) (by omega) (by omega)).mpr h9)
              refine lv_iload hx hb dX5_cut_34 (lv_at hl 0 rfl) ?_
              refine lv_bipush (v := nI 10) hx hb dX5_cut_36 (by decide) ?_
              refine lv_icmp_eq (tgt := 64) hx hb dX5_cut_38 (by decide) (fun c_38 => ?_) (fun c_38 => ?_)
              · have c_38 : (BB i) = 10 := (nI_eq (a := (BB i)) (b := 10) (by omega) (by omega)).mp c_38
                exact j_64  (by unfold alP; omega) ls (lv_sub hl [1, 2, 3, 4, 0] rfl)
              · have c_38 : ¬ ((BB i) = 10) := fun h9 => c_38 ((nI_eq (a := (BB i)) (b := 10) (by omega) (by omega)).mpr h9)
                refine lv_iload hx hb dX5_cut_41 (lv_at hl 0 rfl) ?_
                refine lv_bipush (v := nI 13) hx hb dX5_cut_43 (by decide) ?_
                refine lv_icmp_eq (tgt := 64) hx hb dX5_cut_45 (by decide) (fun c_45 => ?_) (fun c_45 => ?_)
                · have c_45 : (BB i) = 13 := (nI_eq (a := (BB i)) (b := 13) (by omega) (by omega)).mp c_45
                  exact j_64  (by unfold alP; omega) ls (lv_sub hl [1, 2, 3, 4, 0] rfl)
                · have c_45 : ¬ ((BB i) = 13) := fun h9 => c_45 ((nI_eq (a := (BB i)) (b := 13) (by omega) (by omega)).mpr h9)
                  refine lv_iload hx hb dX5_cut_48 (lv_at hl 0 rfl) ?_
                  refine lv_bipush (v := nI 32) hx hb dX5_cut_50 (by decide) ?_
                  refine lv_icmp_lt (tgt := 62) hx hb dX5_cut_52 (by decide) (fun c_52 => ?_) (fun c_52 => ?_)
                  · have c_52 : (BB i) < 32 := (nI_ltI (a := (BB i)) (b := 32) (by omega) (by omega)).mp c_52
                    refine lv_iconst (v := nI 0) hx hb dX5_cut_62 (by decide) ?_
                    have hbad : ¬ alP (BB i) := by unfold alP; omega
                    have hci : cutI BB len = i := cutI_bad (by omega) hal hbad
                    have hcd : cutD BB len = ts := cutD_at hsc hci
                    have hP := hP.sub (ws' := [(mo, .inr (5, [.ref (Z 0), .int (v 0), .int (v 1), .ref (Z 1), .int (nI len), .ref (Z 2), .ref (Z 3), .int (nI ts.length), .int (v 3), .int (v 4), .ref (Z 4), .ref (Z 5), .ref (Z 6), .ref (Z 7), .ref (Z 8), .int (v 5), .int (v 6), .int (v 7)])), ((Z 1), .inl (cB, 16000, .inl gt)), ((Z 2), .inl (cI, 16002, .inl gf)), ((Z 3), .inl (cI, 16002, .inl go))]) [0, 1, 2, 3] rfl
                    have hD := hD.sub (ws' := [(mo, .inr (5, [.ref (Z 0), .int (v 0), .int (v 1), .ref (Z 1), .int (nI len), .ref (Z 2), .ref (Z 3), .int (nI ts.length), .int (v 3), .int (v 4), .ref (Z 4), .ref (Z 5), .ref (Z 6), .ref (Z 7), .ref (Z 8), .int (v 5), .int (v 6), .int (v 7)])), ((Z 1), .inl (cB, 16000, .inl gt)), ((Z 2), .inl (cI, 16002, .inl gf)), ((Z 3), .inl (cI, 16002, .inl go))]) [0, 1, 2, 3] (by decide) rfl
                    have hP : va_P D vwCl [(mo, .inr (5, [.ref (Z 0), .int (v 0), .int (v 1), .ref (Z 1), .int (nI len), .ref (Z 2), .ref (Z 3), .int (nI ((cutD BB len).length)), .int (v 3), .int (v 4), .ref (Z 4), .ref (Z 5), .ref (Z 6), .ref (Z 7), .ref (Z 8), .int (v 5), .int (v 6), .int (v 7)])), ((Z 1), .inl (cB, 16000, .inl gt)), ((Z 2), .inl (cI, 16002, .inl gf)), ((Z 3), .inl (cI, 16002, .inl go))] H := by rw [hcd]; exact hP
                    have hD : va_D A [(mo, .inr (5, [.ref (Z 0), .int (v 0), .int (v 1), .ref (Z 1), .int (nI len), .ref (Z 2), .ref (Z 3), .int (nI ((cutD BB len).length)), .int (v 3), .int (v 4), .ref (Z 4), .ref (Z 5), .ref (Z 6), .ref (Z 7), .ref (Z 8), .int (v 5), .int (v 6), .int (v 7)])), ((Z 1), .inl (cB, 16000, .inl gt)), ((Z 2), .inl (cI, 16002, .inl gf)), ((Z 3), .inl (cI, 16002, .inl go))] := by rw [hcd]; exact hD
                    rw [hQ]
                    have hP9 := hP.sub (ws' := [(mo, .inr (5, [.ref (Z 0), .int (v 0), .int (v 1), .ref (Z 1), .int (nI len), .ref (Z 2), .ref (Z 3), .int (nI ((cutD BB len).length)), .int (v 3), .int (v 4), .ref (Z 4), .ref (Z 5), .ref (Z 6), .ref (Z 7), .ref (Z 8), .int (v 5), .int (v 6), .int (v 7)])), ((Z 1), .inl (cB, 16000, .inl gt)), ((Z 2), .inl (cI, 16002, .inl gf)), ((Z 3), .inl (cI, 16002, .inl go))]) [0, 1, 2, 3] rfl
                    have hD9 := hD.sub (ws' := [(mo, .inr (5, [.ref (Z 0), .int (v 0), .int (v 1), .ref (Z 1), .int (nI len), .ref (Z 2), .ref (Z 3), .int (nI ((cutD BB len).length)), .int (v 3), .int (v 4), .ref (Z 4), .ref (Z 5), .ref (Z 6), .ref (Z 7), .ref (Z 8), .int (v 5), .int (v 6), .int (v 7)])), ((Z 1), .inl (cB, 16000, .inl gt)), ((Z 2), .inl (cI, 16002, .inl gf)), ((Z 3), .inl (cI, 16002, .inl go))]) [0, 1, 2, 3] (by decide) rfl
                    refine W.widen (k := 0) (n := 0) (show 0 ≤ 0 by omega) (show 0 ≤ 0 by omega) ?_
                    exact W.zret (v := nI 0) hx hb hr (by decide) (fun t9 ht hW => ⟨⟨nI 0, (gf, go), rfl, ⟨(Bt_f (by rw [hci]; omega)).symm, by rw [hcd]; exact hrw⟩, by rw [ht]; exact hP9, hD9⟩, hS.F ht⟩) hS.2.2 dX5_cut_63
                  · have c_52 : ¬ ((BB i) < 32) := fun h9 => c_52 ((nI_ltI (a := (BB i)) (b := 32) (by omega) (by omega)).mpr h9)
                    refine lv_iload hx hb dX5_cut_55 (lv_at hl 0 rfl) ?_
                    refine lv_bipush (v := nI 126) hx hb dX5_cut_57 (by decide) ?_
                    refine lv_icmp_le (tgt := 64) hx hb dX5_cut_59 (by decide) (fun c_59 => ?_) (fun c_59 => ?_)
                    · have c_59 : (BB i) ≤ 126 := (nI_leI (a := (BB i)) (b := 126) (by omega) (by omega)).mp c_59
                      exact j_64  (by unfold alP; omega) ls (lv_sub hl [1, 2, 3, 4, 0] rfl)
                    · have c_59 : ¬ ((BB i) ≤ 126) := fun h9 => c_59 ((nI_leI (a := (BB i)) (b := 126) (by omega) (by omega)).mpr h9)
                      refine lv_iconst (v := nI 0) hx hb dX5_cut_62 (by decide) ?_
                      have hbad : ¬ alP (BB i) := by unfold alP; omega
                      have hci : cutI BB len = i := cutI_bad (by omega) hal hbad
                      have hcd : cutD BB len = ts := cutD_at hsc hci
                      have hP := hP.sub (ws' := [(mo, .inr (5, [.ref (Z 0), .int (v 0), .int (v 1), .ref (Z 1), .int (nI len), .ref (Z 2), .ref (Z 3), .int (nI ts.length), .int (v 3), .int (v 4), .ref (Z 4), .ref (Z 5), .ref (Z 6), .ref (Z 7), .ref (Z 8), .int (v 5), .int (v 6), .int (v 7)])), ((Z 1), .inl (cB, 16000, .inl gt)), ((Z 2), .inl (cI, 16002, .inl gf)), ((Z 3), .inl (cI, 16002, .inl go))]) [0, 1, 2, 3] rfl
                      have hD := hD.sub (ws' := [(mo, .inr (5, [.ref (Z 0), .int (v 0), .int (v 1), .ref (Z 1), .int (nI len), .ref (Z 2), .ref (Z 3), .int (nI ts.length), .int (v 3), .int (v 4), .ref (Z 4), .ref (Z 5), .ref (Z 6), .ref (Z 7), .ref (Z 8), .int (v 5), .int (v 6), .int (v 7)])), ((Z 1), .inl (cB, 16000, .inl gt)), ((Z 2), .inl (cI, 16002, .inl gf)), ((Z 3), .inl (cI, 16002, .inl go))]) [0, 1, 2, 3] (by decide) rfl
                      have hP : va_P D vwCl [(mo, .inr (5, [.ref (Z 0), .int (v 0), .int (v 1), .ref (Z 1), .int (nI len), .ref (Z 2), .ref (Z 3), .int (nI ((cutD BB len).length)), .int (v 3), .int (v 4), .ref (Z 4), .ref (Z 5), .ref (Z 6), .ref (Z 7), .ref (Z 8), .int (v 5), .int (v 6), .int (v 7)])), ((Z 1), .inl (cB, 16000, .inl gt)), ((Z 2), .inl (cI, 16002, .inl gf)), ((Z 3), .inl (cI, 16002, .inl go))] H := by rw [hcd]; exact hP
                      have hD : va_D A [(mo, .inr (5, [.ref (Z 0), .int (v 0), .int (v 1), .ref (Z 1), .int (nI len), .ref (Z 2), .ref (Z 3), .int (nI ((cutD BB len).length)), .int (v 3), .int (v 4), .ref (Z 4), .ref (Z 5), .ref (Z 6), .ref (Z 7), .ref (Z 8), .int (v 5), .int (v 6), .int (v 7)])), ((Z 1), .inl (cB, 16000, .inl gt)), ((Z 2), .inl (cI, 16002, .inl gf)), ((Z 3), .inl (cI, 16002, .inl go))] := by rw [hcd]; exact hD
                      rw [hQ]
                      have hP9 := hP.sub (ws' := [(mo, .inr (5, [.ref (Z 0), .int (v 0), .int (v 1), .ref (Z 1), .int (nI len), .ref (Z 2), .ref (Z 3), .int (nI ((cutD BB len).length)), .int (v 3), .int (v 4), .ref (Z 4), .ref (Z 5), .ref (Z 6), .ref (Z 7), .ref (Z 8), .int (v 5), .int (v 6), .int (v 7)])), ((Z 1), .inl (cB, 16000, .inl gt)), ((Z 2), .inl (cI, 16002, .inl gf)), ((Z 3), .inl (cI, 16002, .inl go))]) [0, 1, 2, 3] rfl
                      have hD9 := hD.sub (ws' := [(mo, .inr (5, [.ref (Z 0), .int (v 0), .int (v 1), .ref (Z 1), .int (nI len), .ref (Z 2), .ref (Z 3), .int (nI ((cutD BB len).length)), .int (v 3), .int (v 4), .ref (Z 4), .ref (Z 5), .ref (Z 6), .ref (Z 7), .ref (Z 8), .int (v 5), .int (v 6), .int (v 7)])), ((Z 1), .inl (cB, 16000, .inl gt)), ((Z 2), .inl (cI, 16002, .inl gf)), ((Z 3), .inl (cI, 16002, .inl go))]) [0, 1, 2, 3] (by decide) rfl
                      refine W.widen (k := 0) (n := 0) (show 0 ≤ 0 by omega) (show 0 ≤ 0 by omega) ?_
                      exact W.zret (v := nI 0) hx hb hr (by decide) (fun t9 ht hW => ⟨⟨nI 0, (gf, go), rfl, ⟨(Bt_f (by rw [hci]; omega)).symm, by rw [hcd]; exact hrw⟩, by rw [ht]; exact hP9, hD9⟩, hS.F ht⟩) hS.2.2 dX5_cut_63
          · have hgt := (htx i (by omega)).2 h128
            refine lv_istore (lv' := [(4, .int (gt i)), (0, .ref mo), (1, .int (nI 0)), (2, .int (bI r)), (3, .int (nI i))]) hx hb dX5_cut_25 hl (by decide) rfl (fun ls hl => ?_)
            refine lv_iload hx hb dX5_cut_27 (lv_at hl 0 rfl) ?_
            refine lv_bipush (v := nI 9) hx hb dX5_cut_29 (by decide) ?_
            refine lv_icmp_eq (tgt := 64) hx hb dX5_cut_31 (by decide) (fun c_31 => ?_) (fun c_31 => ?_)
            · exact absurd (c_31 ▸ hgt) (by decide)
            · refine lv_iload hx hb dX5_cut_34 (lv_at hl 0 rfl) ?_
              refine lv_bipush (v := nI 10) hx hb dX5_cut_36 (by decide) ?_
              refine lv_icmp_eq (tgt := 64) hx hb dX5_cut_38 (by decide) (fun c_38 => ?_) (fun c_38 => ?_)
              · exact absurd (c_38 ▸ hgt) (by decide)
              · refine lv_iload hx hb dX5_cut_41 (lv_at hl 0 rfl) ?_
                refine lv_bipush (v := nI 13) hx hb dX5_cut_43 (by decide) ?_
                refine lv_icmp_eq (tgt := 64) hx hb dX5_cut_45 (by decide) (fun c_45 => ?_) (fun c_45 => ?_)
                · exact absurd (c_45 ▸ hgt) (by decide)
                · refine lv_iload hx hb dX5_cut_48 (lv_at hl 0 rfl) ?_
                  refine lv_bipush (v := nI 32) hx hb dX5_cut_50 (by decide) ?_
                  refine lv_icmp_lt (tgt := 62) hx hb dX5_cut_52 (by decide) (fun c_52 => ?_) (fun c_52 => ?_)
                  · refine lv_iconst (v := nI 0) hx hb dX5_cut_62 (by decide) ?_
                    have hbad : ¬ alP (BB i) := by unfold alP; omega
                    have hci : cutI BB len = i := cutI_bad (by omega) hal hbad
                    have hcd : cutD BB len = ts := cutD_at hsc hci
                    have hP := hP.sub (ws' := [(mo, .inr (5, [.ref (Z 0), .int (v 0), .int (v 1), .ref (Z 1), .int (nI len), .ref (Z 2), .ref (Z 3), .int (nI ts.length), .int (v 3), .int (v 4), .ref (Z 4), .ref (Z 5), .ref (Z 6), .ref (Z 7), .ref (Z 8), .int (v 5), .int (v 6), .int (v 7)])), ((Z 1), .inl (cB, 16000, .inl gt)), ((Z 2), .inl (cI, 16002, .inl gf)), ((Z 3), .inl (cI, 16002, .inl go))]) [0, 1, 2, 3] rfl
                    have hD := hD.sub (ws' := [(mo, .inr (5, [.ref (Z 0), .int (v 0), .int (v 1), .ref (Z 1), .int (nI len), .ref (Z 2), .ref (Z 3), .int (nI ts.length), .int (v 3), .int (v 4), .ref (Z 4), .ref (Z 5), .ref (Z 6), .ref (Z 7), .ref (Z 8), .int (v 5), .int (v 6), .int (v 7)])), ((Z 1), .inl (cB, 16000, .inl gt)), ((Z 2), .inl (cI, 16002, .inl gf)), ((Z 3), .inl (cI, 16002, .inl go))]) [0, 1, 2, 3] (by decide) rfl
                    have hP : va_P D vwCl [(mo, .inr (5, [.ref (Z 0), .int (v 0), .int (v 1), .ref (Z 1), .int (nI len), .ref (Z 2), .ref (Z 3), .int (nI ((cutD BB len).length)), .int (v 3), .int (v 4), .ref (Z 4), .ref (Z 5), .ref (Z 6), .ref (Z 7), .ref (Z 8), .int (v 5), .int (v 6), .int (v 7)])), ((Z 1), .inl (cB, 16000, .inl gt)), ((Z 2), .inl (cI, 16002, .inl gf)), ((Z 3), .inl (cI, 16002, .inl go))] H := by rw [hcd]; exact hP
                    have hD : va_D A [(mo, .inr (5, [.ref (Z 0), .int (v 0), .int (v 1), .ref (Z 1), .int (nI len), .ref (Z 2), .ref (Z 3), .int (nI ((cutD BB len).length)), .int (v 3), .int (v 4), .ref (Z 4), .ref (Z 5), .ref (Z 6), .ref (Z 7), .ref (Z 8), .int (v 5), .int (v 6), .int (v 7)])), ((Z 1), .inl (cB, 16000, .inl gt)), ((Z 2), .inl (cI, 16002, .inl gf)), ((Z 3), .inl (cI, 16002, .inl go))] := by rw [hcd]; exact hD
                    rw [hQ]
                    have hP9 := hP.sub (ws' := [(mo, .inr (5, [.ref (Z 0), .int (v 0), .int (v 1), .ref (Z 1), .int (nI len), .ref (Z 2), .ref (Z 3), .int (nI ((cutD BB len).length)), .int (v 3), .int (v 4), .ref (Z 4), .ref (Z 5), .ref (Z 6), .ref (Z 7), .ref (Z 8), .int (v 5), .int (v 6), .int (v 7)])), ((Z 1), .inl (cB, 16000, .inl gt)), ((Z 2), .inl (cI, 16002, .inl gf)), ((Z 3), .inl (cI, 16002, .inl go))]) [0, 1, 2, 3] rfl
                    have hD9 := hD.sub (ws' := [(mo, .inr (5, [.ref (Z 0), .int (v 0), .int (v 1), .ref (Z 1), .int (nI len), .ref (Z 2), .ref (Z 3), .int (nI ((cutD BB len).length)), .int (v 3), .int (v 4), .ref (Z 4), .ref (Z 5), .ref (Z 6), .ref (Z 7), .ref (Z 8), .int (v 5), .int (v 6), .int (v 7)])), ((Z 1), .inl (cB, 16000, .inl gt)), ((Z 2), .inl (cI, 16002, .inl gf)), ((Z 3), .inl (cI, 16002, .inl go))]) [0, 1, 2, 3] (by decide) rfl
                    refine W.widen (k := 0) (n := 0) (show 0 ≤ 0 by omega) (show 0 ≤ 0 by omega) ?_
                    exact W.zret (v := nI 0) hx hb hr (by decide) (fun t9 ht hW => ⟨⟨nI 0, (gf, go), rfl, ⟨(Bt_f (by rw [hci]; omega)).symm, by rw [hcd]; exact hrw⟩, by rw [ht]; exact hP9, hD9⟩, hS.F ht⟩) hS.2.2 dX5_cut_63
                  · exact absurd (Int32.lt_trans hgt (by decide)) c_52
      · simp only [opn] at hDl
        have hrw : rwR (ts ++ [(b0, i)]) gf go := hrw
        have hP : va_P D vwCl [(mo, .inr (5, [.ref (Z 0), .int (v 0), .int (v 1), .ref (Z 1), .int (nI len), .ref (Z 2), .ref (Z 3), .int (nI (ts.length + 1)), .int (v 3), .int (v 4), .ref (Z 4), .ref (Z 5), .ref (Z 6), .ref (Z 7), .ref (Z 8), .int (v 5), .int (v 6), .int (v 7)])), ((Z 1), .inl (cB, 16000, .inl gt)), ((Z 2), .inl (cI, 16002, .inl gf)), ((Z 3), .inl (cI, 16002, .inl go))] H := by rw [← len1 ts (b0, i)]; exact hP
        have hD : va_D A [(mo, .inr (5, [.ref (Z 0), .int (v 0), .int (v 1), .ref (Z 1), .int (nI len), .ref (Z 2), .ref (Z 3), .int (nI (ts.length + 1)), .int (v 3), .int (v 4), .ref (Z 4), .ref (Z 5), .ref (Z 6), .ref (Z 7), .ref (Z 8), .int (v 5), .int (v 6), .int (v 7)])), ((Z 1), .inl (cB, 16000, .inl gt)), ((Z 2), .inl (cI, 16002, .inl gf)), ((Z 3), .inl (cI, 16002, .inl go))] := by rw [← len1 ts (b0, i)]; exact hD
        have hl : lv_has ls 7 [(0, .ref mo), (1, .int (nI 1)), (2, .int (bI r)), (3, .int (nI i))] := hl
        refine lv_iload_n hx hb dX5_cut_11 rfl (lv_at hl 3 rfl) ?_
        refine lv_aload_n hx hb dX5_cut_12 rfl (lv_at hl 0 rfl) ?_
        refine va_get (D := D) (ci := 5) (v := .int (nI len)) (C := RX5) (T := TX5) (N := 18) hx hb hts (by decide +kernel) hown hK hP 0 rfl rfl 4 (by decide) (hts (.fieldLink RX5 53 "BodyTextModel" "textLength" "I") (by decide +kernel)) (fun _ h9 => h9) rfl dX5_cut_13 ?_
        refine lv_icmp_ge (tgt := 246) hx hb dX5_cut_16 (by decide) (fun c_16 => ?_) (fun c_16 => ?_)
        · have c_16 : len ≤ i := (nI_leI (a := len) (b := i) (by omega) (by omega)).mp c_16
          refine lv_iconst (v := nI 1) hx hb dX5_cut_246 (by decide) ?_
          have hci : cutI BB len = i := (by rw [show i = len by omega] at hal ⊢; exact cutI_end hal)
          have hcd : cutD BB len = (ts ++ [(b0, i)]) := cutD_at hsc hci
          have hP := hP.sub (ws' := [(mo, .inr (5, [.ref (Z 0), .int (v 0), .int (v 1), .ref (Z 1), .int (nI len), .ref (Z 2), .ref (Z 3), .int (nI (ts.length + 1)), .int (v 3), .int (v 4), .ref (Z 4), .ref (Z 5), .ref (Z 6), .ref (Z 7), .ref (Z 8), .int (v 5), .int (v 6), .int (v 7)])), ((Z 1), .inl (cB, 16000, .inl gt)), ((Z 2), .inl (cI, 16002, .inl gf)), ((Z 3), .inl (cI, 16002, .inl go))]) [0, 1, 2, 3] rfl
          have hD := hD.sub (ws' := [(mo, .inr (5, [.ref (Z 0), .int (v 0), .int (v 1), .ref (Z 1), .int (nI len), .ref (Z 2), .ref (Z 3), .int (nI (ts.length + 1)), .int (v 3), .int (v 4), .ref (Z 4), .ref (Z 5), .ref (Z 6), .ref (Z 7), .ref (Z 8), .int (v 5), .int (v 6), .int (v 7)])), ((Z 1), .inl (cB, 16000, .inl gt)), ((Z 2), .inl (cI, 16002, .inl gf)), ((Z 3), .inl (cI, 16002, .inl go))]) [0, 1, 2, 3] (by decide) rfl
          have hP : va_P D vwCl [(mo, .inr (5, [.ref (Z 0), .int (v 0), .int (v 1), .ref (Z 1), .int (nI len), .ref (Z 2), .ref (Z 3), .int (nI ((cutD BB len).length)), .int (v 3), .int (v 4), .ref (Z 4), .ref (Z 5), .ref (Z 6), .ref (Z 7), .ref (Z 8), .int (v 5), .int (v 6), .int (v 7)])), ((Z 1), .inl (cB, 16000, .inl gt)), ((Z 2), .inl (cI, 16002, .inl gf)), ((Z 3), .inl (cI, 16002, .inl go))] H := by rw [hcd, len1]; exact hP
          have hD : va_D A [(mo, .inr (5, [.ref (Z 0), .int (v 0), .int (v 1), .ref (Z 1), .int (nI len), .ref (Z 2), .ref (Z 3), .int (nI ((cutD BB len).length)), .int (v 3), .int (v 4), .ref (Z 4), .ref (Z 5), .ref (Z 6), .ref (Z 7), .ref (Z 8), .int (v 5), .int (v 6), .int (v 7)])), ((Z 1), .inl (cB, 16000, .inl gt)), ((Z 2), .inl (cI, 16002, .inl gf)), ((Z 3), .inl (cI, 16002, .inl go))] := by rw [hcd, len1]; exact hD
          rw [hQ]
          have hP9 := hP.sub (ws' := [(mo, .inr (5, [.ref (Z 0), .int (v 0), .int (v 1), .ref (Z 1), .int (nI len), .ref (Z 2), .ref (Z 3), .int (nI ((cutD BB len).length)), .int (v 3), .int (v 4), .ref (Z 4), .ref (Z 5), .ref (Z 6), .ref (Z 7), .ref (Z 8), .int (v 5), .int (v 6), .int (v 7)])), ((Z 1), .inl (cB, 16000, .inl gt)), ((Z 2), .inl (cI, 16002, .inl gf)), ((Z 3), .inl (cI, 16002, .inl go))]) [0, 1, 2, 3] rfl
          have hD9 := hD.sub (ws' := [(mo, .inr (5, [.ref (Z 0), .int (v 0), .int (v 1), .ref (Z 1), .int (nI len), .ref (Z 2), .ref (Z 3), .int (nI ((cutD BB len).length)), .int (v 3), .int (v 4), .ref (Z 4), .ref (Z 5), .ref (Z 6), .ref (Z 7), .ref (Z 8), .int (v 5), .int (v 6), .int (v 7)])), ((Z 1), .inl (cB, 16000, .inl gt)), ((Z 2), .inl (cI, 16002, .inl gf)), ((Z 3), .inl (cI, 16002, .inl go))]) [0, 1, 2, 3] (by decide) rfl
          refine W.widen (k := 0) (n := 0) (show 0 ≤ 0 by omega) (show 0 ≤ 0 by omega) ?_
          exact W.zret (v := nI 1) hx hb hr (by decide) (fun t9 ht hW => ⟨⟨nI 1, (gf, go), rfl, ⟨(Bt_t (by rw [hci]; omega)).symm, by rw [hcd]; exact hrw⟩, by rw [ht]; exact hP9, hD9⟩, hS.F ht⟩) hS.2.2 dX5_cut_247
        · have c_16 : ¬ (len ≤ i) := fun h9 => c_16 ((nI_leI (a := len) (b := i) (by omega) (by omega)).mpr h9)
          refine lv_aload_n hx hb dX5_cut_19 rfl (lv_at hl 0 rfl) ?_
          refine va_get (D := D) (ci := 5) (v := .ref (Z 1)) (C := RX5) (T := TX5) (N := 18) hx hb hts (by decide +kernel) hown hK hP 0 rfl rfl 3 (by decide) (hts (.fieldLink RX5 13 "BodyTextModel" "text" "[B") (by decide +kernel)) (fun _ h9 => h9) rfl dX5_cut_20 ?_
          refine lv_iload_n hx hb dX5_cut_23 rfl (lv_at hl 3 rfl) ?_
          refine va_bald hx hb hK hP 1 0 rfl rfl (vp_in_nI (by omega) (by omega)) dX5_cut_24 ?_
          rw [nI_clamp (by omega)]
          rcases Nat.lt_or_ge (BB i) 128 with h128 | h128
          · have hgt := (htx i (by omega)).1 h128
            refine bt_topi (y := nI (BB i)) hgt ?_
            refine lv_istore (lv' := [(4, .int (nI (BB i))), (0, .ref mo), (1, .int (nI 1)), (2, .int (bI r)), (3, .int (nI i))]) hx hb dX5_cut_25 hl (by decide) rfl (fun ls hl => ?_)
            have j_64 : (alP (BB i)) → ∀ (ls : Array Slot), lv_has ls 7 [(0, .ref mo), (1, .int (nI 1)), (2, .int (bI r)), (3, .int (nI i)), (4, .int (nI (BB i)))] → W p l e ({ frames := 0, cells := 0, slots := 0, locals := 0 } : Room) s m ([.ref mo] : List Value).toArray below meth c H locs 0 0 Qp (F0 m 64 ls []) := by
              intro h_al ls hl
              have j_85 : ∀ (rv : Bool), (rv = remT (BB i) r) → ∀ (ls : Array Slot), lv_has ls 7 [(0, .ref mo), (1, .int (nI 1)), (2, .int (bI rv)), (3, .int (nI i)), (4, .int (nI (BB i)))] → W p l e ({ frames := 0, cells := 0, slots := 0, locals := 0 } : Room) s m ([.ref mo] : List Value).toArray below meth c H locs 0 0 Qp (F0 m 85 ls []) := by
                intro rv hrv ls hl
                refine lv_iload_n hx hb dX5_cut_85 rfl (lv_at hl 2 rfl) ?_
                refine lv_if_ne (tgt := 117) hx hb dX5_cut_86 (by decide) (fun c_86 => ?_) (fun c_86 => ?_)
                · refine lv_iconst (v := nI 1) hx hb dX5_cut_117 (by decide) ?_
                  refine lv_goto (tgt := 122) hx hb dX5_cut_118 (by decide) ?_
                  refine lv_istore (lv' := [(5, .int (nI 1)), (0, .ref mo), (1, .int (nI 1)), (2, .int (bI rv)), (3, .int (nI i)), (4, .int (nI (BB i)))]) hx hb dX5_cut_122 hl (by decide) rfl (fun ls hl => ?_)
                  refine lv_iload hx hb dX5_cut_124 (lv_at hl 0 rfl) ?_
                  refine lv_if_ne (tgt := 168) hx hb dX5_cut_126 (by decide) (fun c_126 => ?_) (fun c_126 => ?_)
                  · clear c_126
                    refine lv_iconst (v := nI 0) hx hb dX5_cut_168 (by decide) ?_
                    refine lv_istore (lv' := [(6, .int (nI 0)), (5, .int (nI 1)), (0, .ref mo), (1, .int (nI 1)), (2, .int (bI rv)), (3, .int (nI i)), (4, .int (nI (BB i)))]) hx hb dX5_cut_169 hl (by decide) rfl (fun ls hl => ?_)
                    refine lv_iload hx hb dX5_cut_171 (lv_at hl 1 rfl) ?_
                    refine lv_if_ne (tgt := 181) hx hb dX5_cut_173 (by decide) (fun c_173 => ?_) (fun c_173 => ?_)
                    · clear c_173
                      refine lv_iconst (v := nI 0) hx hb dX5_cut_181 (by decide) ?_
                      refine lv_istore_n (lv' := [(1, .int (nI 0)), (6, .int (nI 0)), (5, .int (nI 1)), (0, .ref mo), (2, .int (bI rv)), (3, .int (nI i)), (4, .int (nI (BB i)))]) hx hb dX5_cut_182 rfl hl (by decide) rfl (fun ls hl => ?_)
                      refine lv_iload hx hb dX5_cut_183 (lv_at hl 2 rfl) ?_
                      refine lv_if_eq (tgt := 191) hx hb dX5_cut_185 (by decide) (fun c_185 => ?_) (fun c_185 => ?_)
                      · exact absurd c_185 (by decide)
                      · clear c_185
                        refine lv_goto (tgt := 240) hx hb dX5_cut_188 (by decide) ?_
                        refine lv_iinc (v := nI (i + 1)) (lv' := [(3, .int (nI (i + 1))), (1, .int (nI 0)), (6, .int (nI 0)), (5, .int (nI 1)), (0, .ref mo), (2, .int (bI rv)), (4, .int (nI (BB i)))]) hx hb dX5_cut_240 hl (k := 5) rfl (nI_add i 1) (by decide) rfl (fun ls hl => ?_)
                        refine lv_goto (tgt := 11) hx hb dX5_cut_243 (by decide) ?_
                        have hP := hP.sub (ws' := [(mo, .inr (5, [.ref (Z 0), .int (v 0), .int (v 1), .ref (Z 1), .int (nI len), .ref (Z 2), .ref (Z 3), .int (nI (ts.length + 1)), .int (v 3), .int (v 4), .ref (Z 4), .ref (Z 5), .ref (Z 6), .ref (Z 7), .ref (Z 8), .int (v 5), .int (v 6), .int (v 7)])), ((Z 1), .inl (cB, 16000, .inl gt)), ((Z 2), .inl (cI, 16002, .inl gf)), ((Z 3), .inl (cI, 16002, .inl go))]) [0, 1, 2, 3] rfl
                        have hD := hD.sub (ws' := [(mo, .inr (5, [.ref (Z 0), .int (v 0), .int (v 1), .ref (Z 1), .int (nI len), .ref (Z 2), .ref (Z 3), .int (nI (ts.length + 1)), .int (v 3), .int (v 4), .ref (Z 4), .ref (Z 5), .ref (Z 6), .ref (Z 7), .ref (Z 8), .int (v 5), .int (v 6), .int (v 7)])), ((Z 1), .inl (cB, 16000, .inl gt)), ((Z 2), .inl (cI, 16002, .inl gf)), ((Z 3), .inl (cI, 16002, .inl go))]) [0, 1, 2, 3] (by decide) rfl
                        have hP : va_P D vwCl [(mo, .inr (5, [.ref (Z 0), .int (v 0), .int (v 1), .ref (Z 1), .int (nI len), .ref (Z 2), .ref (Z 3), .int (nI (ts.length + 1)), .int (v 3), .int (v 4), .ref (Z 4), .ref (Z 5), .ref (Z 6), .ref (Z 7), .ref (Z 8), .int (v 5), .int (v 6), .int (v 7)])), ((Z 1), .inl (cB, 16000, .inl gt)), ((Z 2), .inl (cI, 16002, .inl gf)), ((Z 3), .inl (cI, 16002, .inl go))] H := hP
                        have hD : va_D A [(mo, .inr (5, [.ref (Z 0), .int (v 0), .int (v 1), .ref (Z 1), .int (nI len), .ref (Z 2), .ref (Z 3), .int (nI (ts.length + 1)), .int (v 3), .int (v 4), .ref (Z 4), .ref (Z 5), .ref (Z 6), .ref (Z 7), .ref (Z 8), .int (v 5), .int (v 6), .int (v 7)])), ((Z 1), .inl (cB, 16000, .inl gt)), ((Z 2), .inl (cI, 16002, .inl gf)), ((Z 3), .inl (cI, 16002, .inl go))] := hD
                        have hP : va_P D vwCl [(mo, .inr (5, [.ref (Z 0), .int (v 0), .int (v 1), .ref (Z 1), .int (nI len), .ref (Z 2), .ref (Z 3), .int (nI ((closeT (ts ++ [(b0, i)]) none (i + 1)).length)), .int (v 3), .int (v 4), .ref (Z 4), .ref (Z 5), .ref (Z 6), .ref (Z 7), .ref (Z 8), .int (v 5), .int (v 6), .int (v 7)])), ((Z 1), .inl (cB, 16000, .inl gt)), ((Z 2), .inl (cI, 16002, .inl gf)), ((Z 3), .inl (cI, 16002, .inl go))] H := by rw [cl_len]; simp only [len1, opn, Nat.add_zero]; exact hP
                        have hD : va_D A [(mo, .inr (5, [.ref (Z 0), .int (v 0), .int (v 1), .ref (Z 1), .int (nI len), .ref (Z 2), .ref (Z 3), .int (nI ((closeT (ts ++ [(b0, i)]) none (i + 1)).length)), .int (v 3), .int (v 4), .ref (Z 4), .ref (Z 5), .ref (Z 6), .ref (Z 7), .ref (Z 8), .int (v 5), .int (v 6), .int (v 7)])), ((Z 1), .inl (cB, 16000, .inl gt)), ((Z 2), .inl (cI, 16002, .inl gf)), ((Z 3), .inl (cI, 16002, .inl go))] := by rw [cl_len]; simp only [len1, opn, Nat.add_zero]; exact hD
                        exact ih (i + 1) (ts ++ [(b0, i)]) none rv gf go H locs (by omega) (by omega) (fun j hj => by rcases Nat.lt_or_ge j i with q9 | q9; exact hal j q9; rw [show j = i by omega]; exact h_al) (scan_b hsc hrv (Or.inl (bI_1 c_86))) (by simp only [len1, opn]; omega) (hrw) hP hD hS ls (lv_sub hl [4, 1, 5, 0] rfl)
                    · exact absurd c_173 (by decide)
                  · exact absurd c_126 (by decide)
                · refine lv_iload hx hb dX5_cut_89 (lv_at hl 4 rfl) ?_
                  refine lv_bipush (v := nI 9) hx hb dX5_cut_91 (by decide) ?_
                  refine lv_icmp_eq (tgt := 117) hx hb dX5_cut_93 (by decide) (fun c_93 => ?_) (fun c_93 => ?_)
                  · have c_93 : (BB i) = 9 := (nI_eq (a := (BB i)) (b := 9) (by omega) (by omega)).mp c_93
                    refine lv_iconst (v := nI 1) hx hb dX5_cut_117 (by decide) ?_
                    refine lv_goto (tgt := 122) hx hb dX5_cut_118 (by decide) ?_
                    refine lv_istore (lv' := [(5, .int (nI 1)), (0, .ref mo), (1, .int (nI 1)), (2, .int (bI rv)), (3, .int (nI i)), (4, .int (nI (BB i)))]) hx hb dX5_cut_122 hl (by decide) rfl (fun ls hl => ?_)
                    refine lv_iload hx hb dX5_cut_124 (lv_at hl 0 rfl) ?_
                    refine lv_if_ne (tgt := 168) hx hb dX5_cut_126 (by decide) (fun c_126 => ?_) (fun c_126 => ?_)
                    · clear c_126
                      refine lv_iconst (v := nI 0) hx hb dX5_cut_168 (by decide) ?_
                      refine lv_istore (lv' := [(6, .int (nI 0)), (5, .int (nI 1)), (0, .ref mo), (1, .int (nI 1)), (2, .int (bI rv)), (3, .int (nI i)), (4, .int (nI (BB i)))]) hx hb dX5_cut_169 hl (by decide) rfl (fun ls hl => ?_)
                      refine lv_iload hx hb dX5_cut_171 (lv_at hl 1 rfl) ?_
                      refine lv_if_ne (tgt := 181) hx hb dX5_cut_173 (by decide) (fun c_173 => ?_) (fun c_173 => ?_)
                      · clear c_173
                        refine lv_iconst (v := nI 0) hx hb dX5_cut_181 (by decide) ?_
                        refine lv_istore_n (lv' := [(1, .int (nI 0)), (6, .int (nI 0)), (5, .int (nI 1)), (0, .ref mo), (2, .int (bI rv)), (3, .int (nI i)), (4, .int (nI (BB i)))]) hx hb dX5_cut_182 rfl hl (by decide) rfl (fun ls hl => ?_)
                        refine lv_iload hx hb dX5_cut_183 (lv_at hl 2 rfl) ?_
                        refine lv_if_eq (tgt := 191) hx hb dX5_cut_185 (by decide) (fun c_185 => ?_) (fun c_185 => ?_)
                        · exact absurd c_185 (by decide)
                        · clear c_185
                          refine lv_goto (tgt := 240) hx hb dX5_cut_188 (by decide) ?_
                          refine lv_iinc (v := nI (i + 1)) (lv' := [(3, .int (nI (i + 1))), (1, .int (nI 0)), (6, .int (nI 0)), (5, .int (nI 1)), (0, .ref mo), (2, .int (bI rv)), (4, .int (nI (BB i)))]) hx hb dX5_cut_240 hl (k := 5) rfl (nI_add i 1) (by decide) rfl (fun ls hl => ?_)
                          refine lv_goto (tgt := 11) hx hb dX5_cut_243 (by decide) ?_
                          have hP := hP.sub (ws' := [(mo, .inr (5, [.ref (Z 0), .int (v 0), .int (v 1), .ref (Z 1), .int (nI len), .ref (Z 2), .ref (Z 3), .int (nI (ts.length + 1)), .int (v 3), .int (v 4), .ref (Z 4), .ref (Z 5), .ref (Z 6), .ref (Z 7), .ref (Z 8), .int (v 5), .int (v 6), .int (v 7)])), ((Z 1), .inl (cB, 16000, .inl gt)), ((Z 2), .inl (cI, 16002, .inl gf)), ((Z 3), .inl (cI, 16002, .inl go))]) [0, 1, 2, 3] rfl
                          have hD := hD.sub (ws' := [(mo, .inr (5, [.ref (Z 0), .int (v 0), .int (v 1), .ref (Z 1), .int (nI len), .ref (Z 2), .ref (Z 3), .int (nI (ts.length + 1)), .int (v 3), .int (v 4), .ref (Z 4), .ref (Z 5), .ref (Z 6), .ref (Z 7), .ref (Z 8), .int (v 5), .int (v 6), .int (v 7)])), ((Z 1), .inl (cB, 16000, .inl gt)), ((Z 2), .inl (cI, 16002, .inl gf)), ((Z 3), .inl (cI, 16002, .inl go))]) [0, 1, 2, 3] (by decide) rfl
                          have hP : va_P D vwCl [(mo, .inr (5, [.ref (Z 0), .int (v 0), .int (v 1), .ref (Z 1), .int (nI len), .ref (Z 2), .ref (Z 3), .int (nI (ts.length + 1)), .int (v 3), .int (v 4), .ref (Z 4), .ref (Z 5), .ref (Z 6), .ref (Z 7), .ref (Z 8), .int (v 5), .int (v 6), .int (v 7)])), ((Z 1), .inl (cB, 16000, .inl gt)), ((Z 2), .inl (cI, 16002, .inl gf)), ((Z 3), .inl (cI, 16002, .inl go))] H := hP
                          have hD : va_D A [(mo, .inr (5, [.ref (Z 0), .int (v 0), .int (v 1), .ref (Z 1), .int (nI len), .ref (Z 2), .ref (Z 3), .int (nI (ts.length + 1)), .int (v 3), .int (v 4), .ref (Z 4), .ref (Z 5), .ref (Z 6), .ref (Z 7), .ref (Z 8), .int (v 5), .int (v 6), .int (v 7)])), ((Z 1), .inl (cB, 16000, .inl gt)), ((Z 2), .inl (cI, 16002, .inl gf)), ((Z 3), .inl (cI, 16002, .inl go))] := hD
                          have hP : va_P D vwCl [(mo, .inr (5, [.ref (Z 0), .int (v 0), .int (v 1), .ref (Z 1), .int (nI len), .ref (Z 2), .ref (Z 3), .int (nI ((closeT (ts ++ [(b0, i)]) none (i + 1)).length)), .int (v 3), .int (v 4), .ref (Z 4), .ref (Z 5), .ref (Z 6), .ref (Z 7), .ref (Z 8), .int (v 5), .int (v 6), .int (v 7)])), ((Z 1), .inl (cB, 16000, .inl gt)), ((Z 2), .inl (cI, 16002, .inl gf)), ((Z 3), .inl (cI, 16002, .inl go))] H := by rw [cl_len]; simp only [len1, opn, Nat.add_zero]; exact hP
                          have hD : va_D A [(mo, .inr (5, [.ref (Z 0), .int (v 0), .int (v 1), .ref (Z 1), .int (nI len), .ref (Z 2), .ref (Z 3), .int (nI ((closeT (ts ++ [(b0, i)]) none (i + 1)).length)), .int (v 3), .int (v 4), .ref (Z 4), .ref (Z 5), .ref (Z 6), .ref (Z 7), .ref (Z 8), .int (v 5), .int (v 6), .int (v 7)])), ((Z 1), .inl (cB, 16000, .inl gt)), ((Z 2), .inl (cI, 16002, .inl gf)), ((Z 3), .inl (cI, 16002, .inl go))] := by rw [cl_len]; simp only [len1, opn, Nat.add_zero]; exact hD
                          exact ih (i + 1) (ts ++ [(b0, i)]) none rv gf go H locs (by omega) (by omega) (fun j hj => by rcases Nat.lt_or_ge j i with q9 | q9; exact hal j q9; rw [show j = i by omega]; exact h_al) (scan_b hsc hrv (Or.inr (by omega))) (by simp only [len1, opn]; omega) (hrw) hP hD hS ls (lv_sub hl [4, 1, 5, 0] rfl)
                      · exact absurd c_173 (by decide)
                    · exact absurd c_126 (by decide)
                  · have c_93 : ¬ ((BB i) = 9) := fun h9 => c_93 ((nI_eq (a := (BB i)) (b := 9) (by omega) (by omega)).mpr h9)
                    refine lv_iload hx hb dX5_cut_96 (lv_at hl 4 rfl) ?_
                    refine lv_bipush (v := nI 10) hx hb dX5_cut_98 (by decide) ?_
                    refine lv_icmp_eq (tgt := 117) hx hb dX5_cut_100 (by decide) (fun c_100 => ?_) (fun c_100 => ?_)
                    · have c_100 : (BB i) = 10 := (nI_eq (a := (BB i)) (b := 10) (by omega) (by omega)).mp c_100
                      refine lv_iconst (v := nI 1) hx hb dX5_cut_117 (by decide) ?_
                      refine lv_goto (tgt := 122) hx hb dX5_cut_118 (by decide) ?_
                      refine lv_istore (lv' := [(5, .int (nI 1)), (0, .ref mo), (1, .int (nI 1)), (2, .int (bI rv)), (3, .int (nI i)), (4, .int (nI (BB i)))]) hx hb dX5_cut_122 hl (by decide) rfl (fun ls hl => ?_)
                      refine lv_iload hx hb dX5_cut_124 (lv_at hl 0 rfl) ?_
                      refine lv_if_ne (tgt := 168) hx hb dX5_cut_126 (by decide) (fun c_126 => ?_) (fun c_126 => ?_)
                      · clear c_126
                        refine lv_iconst (v := nI 0) hx hb dX5_cut_168 (by decide) ?_
                        refine lv_istore (lv' := [(6, .int (nI 0)), (5, .int (nI 1)), (0, .ref mo), (1, .int (nI 1)), (2, .int (bI rv)), (3, .int (nI i)), (4, .int (nI (BB i)))]) hx hb dX5_cut_169 hl (by decide) rfl (fun ls hl => ?_)
                        refine lv_iload hx hb dX5_cut_171 (lv_at hl 1 rfl) ?_
                        refine lv_if_ne (tgt := 181) hx hb dX5_cut_173 (by decide) (fun c_173 => ?_) (fun c_173 => ?_)
                        · clear c_173
                          refine lv_iconst (v := nI 0) hx hb dX5_cut_181 (by decide) ?_
                          refine lv_istore_n (lv' := [(1, .int (nI 0)), (6, .int (nI 0)), (5, .int (nI 1)), (0, .ref mo), (2, .int (bI rv)), (3, .int (nI i)), (4, .int (nI (BB i)))]) hx hb dX5_cut_182 rfl hl (by decide) rfl (fun ls hl => ?_)
                          refine lv_iload hx hb dX5_cut_183 (lv_at hl 2 rfl) ?_
                          refine lv_if_eq (tgt := 191) hx hb dX5_cut_185 (by decide) (fun c_185 => ?_) (fun c_185 => ?_)
                          · exact absurd c_185 (by decide)
                          · clear c_185
                            refine lv_goto (tgt := 240) hx hb dX5_cut_188 (by decide) ?_
                            refine lv_iinc (v := nI (i + 1)) (lv' := [(3, .int (nI (i + 1))), (1, .int (nI 0)), (6, .int (nI 0)), (5, .int (nI 1)), (0, .ref mo), (2, .int (bI rv)), (4, .int (nI (BB i)))]) hx hb dX5_cut_240 hl (k := 5) rfl (nI_add i 1) (by decide) rfl (fun ls hl => ?_)
                            refine lv_goto (tgt := 11) hx hb dX5_cut_243 (by decide) ?_
                            have hP := hP.sub (ws' := [(mo, .inr (5, [.ref (Z 0), .int (v 0), .int (v 1), .ref (Z 1), .int (nI len), .ref (Z 2), .ref (Z 3), .int (nI (ts.length + 1)), .int (v 3), .int (v 4), .ref (Z 4), .ref (Z 5), .ref (Z 6), .ref (Z 7), .ref (Z 8), .int (v 5), .int (v 6), .int (v 7)])), ((Z 1), .inl (cB, 16000, .inl gt)), ((Z 2), .inl (cI, 16002, .inl gf)), ((Z 3), .inl (cI, 16002, .inl go))]) [0, 1, 2, 3] rfl
                            have hD := hD.sub (ws' := [(mo, .inr (5, [.ref (Z 0), .int (v 0), .int (v 1), .ref (Z 1), .int (nI len), .ref (Z 2), .ref (Z 3), .int (nI (ts.length + 1)), .int (v 3), .int (v 4), .ref (Z 4), .ref (Z 5), .ref (Z 6), .ref (Z 7), .ref (Z 8), .int (v 5), .int (v 6), .int (v 7)])), ((Z 1), .inl (cB, 16000, .inl gt)), ((Z 2), .inl (cI, 16002, .inl gf)), ((Z 3), .inl (cI, 16002, .inl go))]) [0, 1, 2, 3] (by decide) rfl
                            have hP : va_P D vwCl [(mo, .inr (5, [.ref (Z 0), .int (v 0), .int (v 1), .ref (Z 1), .int (nI len), .ref (Z 2), .ref (Z 3), .int (nI (ts.length + 1)), .int (v 3), .int (v 4), .ref (Z 4), .ref (Z 5), .ref (Z 6), .ref (Z 7), .ref (Z 8), .int (v 5), .int (v 6), .int (v 7)])), ((Z 1), .inl (cB, 16000, .inl gt)), ((Z 2), .inl (cI, 16002, .inl gf)), ((Z 3), .inl (cI, 16002, .inl go))] H := hP
                            have hD : va_D A [(mo, .inr (5, [.ref (Z 0), .int (v 0), .int (v 1), .ref (Z 1), .int (nI len), .ref (Z 2), .ref (Z 3), .int (nI (ts.length + 1)), .int (v 3), .int (v 4), .ref (Z 4), .ref (Z 5), .ref (Z 6), .ref (Z 7), .ref (Z 8), .int (v 5), .int (v 6), .int (v 7)])), ((Z 1), .inl (cB, 16000, .inl gt)), ((Z 2), .inl (cI, 16002, .inl gf)), ((Z 3), .inl (cI, 16002, .inl go))] := hD
                            have hP : va_P D vwCl [(mo, .inr (5, [.ref (Z 0), .int (v 0), .int (v 1), .ref (Z 1), .int (nI len), .ref (Z 2), .ref (Z 3), .int (nI ((closeT (ts ++ [(b0, i)]) none (i + 1)).length)), .int (v 3), .int (v 4), .ref (Z 4), .ref (Z 5), .ref (Z 6), .ref (Z 7), .ref (Z 8), .int (v 5), .int (v 6), .int (v 7)])), ((Z 1), .inl (cB, 16000, .inl gt)), ((Z 2), .inl (cI, 16002, .inl gf)), ((Z 3), .inl (cI, 16002, .inl go))] H := by rw [cl_len]; simp only [len1, opn, Nat.add_zero]; exact hP
                            have hD : va_D A [(mo, .inr (5, [.ref (Z 0), .int (v 0), .int (v 1), .ref (Z 1), .int (nI len), .ref (Z 2), .ref (Z 3), .int (nI ((closeT (ts ++ [(b0, i)]) none (i + 1)).length)), .int (v 3), .int (v 4), .ref (Z 4), .ref (Z 5), .ref (Z 6), .ref (Z 7), .ref (Z 8), .int (v 5), .int (v 6), .int (v 7)])), ((Z 1), .inl (cB, 16000, .inl gt)), ((Z 2), .inl (cI, 16002, .inl gf)), ((Z 3), .inl (cI, 16002, .inl go))] := by rw [cl_len]; simp only [len1, opn, Nat.add_zero]; exact hD
                            exact ih (i + 1) (ts ++ [(b0, i)]) none rv gf go H locs (by omega) (by omega) (fun j hj => by rcases Nat.lt_or_ge j i with q9 | q9; exact hal j q9; rw [show j = i by omega]; exact h_al) (scan_b hsc hrv (Or.inr (by omega))) (by simp only [len1, opn]; omega) (hrw) hP hD hS ls (lv_sub hl [4, 1, 5, 0] rfl)
                        · exact absurd c_173 (by decide)
                      · exact absurd c_126 (by decide)
                    · have c_100 : ¬ ((BB i) = 10) := fun h9 => c_100 ((nI_eq (a := (BB i)) (b := 10) (by omega) (by omega)).mpr h9)
                      refine lv_iload hx hb dX5_cut_103 (lv_at hl 4 rfl) ?_
                      refine lv_bipush (v := nI 13) hx hb dX5_cut_105 (by decide) ?_
                      refine lv_icmp_eq (tgt := 117) hx hb dX5_cut_107 (by decide) (fun c_107 => ?_) (fun c_107 => ?_)
                      · have c_107 : (BB i) = 13 := (nI_eq (a := (BB i)) (b := 13) (by omega) (by omega)).mp c_107
                        refine lv_iconst (v := nI 1) hx hb dX5_cut_117 (by decide) ?_
                        refine lv_goto (tgt := 122) hx hb dX5_cut_118 (by decide) ?_
                        refine lv_istore (lv' := [(5, .int (nI 1)), (0, .ref mo), (1, .int (nI 1)), (2, .int (bI rv)), (3, .int (nI i)), (4, .int (nI (BB i)))]) hx hb dX5_cut_122 hl (by decide) rfl (fun ls hl => ?_)
                        refine lv_iload hx hb dX5_cut_124 (lv_at hl 0 rfl) ?_
                        refine lv_if_ne (tgt := 168) hx hb dX5_cut_126 (by decide) (fun c_126 => ?_) (fun c_126 => ?_)
                        · clear c_126
                          refine lv_iconst (v := nI 0) hx hb dX5_cut_168 (by decide) ?_
                          refine lv_istore (lv' := [(6, .int (nI 0)), (5, .int (nI 1)), (0, .ref mo), (1, .int (nI 1)), (2, .int (bI rv)), (3, .int (nI i)), (4, .int (nI (BB i)))]) hx hb dX5_cut_169 hl (by decide) rfl (fun ls hl => ?_)
                          refine lv_iload hx hb dX5_cut_171 (lv_at hl 1 rfl) ?_
                          refine lv_if_ne (tgt := 181) hx hb dX5_cut_173 (by decide) (fun c_173 => ?_) (fun c_173 => ?_)
                          · clear c_173
                            refine lv_iconst (v := nI 0) hx hb dX5_cut_181 (by decide) ?_
                            refine lv_istore_n (lv' := [(1, .int (nI 0)), (6, .int (nI 0)), (5, .int (nI 1)), (0, .ref mo), (2, .int (bI rv)), (3, .int (nI i)), (4, .int (nI (BB i)))]) hx hb dX5_cut_182 rfl hl (by decide) rfl (fun ls hl => ?_)
                            refine lv_iload hx hb dX5_cut_183 (lv_at hl 2 rfl) ?_
                            refine lv_if_eq (tgt := 191) hx hb dX5_cut_185 (by decide) (fun c_185 => ?_) (fun c_185 => ?_)
                            · exact absurd c_185 (by decide)
                            · clear c_185
                              refine lv_goto (tgt := 240) hx hb dX5_cut_188 (by decide) ?_
                              refine lv_iinc (v := nI (i + 1)) (lv' := [(3, .int (nI (i + 1))), (1, .int (nI 0)), (6, .int (nI 0)), (5, .int (nI 1)), (0, .ref mo), (2, .int (bI rv)), (4, .int (nI (BB i)))]) hx hb dX5_cut_240 hl (k := 5) rfl (nI_add i 1) (by decide) rfl (fun ls hl => ?_)
                              refine lv_goto (tgt := 11) hx hb dX5_cut_243 (by decide) ?_
                              have hP := hP.sub (ws' := [(mo, .inr (5, [.ref (Z 0), .int (v 0), .int (v 1), .ref (Z 1), .int (nI len), .ref (Z 2), .ref (Z 3), .int (nI (ts.length + 1)), .int (v 3), .int (v 4), .ref (Z 4), .ref (Z 5), .ref (Z 6), .ref (Z 7), .ref (Z 8), .int (v 5), .int (v 6), .int (v 7)])), ((Z 1), .inl (cB, 16000, .inl gt)), ((Z 2), .inl (cI, 16002, .inl gf)), ((Z 3), .inl (cI, 16002, .inl go))]) [0, 1, 2, 3] rfl
                              have hD := hD.sub (ws' := [(mo, .inr (5, [.ref (Z 0), .int (v 0), .int (v 1), .ref (Z 1), .int (nI len), .ref (Z 2), .ref (Z 3), .int (nI (ts.length + 1)), .int (v 3), .int (v 4), .ref (Z 4), .ref (Z 5), .ref (Z 6), .ref (Z 7), .ref (Z 8), .int (v 5), .int (v 6), .int (v 7)])), ((Z 1), .inl (cB, 16000, .inl gt)), ((Z 2), .inl (cI, 16002, .inl gf)), ((Z 3), .inl (cI, 16002, .inl go))]) [0, 1, 2, 3] (by decide) rfl
                              have hP : va_P D vwCl [(mo, .inr (5, [.ref (Z 0), .int (v 0), .int (v 1), .ref (Z 1), .int (nI len), .ref (Z 2), .ref (Z 3), .int (nI (ts.length + 1)), .int (v 3), .int (v 4), .ref (Z 4), .ref (Z 5), .ref (Z 6), .ref (Z 7), .ref (Z 8), .int (v 5), .int (v 6), .int (v 7)])), ((Z 1), .inl (cB, 16000, .inl gt)), ((Z 2), .inl (cI, 16002, .inl gf)), ((Z 3), .inl (cI, 16002, .inl go))] H := hP
                              have hD : va_D A [(mo, .inr (5, [.ref (Z 0), .int (v 0), .int (v 1), .ref (Z 1), .int (nI len), .ref (Z 2), .ref (Z 3), .int (nI (ts.length + 1)), .int (v 3), .int (v 4), .ref (Z 4), .ref (Z 5), .ref (Z 6), .ref (Z 7), .ref (Z 8), .int (v 5), .int (v 6), .int (v 7)])), ((Z 1), .inl (cB, 16000, .inl gt)), ((Z 2), .inl (cI, 16002, .inl gf)), ((Z 3), .inl (cI, 16002, .inl go))] := hD
                              have hP : va_P D vwCl [(mo, .inr (5, [.ref (Z 0), .int (v 0), .int (v 1), .ref (Z 1), .int (nI len), .ref (Z 2), .ref (Z 3), .int (nI ((closeT (ts ++ [(b0, i)]) none (i + 1)).length)), .int (v 3), .int (v 4), .ref (Z 4), .ref (Z 5), .ref (Z 6), .ref (Z 7), .ref (Z 8), .int (v 5), .int (v 6), .int (v 7)])), ((Z 1), .inl (cB, 16000, .inl gt)), ((Z 2), .inl (cI, 16002, .inl gf)), ((Z 3), .inl (cI, 16002, .inl go))] H := by rw [cl_len]; simp only [len1, opn, Nat.add_zero]; exact hP
                              have hD : va_D A [(mo, .inr (5, [.ref (Z 0), .int (v 0), .int (v 1), .ref (Z 1), .int (nI len), .ref (Z 2), .ref (Z 3), .int (nI ((closeT (ts ++ [(b0, i)]) none (i + 1)).length)), .int (v 3), .int (v 4), .ref (Z 4), .ref (Z 5), .ref (Z 6), .ref (Z 7), .ref (Z 8), .int (v 5), .int (v 6), .int (v 7)])), ((Z 1), .inl (cB, 16000, .inl gt)), ((Z 2), .inl (cI, 16002, .inl gf)), ((Z 3), .inl (cI, 16002, .inl go))] := by rw [cl_len]; simp only [len1, opn, Nat.add_zero]; exact hD
                              exact ih (i + 1) (ts ++ [(b0, i)]) none rv gf go H locs (by omega) (by omega) (fun j hj => by rcases Nat.lt_or_ge j i with q9 | q9; exact hal j q9; rw [show j = i by omega]; exact h_al) (scan_b hsc hrv (Or.inr (by omega))) (by simp only [len1, opn]; omega) (hrw) hP hD hS ls (lv_sub hl [4, 1, 5, 0] rfl)
                          · exact absurd c_173 (by decide)
                        · exact absurd c_126 (by decide)
                      · have c_107 : ¬ ((BB i) = 13) := fun h9 => c_107 ((nI_eq (a := (BB i)) (b := 13) (by omega) (by omega)).mpr h9)
                        refine lv_iload hx hb dX5_cut_110 (lv_at hl 4 rfl) ?_
                        refine lv_bipush (v := nI 32) hx hb dX5_cut_112 (by decide) ?_
                        refine lv_icmp_ne (tgt := 121) hx hb dX5_cut_114 (by decide) (fun c_114 => ?_) (fun c_114 => ?_)
                        · have c_114 : ¬ ((BB i) = 32) := fun h9 => c_114 ((nI_eq (a := (BB i)) (b := 32) (by omega) (by omega)).mpr h9)
                          refine lv_iconst (v := nI 0) hx hb dX5_cut_121 (by decide) ?_
                          refine lv_istore (lv' := [(5, .int (nI 0)), (0, .ref mo), (1, .int (nI 1)), (2, .int (bI rv)), (3, .int (nI i)), (4, .int (nI (BB i)))]) hx hb dX5_cut_122 hl (by decide) rfl (fun ls hl => ?_)
                          refine lv_iload hx hb dX5_cut_124 (lv_at hl 0 rfl) ?_
                          refine lv_if_ne (tgt := 168) hx hb dX5_cut_126 (by decide) (fun c_126 => ?_) (fun c_126 => ?_)
                          · exact absurd (by decide) c_126
                          · clear c_126
                            refine lv_iload hx hb dX5_cut_129 (lv_at hl 5 rfl) ?_
                            refine lv_bipush (v := nI 40) hx hb dX5_cut_131 (by decide) ?_
                            refine lv_icmp_eq (tgt := 164) hx hb dX5_cut_133 (by decide) (fun c_133 => ?_) (fun c_133 => ?_)
                            · have c_133 : (BB i) = 40 := (nI_eq (a := (BB i)) (b := 40) (by omega) (by omega)).mp c_133
                              refine lv_iconst (v := nI 1) hx hb dX5_cut_164 (by decide) ?_
                              refine lv_goto (tgt := 169) hx hb dX5_cut_165 (by decide) ?_
                              refine lv_istore (lv' := [(6, .int (nI 1)), (5, .int (nI 0)), (0, .ref mo), (1, .int (nI 1)), (2, .int (bI rv)), (3, .int (nI i)), (4, .int (nI (BB i)))]) hx hb dX5_cut_169 hl (by decide) rfl (fun ls hl => ?_)
                              refine lv_iload hx hb dX5_cut_171 (lv_at hl 1 rfl) ?_
                              refine lv_if_ne (tgt := 181) hx hb dX5_cut_173 (by decide) (fun c_173 => ?_) (fun c_173 => ?_)
                              · exact absurd (by decide) c_173
                              · clear c_173
                                refine lv_iload hx hb dX5_cut_176 (lv_at hl 0 rfl) ?_
                                refine lv_if_eq (tgt := 183) hx hb dX5_cut_178 (by decide) (fun c_178 => ?_) (fun c_178 => ?_)
                                · exact absurd c_178 (by decide)
                                · clear c_178
                                  refine lv_iconst (v := nI 0) hx hb dX5_cut_181 (by decide) ?_
                                  refine lv_istore_n (lv' := [(1, .int (nI 0)), (6, .int (nI 1)), (5, .int (nI 0)), (0, .ref mo), (2, .int (bI rv)), (3, .int (nI i)), (4, .int (nI (BB i)))]) hx hb dX5_cut_182 rfl hl (by decide) rfl (fun ls hl => ?_)
                                  refine lv_iload hx hb dX5_cut_183 (lv_at hl 2 rfl) ?_
                                  refine lv_if_eq (tgt := 191) hx hb dX5_cut_185 (by decide) (fun c_185 => ?_) (fun c_185 => ?_)
                                  · clear c_185
                                    refine lv_iload_n hx hb dX5_cut_191 rfl (lv_at hl 0 rfl) ?_
                                    refine lv_if_ne (tgt := 215) hx hb dX5_cut_192 (by decide) (fun c_192 => ?_) (fun c_192 => ?_)
                                    · exact absurd (by decide) c_192
                                    · clear c_192
                                      refine lv_aload_n hx hb dX5_cut_195 rfl (lv_at hl 3 rfl) ?_
                                      refine va_get (D := D) (ci := 5) (v := .ref (Z 2)) (C := RX5) (T := TX5) (N := 18) hx hb hts (by decide +kernel) hown hK hP 0 rfl rfl 5 (by decide) (hts (.fieldLink RX5 16 "BodyTextModel" "tokenFrom" "[I") (by decide +kernel)) (fun _ h9 => h9) rfl dX5_cut_196 ?_
                                      refine lv_aload_n hx hb dX5_cut_199 rfl (lv_at hl 3 rfl) ?_
                                      refine va_get (D := D) (ci := 5) (v := .int (nI (ts.length + 1))) (C := RX5) (T := TX5) (N := 18) hx hb hts (by decide +kernel) hown hK hP 0 rfl rfl 7 (by decide) (hts (.fieldLink RX5 56 "BodyTextModel" "tokens" "I") (by decide +kernel)) (fun _ h9 => h9) rfl dX5_cut_200 ?_
                                      refine lv_iload_n hx hb dX5_cut_203 rfl (lv_at hl 5 rfl) ?_
                                      refine va_iast hx hb hK hP hD hS 2 1 rfl rfl (vp_in_nI (by omega) (by omega)) dX5_cut_204 (fun H locs hP hD hS => ?_)
                                      rw [nI_clamp (by omega)] at hP hD
                                      have hP : va_P D vwCl [(mo, .inr (5, [.ref (Z 0), .int (v 0), .int (v 1), .ref (Z 1), .int (nI len), .ref (Z 2), .ref (Z 3), .int (nI (ts.length + 1)), .int (v 3), .int (v 4), .ref (Z 4), .ref (Z 5), .ref (Z 6), .ref (Z 7), .ref (Z 8), .int (v 5), .int (v 6), .int (v 7)])), ((Z 1), .inl (cB, 16000, .inl gt)), ((Z 2), .inl (cI, 16002, .inl (upd gf (ts.length + 1) (nI i)))), ((Z 3), .inl (cI, 16002, .inl go))] H := hP
                                      have hD : va_D A [(mo, .inr (5, [.ref (Z 0), .int (v 0), .int (v 1), .ref (Z 1), .int (nI len), .ref (Z 2), .ref (Z 3), .int (nI (ts.length + 1)), .int (v 3), .int (v 4), .ref (Z 4), .ref (Z 5), .ref (Z 6), .ref (Z 7), .ref (Z 8), .int (v 5), .int (v 6), .int (v 7)])), ((Z 1), .inl (cB, 16000, .inl gt)), ((Z 2), .inl (cI, 16002, .inl (upd gf (ts.length + 1) (nI i)))), ((Z 3), .inl (cI, 16002, .inl go))] := hD
                                      refine lv_aload_n hx hb dX5_cut_205 rfl (lv_at hl 3 rfl) ?_
                                      refine lv_dup hx hb dX5_cut_206 rfl ?_
                                      refine va_get (D := D) (ci := 5) (v := .int (nI (ts.length + 1))) (C := RX5) (T := TX5) (N := 18) hx hb hts (by decide +kernel) hown hK hP 0 rfl rfl 7 (by decide) (hts (.fieldLink RX5 56 "BodyTextModel" "tokens" "I") (by decide +kernel)) (fun _ h9 => h9) rfl dX5_cut_207 ?_
                                      refine lv_iconst (v := nI 1) hx hb dX5_cut_210 (by decide) ?_
                                      refine lv_iadd hx hb dX5_cut_211 ?_
                                      refine bt_topi (y := nI ((ts.length + 1) + 1)) (nI_add _ _) ?_
                                      refine va_put (D := D) (ci := 5) (v := .int (nI ((ts.length + 1) + 1))) (ty := .int) (C := RX5) (T := TX5) (N := 18) hx hb hts (by decide +kernel) tyX5 tyX5_ok nmX5 hown hK hP hD hS 0 rfl rfl 7 (by decide) (hts (.fieldLink RX5 56 "BodyTextModel" "tokens" "I") (by decide +kernel)) (fun _ h9 => h9) rfl (by decide +kernel) rfl rfl (Nat.le_of_ble_eq_true rfl) dX5_cut_212 (fun H locs hP hD hS => ?_)
                                      have hP : va_P D vwCl [(mo, .inr (5, [.ref (Z 0), .int (v 0), .int (v 1), .ref (Z 1), .int (nI len), .ref (Z 2), .ref (Z 3), .int (nI ((ts.length + 1) + 1)), .int (v 3), .int (v 4), .ref (Z 4), .ref (Z 5), .ref (Z 6), .ref (Z 7), .ref (Z 8), .int (v 5), .int (v 6), .int (v 7)])), ((Z 1), .inl (cB, 16000, .inl gt)), ((Z 2), .inl (cI, 16002, .inl (upd gf (ts.length + 1) (nI i)))), ((Z 3), .inl (cI, 16002, .inl go))] H := hP
                                      have hD : va_D A [(mo, .inr (5, [.ref (Z 0), .int (v 0), .int (v 1), .ref (Z 1), .int (nI len), .ref (Z 2), .ref (Z 3), .int (nI ((ts.length + 1) + 1)), .int (v 3), .int (v 4), .ref (Z 4), .ref (Z 5), .ref (Z 6), .ref (Z 7), .ref (Z 8), .int (v 5), .int (v 6), .int (v 7)])), ((Z 1), .inl (cB, 16000, .inl gt)), ((Z 2), .inl (cI, 16002, .inl (upd gf (ts.length + 1) (nI i)))), ((Z 3), .inl (cI, 16002, .inl go))] := hD
                                      refine lv_aload_n hx hb dX5_cut_215 rfl (lv_at hl 3 rfl) ?_
                                      refine va_get (D := D) (ci := 5) (v := .ref (Z 3)) (C := RX5) (T := TX5) (N := 18) hx hb hts (by decide +kernel) hown hK hP 0 rfl rfl 6 (by decide) (hts (.fieldLink RX5 20 "BodyTextModel" "tokenTo" "[I") (by decide +kernel)) (fun _ h9 => h9) rfl dX5_cut_216 ?_
                                      refine lv_aload_n hx hb dX5_cut_219 rfl (lv_at hl 3 rfl) ?_
                                      refine va_get (D := D) (ci := 5) (v := .int (nI ((ts.length + 1) + 1))) (C := RX5) (T := TX5) (N := 18) hx hb hts (by decide +kernel) hown hK hP 0 rfl rfl 7 (by decide) (hts (.fieldLink RX5 56 "BodyTextModel" "tokens" "I") (by decide +kernel)) (fun _ h9 => h9) rfl dX5_cut_220 ?_
                                      refine lv_iconst (v := nI 1) hx hb dX5_cut_223 (by decide) ?_
                                      refine lv_isub hx hb dX5_cut_224 ?_
                                      refine bt_topi (y := nI (((ts.length + 1) + 1) - 1)) (pk_sub (by omega)) ?_
                                      refine lv_iload_n hx hb dX5_cut_225 rfl (lv_at hl 5 rfl) ?_
                                      refine lv_iconst (v := nI 1) hx hb dX5_cut_226 (by decide) ?_
                                      refine lv_iadd hx hb dX5_cut_227 ?_
                                      refine bt_topi (y := nI (i + 1)) (nI_add _ _) ?_
                                      refine va_iast hx hb hK hP hD hS 3 1 rfl rfl (vp_in_nI (by omega) (by omega)) dX5_cut_228 (fun H locs hP hD hS => ?_)
                                      rw [nI_clamp (by omega)] at hP hD
                                      have hP : va_P D vwCl [(mo, .inr (5, [.ref (Z 0), .int (v 0), .int (v 1), .ref (Z 1), .int (nI len), .ref (Z 2), .ref (Z 3), .int (nI ((ts.length + 1) + 1)), .int (v 3), .int (v 4), .ref (Z 4), .ref (Z 5), .ref (Z 6), .ref (Z 7), .ref (Z 8), .int (v 5), .int (v 6), .int (v 7)])), ((Z 1), .inl (cB, 16000, .inl gt)), ((Z 2), .inl (cI, 16002, .inl (upd gf (ts.length + 1) (nI i)))), ((Z 3), .inl (cI, 16002, .inl (upd go (((ts.length + 1) + 1) - 1) (nI (i + 1)))))] H := hP
                                      have hD : va_D A [(mo, .inr (5, [.ref (Z 0), .int (v 0), .int (v 1), .ref (Z 1), .int (nI len), .ref (Z 2), .ref (Z 3), .int (nI ((ts.length + 1) + 1)), .int (v 3), .int (v 4), .ref (Z 4), .ref (Z 5), .ref (Z 6), .ref (Z 7), .ref (Z 8), .int (v 5), .int (v 6), .int (v 7)])), ((Z 1), .inl (cB, 16000, .inl gt)), ((Z 2), .inl (cI, 16002, .inl (upd gf (ts.length + 1) (nI i)))), ((Z 3), .inl (cI, 16002, .inl (upd go (((ts.length + 1) + 1) - 1) (nI (i + 1)))))] := hD
                                      refine lv_iload hx hb dX5_cut_229 (lv_at hl 1 rfl) ?_
                                      refine lv_if_ne (tgt := 238) hx hb dX5_cut_231 (by decide) (fun c_231 => ?_) (fun c_231 => ?_)
                                      · clear c_231
                                        refine lv_iconst (v := nI 0) hx hb dX5_cut_238 (by decide) ?_
                                        refine lv_istore_n (lv' := [(1, .int (nI 0)), (6, .int (nI 1)), (5, .int (nI 0)), (0, .ref mo), (2, .int (bI rv)), (3, .int (nI i)), (4, .int (nI (BB i)))]) hx hb dX5_cut_239 rfl hl (by decide) rfl (fun ls hl => ?_)
                                        refine lv_iinc (v := nI (i + 1)) (lv' := [(3, .int (nI (i + 1))), (1, .int (nI 0)), (6, .int (nI 1)), (5, .int (nI 0)), (0, .ref mo), (2, .int (bI rv)), (4, .int (nI (BB i)))]) hx hb dX5_cut_240 hl (k := 5) rfl (nI_add i 1) (by decide) rfl (fun ls hl => ?_)
                                        refine lv_goto (tgt := 11) hx hb dX5_cut_243 (by decide) ?_
                                        have hP := hP.sub (ws' := [(mo, .inr (5, [.ref (Z 0), .int (v 0), .int (v 1), .ref (Z 1), .int (nI len), .ref (Z 2), .ref (Z 3), .int (nI ((ts.length + 1) + 1)), .int (v 3), .int (v 4), .ref (Z 4), .ref (Z 5), .ref (Z 6), .ref (Z 7), .ref (Z 8), .int (v 5), .int (v 6), .int (v 7)])), ((Z 1), .inl (cB, 16000, .inl gt)), ((Z 2), .inl (cI, 16002, .inl (upd gf (ts.length + 1) (nI i)))), ((Z 3), .inl (cI, 16002, .inl (upd go (((ts.length + 1) + 1) - 1) (nI (i + 1)))))]) [0, 1, 2, 3] rfl
                                        have hD := hD.sub (ws' := [(mo, .inr (5, [.ref (Z 0), .int (v 0), .int (v 1), .ref (Z 1), .int (nI len), .ref (Z 2), .ref (Z 3), .int (nI ((ts.length + 1) + 1)), .int (v 3), .int (v 4), .ref (Z 4), .ref (Z 5), .ref (Z 6), .ref (Z 7), .ref (Z 8), .int (v 5), .int (v 6), .int (v 7)])), ((Z 1), .inl (cB, 16000, .inl gt)), ((Z 2), .inl (cI, 16002, .inl (upd gf (ts.length + 1) (nI i)))), ((Z 3), .inl (cI, 16002, .inl (upd go (((ts.length + 1) + 1) - 1) (nI (i + 1)))))]) [0, 1, 2, 3] (by decide) rfl
                                        have hP : va_P D vwCl [(mo, .inr (5, [.ref (Z 0), .int (v 0), .int (v 1), .ref (Z 1), .int (nI len), .ref (Z 2), .ref (Z 3), .int (nI ((ts.length + 1) + 1)), .int (v 3), .int (v 4), .ref (Z 4), .ref (Z 5), .ref (Z 6), .ref (Z 7), .ref (Z 8), .int (v 5), .int (v 6), .int (v 7)])), ((Z 1), .inl (cB, 16000, .inl gt)), ((Z 2), .inl (cI, 16002, .inl (upd gf (ts.length + 1) (nI i)))), ((Z 3), .inl (cI, 16002, .inl (upd go (ts.length + 1) (nI (i + 1)))))] H := hP
                                        have hD : va_D A [(mo, .inr (5, [.ref (Z 0), .int (v 0), .int (v 1), .ref (Z 1), .int (nI len), .ref (Z 2), .ref (Z 3), .int (nI ((ts.length + 1) + 1)), .int (v 3), .int (v 4), .ref (Z 4), .ref (Z 5), .ref (Z 6), .ref (Z 7), .ref (Z 8), .int (v 5), .int (v 6), .int (v 7)])), ((Z 1), .inl (cB, 16000, .inl gt)), ((Z 2), .inl (cI, 16002, .inl (upd gf (ts.length + 1) (nI i)))), ((Z 3), .inl (cI, 16002, .inl (upd go (ts.length + 1) (nI (i + 1)))))] := hD
                                        have hP : va_P D vwCl [(mo, .inr (5, [.ref (Z 0), .int (v 0), .int (v 1), .ref (Z 1), .int (nI len), .ref (Z 2), .ref (Z 3), .int (nI ((closeT ((ts ++ [(b0, i)]) ++ [(i, i + 1)]) none (i + 1)).length)), .int (v 3), .int (v 4), .ref (Z 4), .ref (Z 5), .ref (Z 6), .ref (Z 7), .ref (Z 8), .int (v 5), .int (v 6), .int (v 7)])), ((Z 1), .inl (cB, 16000, .inl gt)), ((Z 2), .inl (cI, 16002, .inl (upd gf (ts.length + 1) (nI i)))), ((Z 3), .inl (cI, 16002, .inl (upd go (ts.length + 1) (nI (i + 1)))))] H := by rw [cl_len]; simp only [len1, opn, Nat.add_zero]; exact hP
                                        have hD : va_D A [(mo, .inr (5, [.ref (Z 0), .int (v 0), .int (v 1), .ref (Z 1), .int (nI len), .ref (Z 2), .ref (Z 3), .int (nI ((closeT ((ts ++ [(b0, i)]) ++ [(i, i + 1)]) none (i + 1)).length)), .int (v 3), .int (v 4), .ref (Z 4), .ref (Z 5), .ref (Z 6), .ref (Z 7), .ref (Z 8), .int (v 5), .int (v 6), .int (v 7)])), ((Z 1), .inl (cB, 16000, .inl gt)), ((Z 2), .inl (cI, 16002, .inl (upd gf (ts.length + 1) (nI i)))), ((Z 3), .inl (cI, 16002, .inl (upd go (ts.length + 1) (nI (i + 1)))))] := by rw [cl_len]; simp only [len1, opn, Nat.add_zero]; exact hD
                                        exact ih (i + 1) ((ts ++ [(b0, i)]) ++ [(i, i + 1)]) none rv (upd gf (ts.length + 1) (nI i)) (upd go (ts.length + 1) (nI (i + 1))) H locs (by omega) (by omega) (fun j hj => by rcases Nat.lt_or_ge j i with q9 | q9; exact hal j q9; rw [show j = i by omega]; exact h_al) (scan_g hsc hrv (fun q => q.elim (fun q => by rw [bI_0 c_86] at q; cases q) (fun q => by unfold alP at h_al; omega)) (by rw [c_133]; decide)) (by simp only [len1, opn]; omega) ((by have h9 := rwR_add (x := i) (y := i + 1) hrw; rw [len1] at h9; exact h9)) hP hD hS ls (lv_sub hl [4, 1, 5, 0] rfl)
                                      · exact absurd c_231 (by decide)
                                  · exact absurd (by decide) c_185
                            · have c_133 : ¬ ((BB i) = 40) := fun h9 => c_133 ((nI_eq (a := (BB i)) (b := 40) (by omega) (by omega)).mpr h9)
                              refine lv_iload hx hb dX5_cut_136 (lv_at hl 5 rfl) ?_
                              refine lv_bipush (v := nI 41) hx hb dX5_cut_138 (by decide) ?_
                              refine lv_icmp_eq (tgt := 164) hx hb dX5_cut_140 (by decide) (fun c_140 => ?_) (fun c_140 => ?_)
                              · have c_140 : (BB i) = 41 := (nI_eq (a := (BB i)) (b := 41) (by omega) (by omega)).mp c_140
                                refine lv_iconst (v := nI 1) hx hb dX5_cut_164 (by decide) ?_
                                refine lv_goto (tgt := 169) hx hb dX5_cut_165 (by decide) ?_
                                refine lv_istore (lv' := [(6, .int (nI 1)), (5, .int (nI 0)), (0, .ref mo), (1, .int (nI 1)), (2, .int (bI rv)), (3, .int (nI i)), (4, .int (nI (BB i)))]) hx hb dX5_cut_169 hl (by decide) rfl (fun ls hl => ?_)
                                refine lv_iload hx hb dX5_cut_171 (lv_at hl 1 rfl) ?_
                                refine lv_if_ne (tgt := 181) hx hb dX5_cut_173 (by decide) (fun c_173 => ?_) (fun c_173 => ?_)
                                · exact absurd (by decide) c_173
                                · clear c_173
                                  refine lv_iload hx hb dX5_cut_176 (lv_at hl 0 rfl) ?_
                                  refine lv_if_eq (tgt := 183) hx hb dX5_cut_178 (by decide) (fun c_178 => ?_) (fun c_178 => ?_)
                                  · exact absurd c_178 (by decide)
                                  · clear c_178
                                    refine lv_iconst (v := nI 0) hx hb dX5_cut_181 (by decide) ?_
                                    refine lv_istore_n (lv' := [(1, .int (nI 0)), (6, .int (nI 1)), (5, .int (nI 0)), (0, .ref mo), (2, .int (bI rv)), (3, .int (nI i)), (4, .int (nI (BB i)))]) hx hb dX5_cut_182 rfl hl (by decide) rfl (fun ls hl => ?_)
                                    refine lv_iload hx hb dX5_cut_183 (lv_at hl 2 rfl) ?_
                                    refine lv_if_eq (tgt := 191) hx hb dX5_cut_185 (by decide) (fun c_185 => ?_) (fun c_185 => ?_)
                                    · clear c_185
                                      refine lv_iload_n hx hb dX5_cut_191 rfl (lv_at hl 0 rfl) ?_
                                      refine lv_if_ne (tgt := 215) hx hb dX5_cut_192 (by decide) (fun c_192 => ?_) (fun c_192 => ?_)
                                      · exact absurd (by decide) c_192
                                      · clear c_192
                                        refine lv_aload_n hx hb dX5_cut_195 rfl (lv_at hl 3 rfl) ?_
                                        refine va_get (D := D) (ci := 5) (v := .ref (Z 2)) (C := RX5) (T := TX5) (N := 18) hx hb hts (by decide +kernel) hown hK hP 0 rfl rfl 5 (by decide) (hts (.fieldLink RX5 16 "BodyTextModel" "tokenFrom" "[I") (by decide +kernel)) (fun _ h9 => h9) rfl dX5_cut_196 ?_
                                        refine lv_aload_n hx hb dX5_cut_199 rfl (lv_at hl 3 rfl) ?_
                                        refine va_get (D := D) (ci := 5) (v := .int (nI (ts.length + 1))) (C := RX5) (T := TX5) (N := 18) hx hb hts (by decide +kernel) hown hK hP 0 rfl rfl 7 (by decide) (hts (.fieldLink RX5 56 "BodyTextModel" "tokens" "I") (by decide +kernel)) (fun _ h9 => h9) rfl dX5_cut_200 ?_
                                        refine lv_iload_n hx hb dX5_cut_203 rfl (lv_at hl 5 rfl) ?_
                                        refine va_iast hx hb hK hP hD hS 2 1 rfl rfl (vp_in_nI (by omega) (by omega)) dX5_cut_204 (fun H locs hP hD hS => ?_)
                                        rw [nI_clamp (by omega)] at hP hD
                                        have hP : va_P D vwCl [(mo, .inr (5, [.ref (Z 0), .int (v 0), .int (v 1), .ref (Z 1), .int (nI len), .ref (Z 2), .ref (Z 3), .int (nI (ts.length + 1)), .int (v 3), .int (v 4), .ref (Z 4), .ref (Z 5), .ref (Z 6), .ref (Z 7), .ref (Z 8), .int (v 5), .int (v 6), .int (v 7)])), ((Z 1), .inl (cB, 16000, .inl gt)), ((Z 2), .inl (cI, 16002, .inl (upd gf (ts.length + 1) (nI i)))), ((Z 3), .inl (cI, 16002, .inl go))] H := hP
                                        have hD : va_D A [(mo, .inr (5, [.ref (Z 0), .int (v 0), .int (v 1), .ref (Z 1), .int (nI len), .ref (Z 2), .ref (Z 3), .int (nI (ts.length + 1)), .int (v 3), .int (v 4), .ref (Z 4), .ref (Z 5), .ref (Z 6), .ref (Z 7), .ref (Z 8), .int (v 5), .int (v 6), .int (v 7)])), ((Z 1), .inl (cB, 16000, .inl gt)), ((Z 2), .inl (cI, 16002, .inl (upd gf (ts.length + 1) (nI i)))), ((Z 3), .inl (cI, 16002, .inl go))] := hD
                                        refine lv_aload_n hx hb dX5_cut_205 rfl (lv_at hl 3 rfl) ?_
                                        refine lv_dup hx hb dX5_cut_206 rfl ?_
                                        refine va_get (D := D) (ci := 5) (v := .int (nI (ts.length + 1))) (C := RX5) (T := TX5) (N := 18) hx hb hts (by decide +kernel) hown hK hP 0 rfl rfl 7 (by decide) (hts (.fieldLink RX5 56 "BodyTextModel" "tokens" "I") (by decide +kernel)) (fun _ h9 => h9) rfl dX5_cut_207 ?_
                                        refine lv_iconst (v := nI 1) hx hb dX5_cut_210 (by decide) ?_
                                        refine lv_iadd hx hb dX5_cut_211 ?_
                                        refine bt_topi (y := nI ((ts.length + 1) + 1)) (nI_add _ _) ?_
                                        refine va_put (D := D) (ci := 5) (v := .int (nI ((ts.length + 1) + 1))) (ty := .int) (C := RX5) (T := TX5) (N := 18) hx hb hts (by decide +kernel) tyX5 tyX5_ok nmX5 hown hK hP hD hS 0 rfl rfl 7 (by decide) (hts (.fieldLink RX5 56 "BodyTextModel" "tokens" "I") (by decide +kernel)) (fun _ h9 => h9) rfl (by decide +kernel) rfl rfl (Nat.le_of_ble_eq_true rfl) dX5_cut_212 (fun H locs hP hD hS => ?_)
                                        have hP : va_P D vwCl [(mo, .inr (5, [.ref (Z 0), .int (v 0), .int (v 1), .ref (Z 1), .int (nI len), .ref (Z 2), .ref (Z 3), .int (nI ((ts.length + 1) + 1)), .int (v 3), .int (v 4), .ref (Z 4), .ref (Z 5), .ref (Z 6), .ref (Z 7), .ref (Z 8), .int (v 5), .int (v 6), .int (v 7)])), ((Z 1), .inl (cB, 16000, .inl gt)), ((Z 2), .inl (cI, 16002, .inl (upd gf (ts.length + 1) (nI i)))), ((Z 3), .inl (cI, 16002, .inl go))] H := hP
                                        have hD : va_D A [(mo, .inr (5, [.ref (Z 0), .int (v 0), .int (v 1), .ref (Z 1), .int (nI len), .ref (Z 2), .ref (Z 3), .int (nI ((ts.length + 1) + 1)), .int (v 3), .int (v 4), .ref (Z 4), .ref (Z 5), .ref (Z 6), .ref (Z 7), .ref (Z 8), .int (v 5), .int (v 6), .int (v 7)])), ((Z 1), .inl (cB, 16000, .inl gt)), ((Z 2), .inl (cI, 16002, .inl (upd gf (ts.length + 1) (nI i)))), ((Z 3), .inl (cI, 16002, .inl go))] := hD
                                        refine lv_aload_n hx hb dX5_cut_215 rfl (lv_at hl 3 rfl) ?_
                                        refine va_get (D := D) (ci := 5) (v := .ref (Z 3)) (C := RX5) (T := TX5) (N := 18) hx hb hts (by decide +kernel) hown hK hP 0 rfl rfl 6 (by decide) (hts (.fieldLink RX5 20 "BodyTextModel" "tokenTo" "[I") (by decide +kernel)) (fun _ h9 => h9) rfl dX5_cut_216 ?_
                                        refine lv_aload_n hx hb dX5_cut_219 rfl (lv_at hl 3 rfl) ?_
                                        refine va_get (D := D) (ci := 5) (v := .int (nI ((ts.length + 1) + 1))) (C := RX5) (T := TX5) (N := 18) hx hb hts (by decide +kernel) hown hK hP 0 rfl rfl 7 (by decide) (hts (.fieldLink RX5 56 "BodyTextModel" "tokens" "I") (by decide +kernel)) (fun _ h9 => h9) rfl dX5_cut_220 ?_
                                        refine lv_iconst (v := nI 1) hx hb dX5_cut_223 (by decide) ?_
                                        refine lv_isub hx hb dX5_cut_224 ?_
                                        refine bt_topi (y := nI (((ts.length + 1) + 1) - 1)) (pk_sub (by omega)) ?_
                                        refine lv_iload_n hx hb dX5_cut_225 rfl (lv_at hl 5 rfl) ?_
                                        refine lv_iconst (v := nI 1) hx hb dX5_cut_226 (by decide) ?_
                                        refine lv_iadd hx hb dX5_cut_227 ?_
                                        refine bt_topi (y := nI (i + 1)) (nI_add _ _) ?_
                                        refine va_iast hx hb hK hP hD hS 3 1 rfl rfl (vp_in_nI (by omega) (by omega)) dX5_cut_228 (fun H locs hP hD hS => ?_)
                                        rw [nI_clamp (by omega)] at hP hD
                                        have hP : va_P D vwCl [(mo, .inr (5, [.ref (Z 0), .int (v 0), .int (v 1), .ref (Z 1), .int (nI len), .ref (Z 2), .ref (Z 3), .int (nI ((ts.length + 1) + 1)), .int (v 3), .int (v 4), .ref (Z 4), .ref (Z 5), .ref (Z 6), .ref (Z 7), .ref (Z 8), .int (v 5), .int (v 6), .int (v 7)])), ((Z 1), .inl (cB, 16000, .inl gt)), ((Z 2), .inl (cI, 16002, .inl (upd gf (ts.length + 1) (nI i)))), ((Z 3), .inl (cI, 16002, .inl (upd go (((ts.length + 1) + 1) - 1) (nI (i + 1)))))] H := hP
                                        have hD : va_D A [(mo, .inr (5, [.ref (Z 0), .int (v 0), .int (v 1), .ref (Z 1), .int (nI len), .ref (Z 2), .ref (Z 3), .int (nI ((ts.length + 1) + 1)), .int (v 3), .int (v 4), .ref (Z 4), .ref (Z 5), .ref (Z 6), .ref (Z 7), .ref (Z 8), .int (v 5), .int (v 6), .int (v 7)])), ((Z 1), .inl (cB, 16000, .inl gt)), ((Z 2), .inl (cI, 16002, .inl (upd gf (ts.length + 1) (nI i)))), ((Z 3), .inl (cI, 16002, .inl (upd go (((ts.length + 1) + 1) - 1) (nI (i + 1)))))] := hD
                                        refine lv_iload hx hb dX5_cut_229 (lv_at hl 1 rfl) ?_
                                        refine lv_if_ne (tgt := 238) hx hb dX5_cut_231 (by decide) (fun c_231 => ?_) (fun c_231 => ?_)
                                        · clear c_231
                                          refine lv_iconst (v := nI 0) hx hb dX5_cut_238 (by decide) ?_
                                          refine lv_istore_n (lv' := [(1, .int (nI 0)), (6, .int (nI 1)), (5, .int (nI 0)), (0, .ref mo), (2, .int (bI rv)), (3, .int (nI i)), (4, .int (nI (BB i)))]) hx hb dX5_cut_239 rfl hl (by decide) rfl (fun ls hl => ?_)
                                          refine lv_iinc (v := nI (i + 1)) (lv' := [(3, .int (nI (i + 1))), (1, .int (nI 0)), (6, .int (nI 1)), (5, .int (nI 0)), (0, .ref mo), (2, .int (bI rv)), (4, .int (nI (BB i)))]) hx hb dX5_cut_240 hl (k := 5) rfl (nI_add i 1) (by decide) rfl (fun ls hl => ?_)
                                          refine lv_goto (tgt := 11) hx hb dX5_cut_243 (by decide) ?_
                                          have hP := hP.sub (ws' := [(mo, .inr (5, [.ref (Z 0), .int (v 0), .int (v 1), .ref (Z 1), .int (nI len), .ref (Z 2), .ref (Z 3), .int (nI ((ts.length + 1) + 1)), .int (v 3), .int (v 4), .ref (Z 4), .ref (Z 5), .ref (Z 6), .ref (Z 7), .ref (Z 8), .int (v 5), .int (v 6), .int (v 7)])), ((Z 1), .inl (cB, 16000, .inl gt)), ((Z 2), .inl (cI, 16002, .inl (upd gf (ts.length + 1) (nI i)))), ((Z 3), .inl (cI, 16002, .inl (upd go (((ts.length + 1) + 1) - 1) (nI (i + 1)))))]) [0, 1, 2, 3] rfl
                                          have hD := hD.sub (ws' := [(mo, .inr (5, [.ref (Z 0), .int (v 0), .int (v 1), .ref (Z 1), .int (nI len), .ref (Z 2), .ref (Z 3), .int (nI ((ts.length + 1) + 1)), .int (v 3), .int (v 4), .ref (Z 4), .ref (Z 5), .ref (Z 6), .ref (Z 7), .ref (Z 8), .int (v 5), .int (v 6), .int (v 7)])), ((Z 1), .inl (cB, 16000, .inl gt)), ((Z 2), .inl (cI, 16002, .inl (upd gf (ts.length + 1) (nI i)))), ((Z 3), .inl (cI, 16002, .inl (upd go (((ts.length + 1) + 1) - 1) (nI (i + 1)))))]) [0, 1, 2, 3] (by decide) rfl
                                          have hP : va_P D vwCl [(mo, .inr (5, [.ref (Z 0), .int (v 0), .int (v 1), .ref (Z 1), .int (nI len), .ref (Z 2), .ref (Z 3), .int (nI ((ts.length + 1) + 1)), .int (v 3), .int (v 4), .ref (Z 4), .ref (Z 5), .ref (Z 6), .ref (Z 7), .ref (Z 8), .int (v 5), .int (v 6), .int (v 7)])), ((Z 1), .inl (cB, 16000, .inl gt)), ((Z 2), .inl (cI, 16002, .inl (upd gf (ts.length + 1) (nI i)))), ((Z 3), .inl (cI, 16002, .inl (upd go (ts.length + 1) (nI (i + 1)))))] H := hP
                                          have hD : va_D A [(mo, .inr (5, [.ref (Z 0), .int (v 0), .int (v 1), .ref (Z 1), .int (nI len), .ref (Z 2), .ref (Z 3), .int (nI ((ts.length + 1) + 1)), .int (v 3), .int (v 4), .ref (Z 4), .ref (Z 5), .ref (Z 6), .ref (Z 7), .ref (Z 8), .int (v 5), .int (v 6), .int (v 7)])), ((Z 1), .inl (cB, 16000, .inl gt)), ((Z 2), .inl (cI, 16002, .inl (upd gf (ts.length + 1) (nI i)))), ((Z 3), .inl (cI, 16002, .inl (upd go (ts.length + 1) (nI (i + 1)))))] := hD
                                          have hP : va_P D vwCl [(mo, .inr (5, [.ref (Z 0), .int (v 0), .int (v 1), .ref (Z 1), .int (nI len), .ref (Z 2), .ref (Z 3), .int (nI ((closeT ((ts ++ [(b0, i)]) ++ [(i, i + 1)]) none (i + 1)).length)), .int (v 3), .int (v 4), .ref (Z 4), .ref (Z 5), .ref (Z 6), .ref (Z 7), .ref (Z 8), .int (v 5), .int (v 6), .int (v 7)])), ((Z 1), .inl (cB, 16000, .inl gt)), ((Z 2), .inl (cI, 16002, .inl (upd gf (ts.length + 1) (nI i)))), ((Z 3), .inl (cI, 16002, .inl (upd go (ts.length + 1) (nI (i + 1)))))] H := by rw [cl_len]; simp only [len1, opn, Nat.add_zero]; exact hP
                                          have hD : va_D A [(mo, .inr (5, [.ref (Z 0), .int (v 0), .int (v 1), .ref (Z 1), .int (nI len), .ref (Z 2), .ref (Z 3), .int (nI ((closeT ((ts ++ [(b0, i)]) ++ [(i, i + 1)]) none (i + 1)).length)), .int (v 3), .int (v 4), .ref (Z 4), .ref (Z 5), .ref (Z 6), .ref (Z 7), .ref (Z 8), .int (v 5), .int (v 6), .int (v 7)])), ((Z 1), .inl (cB, 16000, .inl gt)), ((Z 2), .inl (cI, 16002, .inl (upd gf (ts.length + 1) (nI i)))), ((Z 3), .inl (cI, 16002, .inl (upd go (ts.length + 1) (nI (i + 1)))))] := by rw [cl_len]; simp only [len1, opn, Nat.add_zero]; exact hD
                                          exact ih (i + 1) ((ts ++ [(b0, i)]) ++ [(i, i + 1)]) none rv (upd gf (ts.length + 1) (nI i)) (upd go (ts.length + 1) (nI (i + 1))) H locs (by omega) (by omega) (fun j hj => by rcases Nat.lt_or_ge j i with q9 | q9; exact hal j q9; rw [show j = i by omega]; exact h_al) (scan_g hsc hrv (fun q => q.elim (fun q => by rw [bI_0 c_86] at q; cases q) (fun q => by unfold alP at h_al; omega)) (by rw [c_140]; decide)) (by simp only [len1, opn]; omega) ((by have h9 := rwR_add (x := i) (y := i + 1) hrw; rw [len1] at h9; exact h9)) hP hD hS ls (lv_sub hl [4, 1, 5, 0] rfl)
                                        · exact absurd c_231 (by decide)
                                    · exact absurd (by decide) c_185
                              · have c_140 : ¬ ((BB i) = 41) := fun h9 => c_140 ((nI_eq (a := (BB i)) (b := 41) (by omega) (by omega)).mpr h9)
                                refine lv_iload hx hb dX5_cut_143 (lv_at hl 5 rfl) ?_
                                refine lv_bipush (v := nI 123) hx hb dX5_cut_145 (by decide) ?_
                                refine lv_icmp_eq (tgt := 164) hx hb dX5_cut_147 (by decide) (fun c_147 => ?_) (fun c_147 => ?_)
                                · have c_147 : (BB i) = 123 := (nI_eq (a := (BB i)) (b := 123) (by omega) (by omega)).mp c_147
                                  refine lv_iconst (v := nI 1) hx hb dX5_cut_164 (by decide) ?_
                                  refine lv_goto (tgt := 169) hx hb dX5_cut_165 (by decide) ?_
                                  refine lv_istore (lv' := [(6, .int (nI 1)), (5, .int (nI 0)), (0, .ref mo), (1, .int (nI 1)), (2, .int (bI rv)), (3, .int (nI i)), (4, .int (nI (BB i)))]) hx hb dX5_cut_169 hl (by decide) rfl (fun ls hl => ?_)
                                  refine lv_iload hx hb dX5_cut_171 (lv_at hl 1 rfl) ?_
                                  refine lv_if_ne (tgt := 181) hx hb dX5_cut_173 (by decide) (fun c_173 => ?_) (fun c_173 => ?_)
                                  · exact absurd (by decide) c_173
                                  · clear c_173
                                    refine lv_iload hx hb dX5_cut_176 (lv_at hl 0 rfl) ?_
                                    refine lv_if_eq (tgt := 183) hx hb dX5_cut_178 (by decide) (fun c_178 => ?_) (fun c_178 => ?_)
                                    · exact absurd c_178 (by decide)
                                    · clear c_178
                                      refine lv_iconst (v := nI 0) hx hb dX5_cut_181 (by decide) ?_
                                      refine lv_istore_n (lv' := [(1, .int (nI 0)), (6, .int (nI 1)), (5, .int (nI 0)), (0, .ref mo), (2, .int (bI rv)), (3, .int (nI i)), (4, .int (nI (BB i)))]) hx hb dX5_cut_182 rfl hl (by decide) rfl (fun ls hl => ?_)
                                      refine lv_iload hx hb dX5_cut_183 (lv_at hl 2 rfl) ?_
                                      refine lv_if_eq (tgt := 191) hx hb dX5_cut_185 (by decide) (fun c_185 => ?_) (fun c_185 => ?_)
                                      · clear c_185
                                        refine lv_iload_n hx hb dX5_cut_191 rfl (lv_at hl 0 rfl) ?_
                                        refine lv_if_ne (tgt := 215) hx hb dX5_cut_192 (by decide) (fun c_192 => ?_) (fun c_192 => ?_)
                                        · exact absurd (by decide) c_192
                                        · clear c_192
                                          refine lv_aload_n hx hb dX5_cut_195 rfl (lv_at hl 3 rfl) ?_
                                          refine va_get (D := D) (ci := 5) (v := .ref (Z 2)) (C := RX5) (T := TX5) (N := 18) hx hb hts (by decide +kernel) hown hK hP 0 rfl rfl 5 (by decide) (hts (.fieldLink RX5 16 "BodyTextModel" "tokenFrom" "[I") (by decide +kernel)) (fun _ h9 => h9) rfl dX5_cut_196 ?_
                                          refine lv_aload_n hx hb dX5_cut_199 rfl (lv_at hl 3 rfl) ?_
                                          refine va_get (D := D) (ci := 5) (v := .int (nI (ts.length + 1))) (C := RX5) (T := TX5) (N := 18) hx hb hts (by decide +kernel) hown hK hP 0 rfl rfl 7 (by decide) (hts (.fieldLink RX5 56 "BodyTextModel" "tokens" "I") (by decide +kernel)) (fun _ h9 => h9) rfl dX5_cut_200 ?_
                                          refine lv_iload_n hx hb dX5_cut_203 rfl (lv_at hl 5 rfl) ?_
                                          refine va_iast hx hb hK hP hD hS 2 1 rfl rfl (vp_in_nI (by omega) (by omega)) dX5_cut_204 (fun H locs hP hD hS => ?_)
                                          rw [nI_clamp (by omega)] at hP hD
                                          have hP : va_P D vwCl [(mo, .inr (5, [.ref (Z 0), .int (v 0), .int (v 1), .ref (Z 1), .int (nI len), .ref (Z 2), .ref (Z 3), .int (nI (ts.length + 1)), .int (v 3), .int (v 4), .ref (Z 4), .ref (Z 5), .ref (Z 6), .ref (Z 7), .ref (Z 8), .int (v 5), .int (v 6), .int (v 7)])), ((Z 1), .inl (cB, 16000, .inl gt)), ((Z 2), .inl (cI, 16002, .inl (upd gf (ts.length + 1) (nI i)))), ((Z 3), .inl (cI, 16002, .inl go))] H := hP
                                          have hD : va_D A [(mo, .inr (5, [.ref (Z 0), .int (v 0), .int (v 1), .ref (Z 1), .int (nI len), .ref (Z 2), .ref (Z 3), .int (nI (ts.length + 1)), .int (v 3), .int (v 4), .ref (Z 4), .ref (Z 5), .ref (Z 6), .ref (Z 7), .ref (Z 8), .int (v 5), .int (v 6), .int (v 7)])), ((Z 1), .inl (cB, 16000, .inl gt)), ((Z 2), .inl (cI, 16002, .inl (upd gf (ts.length + 1) (nI i)))), ((Z 3), .inl (cI, 16002, .inl go))] := hD
                                          refine lv_aload_n hx hb dX5_cut_205 rfl (lv_at hl 3 rfl) ?_
                                          refine lv_dup hx hb dX5_cut_206 rfl ?_
                                          refine va_get (D := D) (ci := 5) (v := .int (nI (ts.length + 1))) (C := RX5) (T := TX5) (N := 18) hx hb hts (by decide +kernel) hown hK hP 0 rfl rfl 7 (by decide) (hts (.fieldLink RX5 56 "BodyTextModel" "tokens" "I") (by decide +kernel)) (fun _ h9 => h9) rfl dX5_cut_207 ?_
                                          refine lv_iconst (v := nI 1) hx hb dX5_cut_210 (by decide) ?_
                                          refine lv_iadd hx hb dX5_cut_211 ?_
                                          refine bt_topi (y := nI ((ts.length + 1) + 1)) (nI_add _ _) ?_
                                          refine va_put (D := D) (ci := 5) (v := .int (nI ((ts.length + 1) + 1))) (ty := .int) (C := RX5) (T := TX5) (N := 18) hx hb hts (by decide +kernel) tyX5 tyX5_ok nmX5 hown hK hP hD hS 0 rfl rfl 7 (by decide) (hts (.fieldLink RX5 56 "BodyTextModel" "tokens" "I") (by decide +kernel)) (fun _ h9 => h9) rfl (by decide +kernel) rfl rfl (Nat.le_of_ble_eq_true rfl) dX5_cut_212 (fun H locs hP hD hS => ?_)
                                          have hP : va_P D vwCl [(mo, .inr (5, [.ref (Z 0), .int (v 0), .int (v 1), .ref (Z 1), .int (nI len), .ref (Z 2), .ref (Z 3), .int (nI ((ts.length + 1) + 1)), .int (v 3), .int (v 4), .ref (Z 4), .ref (Z 5), .ref (Z 6), .ref (Z 7), .ref (Z 8), .int (v 5), .int (v 6), .int (v 7)])), ((Z 1), .inl (cB, 16000, .inl gt)), ((Z 2), .inl (cI, 16002, .inl (upd gf (ts.length + 1) (nI i)))), ((Z 3), .inl (cI, 16002, .inl go))] H := hP
                                          have hD : va_D A [(mo, .inr (5, [.ref (Z 0), .int (v 0), .int (v 1), .ref (Z 1), .int (nI len), .ref (Z 2), .ref (Z 3), .int (nI ((ts.length + 1) + 1)), .int (v 3), .int (v 4), .ref (Z 4), .ref (Z 5), .ref (Z 6), .ref (Z 7), .ref (Z 8), .int (v 5), .int (v 6), .int (v 7)])), ((Z 1), .inl (cB, 16000, .inl gt)), ((Z 2), .inl (cI, 16002, .inl (upd gf (ts.length + 1) (nI i)))), ((Z 3), .inl (cI, 16002, .inl go))] := hD
                                          refine lv_aload_n hx hb dX5_cut_215 rfl (lv_at hl 3 rfl) ?_
                                          refine va_get (D := D) (ci := 5) (v := .ref (Z 3)) (C := RX5) (T := TX5) (N := 18) hx hb hts (by decide +kernel) hown hK hP 0 rfl rfl 6 (by decide) (hts (.fieldLink RX5 20 "BodyTextModel" "tokenTo" "[I") (by decide +kernel)) (fun _ h9 => h9) rfl dX5_cut_216 ?_
                                          refine lv_aload_n hx hb dX5_cut_219 rfl (lv_at hl 3 rfl) ?_
                                          refine va_get (D := D) (ci := 5) (v := .int (nI ((ts.length + 1) + 1))) (C := RX5) (T := TX5) (N := 18) hx hb hts (by decide +kernel) hown hK hP 0 rfl rfl 7 (by decide) (hts (.fieldLink RX5 56 "BodyTextModel" "tokens" "I") (by decide +kernel)) (fun _ h9 => h9) rfl dX5_cut_220 ?_
                                          refine lv_iconst (v := nI 1) hx hb dX5_cut_223 (by decide) ?_
                                          refine lv_isub hx hb dX5_cut_224 ?_
                                          refine bt_topi (y := nI (((ts.length + 1) + 1) - 1)) (pk_sub (by omega)) ?_
                                          refine lv_iload_n hx hb dX5_cut_225 rfl (lv_at hl 5 rfl) ?_
                                          refine lv_iconst (v := nI 1) hx hb dX5_cut_226 (by decide) ?_
                                          refine lv_iadd hx hb dX5_cut_227 ?_
                                          refine bt_topi (y := nI (i + 1)) (nI_add _ _) ?_
                                          refine va_iast hx hb hK hP hD hS 3 1 rfl rfl (vp_in_nI (by omega) (by omega)) dX5_cut_228 (fun H locs hP hD hS => ?_)
                                          rw [nI_clamp (by omega)] at hP hD
                                          have hP : va_P D vwCl [(mo, .inr (5, [.ref (Z 0), .int (v 0), .int (v 1), .ref (Z 1), .int (nI len), .ref (Z 2), .ref (Z 3), .int (nI ((ts.length + 1) + 1)), .int (v 3), .int (v 4), .ref (Z 4), .ref (Z 5), .ref (Z 6), .ref (Z 7), .ref (Z 8), .int (v 5), .int (v 6), .int (v 7)])), ((Z 1), .inl (cB, 16000, .inl gt)), ((Z 2), .inl (cI, 16002, .inl (upd gf (ts.length + 1) (nI i)))), ((Z 3), .inl (cI, 16002, .inl (upd go (((ts.length + 1) + 1) - 1) (nI (i + 1)))))] H := hP
                                          have hD : va_D A [(mo, .inr (5, [.ref (Z 0), .int (v 0), .int (v 1), .ref (Z 1), .int (nI len), .ref (Z 2), .ref (Z 3), .int (nI ((ts.length + 1) + 1)), .int (v 3), .int (v 4), .ref (Z 4), .ref (Z 5), .ref (Z 6), .ref (Z 7), .ref (Z 8), .int (v 5), .int (v 6), .int (v 7)])), ((Z 1), .inl (cB, 16000, .inl gt)), ((Z 2), .inl (cI, 16002, .inl (upd gf (ts.length + 1) (nI i)))), ((Z 3), .inl (cI, 16002, .inl (upd go (((ts.length + 1) + 1) - 1) (nI (i + 1)))))] := hD
                                          refine lv_iload hx hb dX5_cut_229 (lv_at hl 1 rfl) ?_
                                          refine lv_if_ne (tgt := 238) hx hb dX5_cut_231 (by decide) (fun c_231 => ?_) (fun c_231 => ?_)
                                          · clear c_231
                                            refine lv_iconst (v := nI 0) hx hb dX5_cut_238 (by decide) ?_
                                            refine lv_istore_n (lv' := [(1, .int (nI 0)), (6, .int (nI 1)), (5, .int (nI 0)), (0, .ref mo), (2, .int (bI rv)), (3, .int (nI i)), (4, .int (nI (BB i)))]) hx hb dX5_cut_239 rfl hl (by decide) rfl (fun ls hl => ?_)
                                            refine lv_iinc (v := nI (i + 1)) (lv' := [(3, .int (nI (i + 1))), (1, .int (nI 0)), (6, .int (nI 1)), (5, .int (nI 0)), (0, .ref mo), (2, .int (bI rv)), (4, .int (nI (BB i)))]) hx hb dX5_cut_240 hl (k := 5) rfl (nI_add i 1) (by decide) rfl (fun ls hl => ?_)
                                            refine lv_goto (tgt := 11) hx hb dX5_cut_243 (by decide) ?_
                                            have hP := hP.sub (ws' := [(mo, .inr (5, [.ref (Z 0), .int (v 0), .int (v 1), .ref (Z 1), .int (nI len), .ref (Z 2), .ref (Z 3), .int (nI ((ts.length + 1) + 1)), .int (v 3), .int (v 4), .ref (Z 4), .ref (Z 5), .ref (Z 6), .ref (Z 7), .ref (Z 8), .int (v 5), .int (v 6), .int (v 7)])), ((Z 1), .inl (cB, 16000, .inl gt)), ((Z 2), .inl (cI, 16002, .inl (upd gf (ts.length + 1) (nI i)))), ((Z 3), .inl (cI, 16002, .inl (upd go (((ts.length + 1) + 1) - 1) (nI (i + 1)))))]) [0, 1, 2, 3] rfl
                                            have hD := hD.sub (ws' := [(mo, .inr (5, [.ref (Z 0), .int (v 0), .int (v 1), .ref (Z 1), .int (nI len), .ref (Z 2), .ref (Z 3), .int (nI ((ts.length + 1) + 1)), .int (v 3), .int (v 4), .ref (Z 4), .ref (Z 5), .ref (Z 6), .ref (Z 7), .ref (Z 8), .int (v 5), .int (v 6), .int (v 7)])), ((Z 1), .inl (cB, 16000, .inl gt)), ((Z 2), .inl (cI, 16002, .inl (upd gf (ts.length + 1) (nI i)))), ((Z 3), .inl (cI, 16002, .inl (upd go (((ts.length + 1) + 1) - 1) (nI (i + 1)))))]) [0, 1, 2, 3] (by decide) rfl
                                            have hP : va_P D vwCl [(mo, .inr (5, [.ref (Z 0), .int (v 0), .int (v 1), .ref (Z 1), .int (nI len), .ref (Z 2), .ref (Z 3), .int (nI ((ts.length + 1) + 1)), .int (v 3), .int (v 4), .ref (Z 4), .ref (Z 5), .ref (Z 6), .ref (Z 7), .ref (Z 8), .int (v 5), .int (v 6), .int (v 7)])), ((Z 1), .inl (cB, 16000, .inl gt)), ((Z 2), .inl (cI, 16002, .inl (upd gf (ts.length + 1) (nI i)))), ((Z 3), .inl (cI, 16002, .inl (upd go (ts.length + 1) (nI (i + 1)))))] H := hP
                                            have hD : va_D A [(mo, .inr (5, [.ref (Z 0), .int (v 0), .int (v 1), .ref (Z 1), .int (nI len), .ref (Z 2), .ref (Z 3), .int (nI ((ts.length + 1) + 1)), .int (v 3), .int (v 4), .ref (Z 4), .ref (Z 5), .ref (Z 6), .ref (Z 7), .ref (Z 8), .int (v 5), .int (v 6), .int (v 7)])), ((Z 1), .inl (cB, 16000, .inl gt)), ((Z 2), .inl (cI, 16002, .inl (upd gf (ts.length + 1) (nI i)))), ((Z 3), .inl (cI, 16002, .inl (upd go (ts.length + 1) (nI (i + 1)))))] := hD
                                            have hP : va_P D vwCl [(mo, .inr (5, [.ref (Z 0), .int (v 0), .int (v 1), .ref (Z 1), .int (nI len), .ref (Z 2), .ref (Z 3), .int (nI ((closeT ((ts ++ [(b0, i)]) ++ [(i, i + 1)]) none (i + 1)).length)), .int (v 3), .int (v 4), .ref (Z 4), .ref (Z 5), .ref (Z 6), .ref (Z 7), .ref (Z 8), .int (v 5), .int (v 6), .int (v 7)])), ((Z 1), .inl (cB, 16000, .inl gt)), ((Z 2), .inl (cI, 16002, .inl (upd gf (ts.length + 1) (nI i)))), ((Z 3), .inl (cI, 16002, .inl (upd go (ts.length + 1) (nI (i + 1)))))] H := by rw [cl_len]; simp only [len1, opn, Nat.add_zero]; exact hP
                                            have hD : va_D A [(mo, .inr (5, [.ref (Z 0), .int (v 0), .int (v 1), .ref (Z 1), .int (nI len), .ref (Z 2), .ref (Z 3), .int (nI ((closeT ((ts ++ [(b0, i)]) ++ [(i, i + 1)]) none (i + 1)).length)), .int (v 3), .int (v 4), .ref (Z 4), .ref (Z 5), .ref (Z 6), .ref (Z 7), .ref (Z 8), .int (v 5), .int (v 6), .int (v 7)])), ((Z 1), .inl (cB, 16000, .inl gt)), ((Z 2), .inl (cI, 16002, .inl (upd gf (ts.length + 1) (nI i)))), ((Z 3), .inl (cI, 16002, .inl (upd go (ts.length + 1) (nI (i + 1)))))] := by rw [cl_len]; simp only [len1, opn, Nat.add_zero]; exact hD
                                            exact ih (i + 1) ((ts ++ [(b0, i)]) ++ [(i, i + 1)]) none rv (upd gf (ts.length + 1) (nI i)) (upd go (ts.length + 1) (nI (i + 1))) H locs (by omega) (by omega) (fun j hj => by rcases Nat.lt_or_ge j i with q9 | q9; exact hal j q9; rw [show j = i by omega]; exact h_al) (scan_g hsc hrv (fun q => q.elim (fun q => by rw [bI_0 c_86] at q; cases q) (fun q => by unfold alP at h_al; omega)) (by rw [c_147]; decide)) (by simp only [len1, opn]; omega) ((by have h9 := rwR_add (x := i) (y := i + 1) hrw; rw [len1] at h9; exact h9)) hP hD hS ls (lv_sub hl [4, 1, 5, 0] rfl)
                                          · exact absurd c_231 (by decide)
                                      · exact absurd (by decide) c_185
                                · have c_147 : ¬ ((BB i) = 123) := fun h9 => c_147 ((nI_eq (a := (BB i)) (b := 123) (by omega) (by omega)).mpr h9)
                                  refine lv_iload hx hb dX5_cut_150 (lv_at hl 5 rfl) ?_
                                  refine lv_bipush (v := nI 125) hx hb dX5_cut_152 (by decide) ?_
                                  refine lv_icmp_eq (tgt := 164) hx hb dX5_cut_154 (by decide) (fun c_154 => ?_) (fun c_154 => ?_)
                                  · have c_154 : (BB i) = 125 := (nI_eq (a := (BB i)) (b := 125) (by omega) (by omega)).mp c_154
                                    refine lv_iconst (v := nI 1) hx hb dX5_cut_164 (by decide) ?_
                                    refine lv_goto (tgt := 169) hx hb dX5_cut_165 (by decide) ?_
                                    refine lv_istore (lv' := [(6, .int (nI 1)), (5, .int (nI 0)), (0, .ref mo), (1, .int (nI 1)), (2, .int (bI rv)), (3, .int (nI i)), (4, .int (nI (BB i)))]) hx hb dX5_cut_169 hl (by decide) rfl (fun ls hl => ?_)
                                    refine lv_iload hx hb dX5_cut_171 (lv_at hl 1 rfl) ?_
                                    refine lv_if_ne (tgt := 181) hx hb dX5_cut_173 (by decide) (fun c_173 => ?_) (fun c_173 => ?_)
                                    · exact absurd (by decide) c_173
                                    · clear c_173
                                      refine lv_iload hx hb dX5_cut_176 (lv_at hl 0 rfl) ?_
                                      refine lv_if_eq (tgt := 183) hx hb dX5_cut_178 (by decide) (fun c_178 => ?_) (fun c_178 => ?_)
                                      · exact absurd c_178 (by decide)
                                      · clear c_178
                                        refine lv_iconst (v := nI 0) hx hb dX5_cut_181 (by decide) ?_
                                        refine lv_istore_n (lv' := [(1, .int (nI 0)), (6, .int (nI 1)), (5, .int (nI 0)), (0, .ref mo), (2, .int (bI rv)), (3, .int (nI i)), (4, .int (nI (BB i)))]) hx hb dX5_cut_182 rfl hl (by decide) rfl (fun ls hl => ?_)
                                        refine lv_iload hx hb dX5_cut_183 (lv_at hl 2 rfl) ?_
                                        refine lv_if_eq (tgt := 191) hx hb dX5_cut_185 (by decide) (fun c_185 => ?_) (fun c_185 => ?_)
                                        · clear c_185
                                          refine lv_iload_n hx hb dX5_cut_191 rfl (lv_at hl 0 rfl) ?_
                                          refine lv_if_ne (tgt := 215) hx hb dX5_cut_192 (by decide) (fun c_192 => ?_) (fun c_192 => ?_)
                                          · exact absurd (by decide) c_192
                                          · clear c_192
                                            refine lv_aload_n hx hb dX5_cut_195 rfl (lv_at hl 3 rfl) ?_
                                            refine va_get (D := D) (ci := 5) (v := .ref (Z 2)) (C := RX5) (T := TX5) (N := 18) hx hb hts (by decide +kernel) hown hK hP 0 rfl rfl 5 (by decide) (hts (.fieldLink RX5 16 "BodyTextModel" "tokenFrom" "[I") (by decide +kernel)) (fun _ h9 => h9) rfl dX5_cut_196 ?_
                                            refine lv_aload_n hx hb dX5_cut_199 rfl (lv_at hl 3 rfl) ?_
                                            refine va_get (D := D) (ci := 5) (v := .int (nI (ts.length + 1))) (C := RX5) (T := TX5) (N := 18) hx hb hts (by decide +kernel) hown hK hP 0 rfl rfl 7 (by decide) (hts (.fieldLink RX5 56 "BodyTextModel" "tokens" "I") (by decide +kernel)) (fun _ h9 => h9) rfl dX5_cut_200 ?_
                                            refine lv_iload_n hx hb dX5_cut_203 rfl (lv_at hl 5 rfl) ?_
                                            refine va_iast hx hb hK hP hD hS 2 1 rfl rfl (vp_in_nI (by omega) (by omega)) dX5_cut_204 (fun H locs hP hD hS => ?_)
                                            rw [nI_clamp (by omega)] at hP hD
                                            have hP : va_P D vwCl [(mo, .inr (5, [.ref (Z 0), .int (v 0), .int (v 1), .ref (Z 1), .int (nI len), .ref (Z 2), .ref (Z 3), .int (nI (ts.length + 1)), .int (v 3), .int (v 4), .ref (Z 4), .ref (Z 5), .ref (Z 6), .ref (Z 7), .ref (Z 8), .int (v 5), .int (v 6), .int (v 7)])), ((Z 1), .inl (cB, 16000, .inl gt)), ((Z 2), .inl (cI, 16002, .inl (upd gf (ts.length + 1) (nI i)))), ((Z 3), .inl (cI, 16002, .inl go))] H := hP
                                            have hD : va_D A [(mo, .inr (5, [.ref (Z 0), .int (v 0), .int (v 1), .ref (Z 1), .int (nI len), .ref (Z 2), .ref (Z 3), .int (nI (ts.length + 1)), .int (v 3), .int (v 4), .ref (Z 4), .ref (Z 5), .ref (Z 6), .ref (Z 7), .ref (Z 8), .int (v 5), .int (v 6), .int (v 7)])), ((Z 1), .inl (cB, 16000, .inl gt)), ((Z 2), .inl (cI, 16002, .inl (upd gf (ts.length + 1) (nI i)))), ((Z 3), .inl (cI, 16002, .inl go))] := hD
                                            refine lv_aload_n hx hb dX5_cut_205 rfl (lv_at hl 3 rfl) ?_
                                            refine lv_dup hx hb dX5_cut_206 rfl ?_
                                            refine va_get (D := D) (ci := 5) (v := .int (nI (ts.length + 1))) (C := RX5) (T := TX5) (N := 18) hx hb hts (by decide +kernel) hown hK hP 0 rfl rfl 7 (by decide) (hts (.fieldLink RX5 56 "BodyTextModel" "tokens" "I") (by decide +kernel)) (fun _ h9 => h9) rfl dX5_cut_207 ?_
                                            refine lv_iconst (v := nI 1) hx hb dX5_cut_210 (by decide) ?_
                                            refine lv_iadd hx hb dX5_cut_211 ?_
                                            refine bt_topi (y := nI ((ts.length + 1) + 1)) (nI_add _ _) ?_
                                            refine va_put (D := D) (ci := 5) (v := .int (nI ((ts.length + 1) + 1))) (ty := .int) (C := RX5) (T := TX5) (N := 18) hx hb hts (by decide +kernel) tyX5 tyX5_ok nmX5 hown hK hP hD hS 0 rfl rfl 7 (by decide) (hts (.fieldLink RX5 56 "BodyTextModel" "tokens" "I") (by decide +kernel)) (fun _ h9 => h9) rfl (by decide +kernel) rfl rfl (Nat.le_of_ble_eq_true rfl) dX5_cut_212 (fun H locs hP hD hS => ?_)
                                            have hP : va_P D vwCl [(mo, .inr (5, [.ref (Z 0), .int (v 0), .int (v 1), .ref (Z 1), .int (nI len), .ref (Z 2), .ref (Z 3), .int (nI ((ts.length + 1) + 1)), .int (v 3), .int (v 4), .ref (Z 4), .ref (Z 5), .ref (Z 6), .ref (Z 7), .ref (Z 8), .int (v 5), .int (v 6), .int (v 7)])), ((Z 1), .inl (cB, 16000, .inl gt)), ((Z 2), .inl (cI, 16002, .inl (upd gf (ts.length + 1) (nI i)))), ((Z 3), .inl (cI, 16002, .inl go))] H := hP
                                            have hD : va_D A [(mo, .inr (5, [.ref (Z 0), .int (v 0), .int (v 1), .ref (Z 1), .int (nI len), .ref (Z 2), .ref (Z 3), .int (nI ((ts.length + 1) + 1)), .int (v 3), .int (v 4), .ref (Z 4), .ref (Z 5), .ref (Z 6), .ref (Z 7), .ref (Z 8), .int (v 5), .int (v 6), .int (v 7)])), ((Z 1), .inl (cB, 16000, .inl gt)), ((Z 2), .inl (cI, 16002, .inl (upd gf (ts.length + 1) (nI i)))), ((Z 3), .inl (cI, 16002, .inl go))] := hD
                                            refine lv_aload_n hx hb dX5_cut_215 rfl (lv_at hl 3 rfl) ?_
                                            refine va_get (D := D) (ci := 5) (v := .ref (Z 3)) (C := RX5) (T := TX5) (N := 18) hx hb hts (by decide +kernel) hown hK hP 0 rfl rfl 6 (by decide) (hts (.fieldLink RX5 20 "BodyTextModel" "tokenTo" "[I") (by decide +kernel)) (fun _ h9 => h9) rfl dX5_cut_216 ?_
                                            refine lv_aload_n hx hb dX5_cut_219 rfl (lv_at hl 3 rfl) ?_
                                            refine va_get (D := D) (ci := 5) (v := .int (nI ((ts.length + 1) + 1))) (C := RX5) (T := TX5) (N := 18) hx hb hts (by decide +kernel) hown hK hP 0 rfl rfl 7 (by decide) (hts (.fieldLink RX5 56 "BodyTextModel" "tokens" "I") (by decide +kernel)) (fun _ h9 => h9) rfl dX5_cut_220 ?_
                                            refine lv_iconst (v := nI 1) hx hb dX5_cut_223 (by decide) ?_
                                            refine lv_isub hx hb dX5_cut_224 ?_
                                            refine bt_topi (y := nI (((ts.length + 1) + 1) - 1)) (pk_sub (by omega)) ?_
                                            refine lv_iload_n hx hb dX5_cut_225 rfl (lv_at hl 5 rfl) ?_
                                            refine lv_iconst (v := nI 1) hx hb dX5_cut_226 (by decide) ?_
                                            refine lv_iadd hx hb dX5_cut_227 ?_
                                            refine bt_topi (y := nI (i + 1)) (nI_add _ _) ?_
                                            refine va_iast hx hb hK hP hD hS 3 1 rfl rfl (vp_in_nI (by omega) (by omega)) dX5_cut_228 (fun H locs hP hD hS => ?_)
                                            rw [nI_clamp (by omega)] at hP hD
                                            have hP : va_P D vwCl [(mo, .inr (5, [.ref (Z 0), .int (v 0), .int (v 1), .ref (Z 1), .int (nI len), .ref (Z 2), .ref (Z 3), .int (nI ((ts.length + 1) + 1)), .int (v 3), .int (v 4), .ref (Z 4), .ref (Z 5), .ref (Z 6), .ref (Z 7), .ref (Z 8), .int (v 5), .int (v 6), .int (v 7)])), ((Z 1), .inl (cB, 16000, .inl gt)), ((Z 2), .inl (cI, 16002, .inl (upd gf (ts.length + 1) (nI i)))), ((Z 3), .inl (cI, 16002, .inl (upd go (((ts.length + 1) + 1) - 1) (nI (i + 1)))))] H := hP
                                            have hD : va_D A [(mo, .inr (5, [.ref (Z 0), .int (v 0), .int (v 1), .ref (Z 1), .int (nI len), .ref (Z 2), .ref (Z 3), .int (nI ((ts.length + 1) + 1)), .int (v 3), .int (v 4), .ref (Z 4), .ref (Z 5), .ref (Z 6), .ref (Z 7), .ref (Z 8), .int (v 5), .int (v 6), .int (v 7)])), ((Z 1), .inl (cB, 16000, .inl gt)), ((Z 2), .inl (cI, 16002, .inl (upd gf (ts.length + 1) (nI i)))), ((Z 3), .inl (cI, 16002, .inl (upd go (((ts.length + 1) + 1) - 1) (nI (i + 1)))))] := hD
                                            refine lv_iload hx hb dX5_cut_229 (lv_at hl 1 rfl) ?_
                                            refine lv_if_ne (tgt := 238) hx hb dX5_cut_231 (by decide) (fun c_231 => ?_) (fun c_231 => ?_)
                                            · clear c_231
                                              refine lv_iconst (v := nI 0) hx hb dX5_cut_238 (by decide) ?_
                                              refine lv_istore_n (lv' := [(1, .int (nI 0)), (6, .int (nI 1)), (5, .int (nI 0)), (0, .ref mo), (2, .int (bI rv)), (3, .int (nI i)), (4, .int (nI (BB i)))]) hx hb dX5_cut_239 rfl hl (by decide) rfl (fun ls hl => ?_)
                                              refine lv_iinc (v := nI (i + 1)) (lv' := [(3, .int (nI (i + 1))), (1, .int (nI 0)), (6, .int (nI 1)), (5, .int (nI 0)), (0, .ref mo), (2, .int (bI rv)), (4, .int (nI (BB i)))]) hx hb dX5_cut_240 hl (k := 5) rfl (nI_add i 1) (by decide) rfl (fun ls hl => ?_)
                                              refine lv_goto (tgt := 11) hx hb dX5_cut_243 (by decide) ?_
                                              have hP := hP.sub (ws' := [(mo, .inr (5, [.ref (Z 0), .int (v 0), .int (v 1), .ref (Z 1), .int (nI len), .ref (Z 2), .ref (Z 3), .int (nI ((ts.length + 1) + 1)), .int (v 3), .int (v 4), .ref (Z 4), .ref (Z 5), .ref (Z 6), .ref (Z 7), .ref (Z 8), .int (v 5), .int (v 6), .int (v 7)])), ((Z 1), .inl (cB, 16000, .inl gt)), ((Z 2), .inl (cI, 16002, .inl (upd gf (ts.length + 1) (nI i)))), ((Z 3), .inl (cI, 16002, .inl (upd go (((ts.length + 1) + 1) - 1) (nI (i + 1)))))]) [0, 1, 2, 3] rfl
                                              have hD := hD.sub (ws' := [(mo, .inr (5, [.ref (Z 0), .int (v 0), .int (v 1), .ref (Z 1), .int (nI len), .ref (Z 2), .ref (Z 3), .int (nI ((ts.length + 1) + 1)), .int (v 3), .int (v 4), .ref (Z 4), .ref (Z 5), .ref (Z 6), .ref (Z 7), .ref (Z 8), .int (v 5), .int (v 6), .int (v 7)])), ((Z 1), .inl (cB, 16000, .inl gt)), ((Z 2), .inl (cI, 16002, .inl (upd gf (ts.length + 1) (nI i)))), ((Z 3), .inl (cI, 16002, .inl (upd go (((ts.length + 1) + 1) - 1) (nI (i + 1)))))]) [0, 1, 2, 3] (by decide) rfl
                                              have hP : va_P D vwCl [(mo, .inr (5, [.ref (Z 0), .int (v 0), .int (v 1), .ref (Z 1), .int (nI len), .ref (Z 2), .ref (Z 3), .int (nI ((ts.length + 1) + 1)), .int (v 3), .int (v 4), .ref (Z 4), .ref (Z 5), .ref (Z 6), .ref (Z 7), .ref (Z 8), .int (v 5), .int (v 6), .int (v 7)])), ((Z 1), .inl (cB, 16000, .inl gt)), ((Z 2), .inl (cI, 16002, .inl (upd gf (ts.length + 1) (nI i)))), ((Z 3), .inl (cI, 16002, .inl (upd go (ts.length + 1) (nI (i + 1)))))] H := hP
                                              have hD : va_D A [(mo, .inr (5, [.ref (Z 0), .int (v 0), .int (v 1), .ref (Z 1), .int (nI len), .ref (Z 2), .ref (Z 3), .int (nI ((ts.length + 1) + 1)), .int (v 3), .int (v 4), .ref (Z 4), .ref (Z 5), .ref (Z 6), .ref (Z 7), .ref (Z 8), .int (v 5), .int (v 6), .int (v 7)])), ((Z 1), .inl (cB, 16000, .inl gt)), ((Z 2), .inl (cI, 16002, .inl (upd gf (ts.length + 1) (nI i)))), ((Z 3), .inl (cI, 16002, .inl (upd go (ts.length + 1) (nI (i + 1)))))] := hD
                                              have hP : va_P D vwCl [(mo, .inr (5, [.ref (Z 0), .int (v 0), .int (v 1), .ref (Z 1), .int (nI len), .ref (Z 2), .ref (Z 3), .int (nI ((closeT ((ts ++ [(b0, i)]) ++ [(i, i + 1)]) none (i + 1)).length)), .int (v 3), .int (v 4), .ref (Z 4), .ref (Z 5), .ref (Z 6), .ref (Z 7), .ref (Z 8), .int (v 5), .int (v 6), .int (v 7)])), ((Z 1), .inl (cB, 16000, .inl gt)), ((Z 2), .inl (cI, 16002, .inl (upd gf (ts.length + 1) (nI i)))), ((Z 3), .inl (cI, 16002, .inl (upd go (ts.length + 1) (nI (i + 1)))))] H := by rw [cl_len]; simp only [len1, opn, Nat.add_zero]; exact hP
                                              have hD : va_D A [(mo, .inr (5, [.ref (Z 0), .int (v 0), .int (v 1), .ref (Z 1), .int (nI len), .ref (Z 2), .ref (Z 3), .int (nI ((closeT ((ts ++ [(b0, i)]) ++ [(i, i + 1)]) none (i + 1)).length)), .int (v 3), .int (v 4), .ref (Z 4), .ref (Z 5), .ref (Z 6), .ref (Z 7), .ref (Z 8), .int (v 5), .int (v 6), .int (v 7)])), ((Z 1), .inl (cB, 16000, .inl gt)), ((Z 2), .inl (cI, 16002, .inl (upd gf (ts.length + 1) (nI i)))), ((Z 3), .inl (cI, 16002, .inl (upd go (ts.length + 1) (nI (i + 1)))))] := by rw [cl_len]; simp only [len1, opn, Nat.add_zero]; exact hD
                                              exact ih (i + 1) ((ts ++ [(b0, i)]) ++ [(i, i + 1)]) none rv (upd gf (ts.length + 1) (nI i)) (upd go (ts.length + 1) (nI (i + 1))) H locs (by omega) (by omega) (fun j hj => by rcases Nat.lt_or_ge j i with q9 | q9; exact hal j q9; rw [show j = i by omega]; exact h_al) (scan_g hsc hrv (fun q => q.elim (fun q => by rw [bI_0 c_86] at q; cases q) (fun q => by unfold alP at h_al; omega)) (by rw [c_154]; decide)) (by simp only [len1, opn]; omega) ((by have h9 := rwR_add (x := i) (y := i + 1) hrw; rw [len1] at h9; exact h9)) hP hD hS ls (lv_sub hl [4, 1, 5, 0] rfl)
                                            · exact absurd c_231 (by decide)
                                        · exact absurd (by decide) c_185
                                  · have c_154 : ¬ ((BB i) = 125) := fun h9 => c_154 ((nI_eq (a := (BB i)) (b := 125) (by omega) (by omega)).mpr h9)
                                    refine lv_iload hx hb dX5_cut_157 (lv_at hl 5 rfl) ?_
                                    refine lv_bipush (v := nI 58) hx hb dX5_cut_159 (by decide) ?_
                                    refine lv_icmp_ne (tgt := 168) hx hb dX5_cut_161 (by decide) (fun c_161 => ?_) (fun c_161 => ?_)
                                    · have c_161 : ¬ ((BB i) = 58) := fun h9 => c_161 ((nI_eq (a := (BB i)) (b := 58) (by omega) (by omega)).mpr h9)
                                      refine lv_iconst (v := nI 0) hx hb dX5_cut_168 (by decide) ?_
                                      refine lv_istore (lv' := [(6, .int (nI 0)), (5, .int (nI 0)), (0, .ref mo), (1, .int (nI 1)), (2, .int (bI rv)), (3, .int (nI i)), (4, .int (nI (BB i)))]) hx hb dX5_cut_169 hl (by decide) rfl (fun ls hl => ?_)
                                      refine lv_iload hx hb dX5_cut_171 (lv_at hl 1 rfl) ?_
                                      refine lv_if_ne (tgt := 181) hx hb dX5_cut_173 (by decide) (fun c_173 => ?_) (fun c_173 => ?_)
                                      · exact absurd (by decide) c_173
                                      · clear c_173
                                        refine lv_iload hx hb dX5_cut_176 (lv_at hl 0 rfl) ?_
                                        refine lv_if_eq (tgt := 183) hx hb dX5_cut_178 (by decide) (fun c_178 => ?_) (fun c_178 => ?_)
                                        · clear c_178
                                          refine lv_iload hx hb dX5_cut_183 (lv_at hl 1 rfl) ?_
                                          refine lv_if_eq (tgt := 191) hx hb dX5_cut_185 (by decide) (fun c_185 => ?_) (fun c_185 => ?_)
                                          · clear c_185
                                            refine lv_iload_n hx hb dX5_cut_191 rfl (lv_at hl 3 rfl) ?_
                                            refine lv_if_ne (tgt := 215) hx hb dX5_cut_192 (by decide) (fun c_192 => ?_) (fun c_192 => ?_)
                                            · clear c_192
                                              refine lv_aload_n hx hb dX5_cut_215 rfl (lv_at hl 2 rfl) ?_
                                              refine va_get (D := D) (ci := 5) (v := .ref (Z 3)) (C := RX5) (T := TX5) (N := 18) hx hb hts (by decide +kernel) hown hK hP 0 rfl rfl 6 (by decide) (hts (.fieldLink RX5 20 "BodyTextModel" "tokenTo" "[I") (by decide +kernel)) (fun _ h9 => h9) rfl dX5_cut_216 ?_
                                              refine lv_aload_n hx hb dX5_cut_219 rfl (lv_at hl 2 rfl) ?_
                                              refine va_get (D := D) (ci := 5) (v := .int (nI (ts.length + 1))) (C := RX5) (T := TX5) (N := 18) hx hb hts (by decide +kernel) hown hK hP 0 rfl rfl 7 (by decide) (hts (.fieldLink RX5 56 "BodyTextModel" "tokens" "I") (by decide +kernel)) (fun _ h9 => h9) rfl dX5_cut_220 ?_
                                              refine lv_iconst (v := nI 1) hx hb dX5_cut_223 (by decide) ?_
                                              refine lv_isub hx hb dX5_cut_224 ?_
                                              refine bt_topi (y := nI ((ts.length + 1) - 1)) (pk_sub (by omega)) ?_
                                              refine lv_iload_n hx hb dX5_cut_225 rfl (lv_at hl 5 rfl) ?_
                                              refine lv_iconst (v := nI 1) hx hb dX5_cut_226 (by decide) ?_
                                              refine lv_iadd hx hb dX5_cut_227 ?_
                                              refine bt_topi (y := nI (i + 1)) (nI_add _ _) ?_
                                              refine va_iast hx hb hK hP hD hS 3 1 rfl rfl (vp_in_nI (by omega) (by omega)) dX5_cut_228 (fun H locs hP hD hS => ?_)
                                              rw [nI_clamp (by omega)] at hP hD
                                              have hP : va_P D vwCl [(mo, .inr (5, [.ref (Z 0), .int (v 0), .int (v 1), .ref (Z 1), .int (nI len), .ref (Z 2), .ref (Z 3), .int (nI (ts.length + 1)), .int (v 3), .int (v 4), .ref (Z 4), .ref (Z 5), .ref (Z 6), .ref (Z 7), .ref (Z 8), .int (v 5), .int (v 6), .int (v 7)])), ((Z 1), .inl (cB, 16000, .inl gt)), ((Z 2), .inl (cI, 16002, .inl gf)), ((Z 3), .inl (cI, 16002, .inl (upd go ((ts.length + 1) - 1) (nI (i + 1)))))] H := hP
                                              have hD : va_D A [(mo, .inr (5, [.ref (Z 0), .int (v 0), .int (v 1), .ref (Z 1), .int (nI len), .ref (Z 2), .ref (Z 3), .int (nI (ts.length + 1)), .int (v 3), .int (v 4), .ref (Z 4), .ref (Z 5), .ref (Z 6), .ref (Z 7), .ref (Z 8), .int (v 5), .int (v 6), .int (v 7)])), ((Z 1), .inl (cB, 16000, .inl gt)), ((Z 2), .inl (cI, 16002, .inl gf)), ((Z 3), .inl (cI, 16002, .inl (upd go ((ts.length + 1) - 1) (nI (i + 1)))))] := hD
                                              refine lv_iload hx hb dX5_cut_229 (lv_at hl 0 rfl) ?_
                                              refine lv_if_ne (tgt := 238) hx hb dX5_cut_231 (by decide) (fun c_231 => ?_) (fun c_231 => ?_)
                                              · exact absurd (by decide) c_231
                                              · clear c_231
                                                refine lv_iconst (v := nI 1) hx hb dX5_cut_234 (by decide) ?_
                                                refine lv_goto (tgt := 239) hx hb dX5_cut_235 (by decide) ?_
                                                refine lv_istore_n (lv' := [(1, .int (nI 1)), (6, .int (nI 0)), (5, .int (nI 0)), (0, .ref mo), (2, .int (bI rv)), (3, .int (nI i)), (4, .int (nI (BB i)))]) hx hb dX5_cut_239 rfl hl (by decide) rfl (fun ls hl => ?_)
                                                refine lv_iinc (v := nI (i + 1)) (lv' := [(3, .int (nI (i + 1))), (1, .int (nI 1)), (6, .int (nI 0)), (5, .int (nI 0)), (0, .ref mo), (2, .int (bI rv)), (4, .int (nI (BB i)))]) hx hb dX5_cut_240 hl (k := 5) rfl (nI_add i 1) (by decide) rfl (fun ls hl => ?_)
                                                refine lv_goto (tgt := 11) hx hb dX5_cut_243 (by decide) ?_
                                                have hP := hP.sub (ws' := [(mo, .inr (5, [.ref (Z 0), .int (v 0), .int (v 1), .ref (Z 1), .int (nI len), .ref (Z 2), .ref (Z 3), .int (nI (ts.length + 1)), .int (v 3), .int (v 4), .ref (Z 4), .ref (Z 5), .ref (Z 6), .ref (Z 7), .ref (Z 8), .int (v 5), .int (v 6), .int (v 7)])), ((Z 1), .inl (cB, 16000, .inl gt)), ((Z 2), .inl (cI, 16002, .inl gf)), ((Z 3), .inl (cI, 16002, .inl (upd go ((ts.length + 1) - 1) (nI (i + 1)))))]) [0, 1, 2, 3] rfl
                                                have hD := hD.sub (ws' := [(mo, .inr (5, [.ref (Z 0), .int (v 0), .int (v 1), .ref (Z 1), .int (nI len), .ref (Z 2), .ref (Z 3), .int (nI (ts.length + 1)), .int (v 3), .int (v 4), .ref (Z 4), .ref (Z 5), .ref (Z 6), .ref (Z 7), .ref (Z 8), .int (v 5), .int (v 6), .int (v 7)])), ((Z 1), .inl (cB, 16000, .inl gt)), ((Z 2), .inl (cI, 16002, .inl gf)), ((Z 3), .inl (cI, 16002, .inl (upd go ((ts.length + 1) - 1) (nI (i + 1)))))]) [0, 1, 2, 3] (by decide) rfl
                                                have hP : va_P D vwCl [(mo, .inr (5, [.ref (Z 0), .int (v 0), .int (v 1), .ref (Z 1), .int (nI len), .ref (Z 2), .ref (Z 3), .int (nI (ts.length + 1)), .int (v 3), .int (v 4), .ref (Z 4), .ref (Z 5), .ref (Z 6), .ref (Z 7), .ref (Z 8), .int (v 5), .int (v 6), .int (v 7)])), ((Z 1), .inl (cB, 16000, .inl gt)), ((Z 2), .inl (cI, 16002, .inl gf)), ((Z 3), .inl (cI, 16002, .inl (upd go ts.length (nI (i + 1)))))] H := hP
                                                have hD : va_D A [(mo, .inr (5, [.ref (Z 0), .int (v 0), .int (v 1), .ref (Z 1), .int (nI len), .ref (Z 2), .ref (Z 3), .int (nI (ts.length + 1)), .int (v 3), .int (v 4), .ref (Z 4), .ref (Z 5), .ref (Z 6), .ref (Z 7), .ref (Z 8), .int (v 5), .int (v 6), .int (v 7)])), ((Z 1), .inl (cB, 16000, .inl gt)), ((Z 2), .inl (cI, 16002, .inl gf)), ((Z 3), .inl (cI, 16002, .inl (upd go ts.length (nI (i + 1)))))] := hD
                                                have hP : va_P D vwCl [(mo, .inr (5, [.ref (Z 0), .int (v 0), .int (v 1), .ref (Z 1), .int (nI len), .ref (Z 2), .ref (Z 3), .int (nI ((closeT ts (some b0) (i + 1)).length)), .int (v 3), .int (v 4), .ref (Z 4), .ref (Z 5), .ref (Z 6), .ref (Z 7), .ref (Z 8), .int (v 5), .int (v 6), .int (v 7)])), ((Z 1), .inl (cB, 16000, .inl gt)), ((Z 2), .inl (cI, 16002, .inl gf)), ((Z 3), .inl (cI, 16002, .inl (upd go ts.length (nI (i + 1)))))] H := by rw [cl_len]; simp only [len1, opn, Nat.add_zero]; exact hP
                                                have hD : va_D A [(mo, .inr (5, [.ref (Z 0), .int (v 0), .int (v 1), .ref (Z 1), .int (nI len), .ref (Z 2), .ref (Z 3), .int (nI ((closeT ts (some b0) (i + 1)).length)), .int (v 3), .int (v 4), .ref (Z 4), .ref (Z 5), .ref (Z 6), .ref (Z 7), .ref (Z 8), .int (v 5), .int (v 6), .int (v 7)])), ((Z 1), .inl (cB, 16000, .inl gt)), ((Z 2), .inl (cI, 16002, .inl gf)), ((Z 3), .inl (cI, 16002, .inl (upd go ts.length (nI (i + 1)))))] := by rw [cl_len]; simp only [len1, opn, Nat.add_zero]; exact hD
                                                exact ih (i + 1) ts (some b0) rv gf (upd go ts.length (nI (i + 1))) H locs (by omega) (by omega) (fun j hj => by rcases Nat.lt_or_ge j i with q9 | q9; exact hal j q9; rw [show j = i by omega]; exact h_al) (scan_w hsc hrv (fun q => q.elim (fun q => by rw [bI_0 c_86] at q; cases q) (fun q => by unfold alP at h_al; omega)) (by unfold sgF; rw [if_neg c_133, if_neg c_140, if_neg c_161, if_neg c_147, if_neg c_154])) (by simp only [len1, opn]; omega) (rwR_end hrw) hP hD hS ls (lv_sub hl [4, 1, 5, 0] rfl)
                                            · exact absurd c_192 (by decide)
                                          · exact absurd (by decide) c_185
                                        · exact absurd (by decide) c_178
                                    · have c_161 : (BB i) = 58 := (nI_eq (a := (BB i)) (b := 58) (by omega) (by omega)).mp c_161
                                      refine lv_iconst (v := nI 1) hx hb dX5_cut_164 (by decide) ?_
                                      refine lv_goto (tgt := 169) hx hb dX5_cut_165 (by decide) ?_
                                      refine lv_istore (lv' := [(6, .int (nI 1)), (5, .int (nI 0)), (0, .ref mo), (1, .int (nI 1)), (2, .int (bI rv)), (3, .int (nI i)), (4, .int (nI (BB i)))]) hx hb dX5_cut_169 hl (by decide) rfl (fun ls hl => ?_)
                                      refine lv_iload hx hb dX5_cut_171 (lv_at hl 1 rfl) ?_
                                      refine lv_if_ne (tgt := 181) hx hb dX5_cut_173 (by decide) (fun c_173 => ?_) (fun c_173 => ?_)
                                      · exact absurd (by decide) c_173
                                      · clear c_173
                                        refine lv_iload hx hb dX5_cut_176 (lv_at hl 0 rfl) ?_
                                        refine lv_if_eq (tgt := 183) hx hb dX5_cut_178 (by decide) (fun c_178 => ?_) (fun c_178 => ?_)
                                        · exact absurd c_178 (by decide)
                                        · clear c_178
                                          refine lv_iconst (v := nI 0) hx hb dX5_cut_181 (by decide) ?_
                                          refine lv_istore_n (lv' := [(1, .int (nI 0)), (6, .int (nI 1)), (5, .int (nI 0)), (0, .ref mo), (2, .int (bI rv)), (3, .int (nI i)), (4, .int (nI (BB i)))]) hx hb dX5_cut_182 rfl hl (by decide) rfl (fun ls hl => ?_)
                                          refine lv_iload hx hb dX5_cut_183 (lv_at hl 2 rfl) ?_
                                          refine lv_if_eq (tgt := 191) hx hb dX5_cut_185 (by decide) (fun c_185 => ?_) (fun c_185 => ?_)
                                          · clear c_185
                                            refine lv_iload_n hx hb dX5_cut_191 rfl (lv_at hl 0 rfl) ?_
                                            refine lv_if_ne (tgt := 215) hx hb dX5_cut_192 (by decide) (fun c_192 => ?_) (fun c_192 => ?_)
                                            · exact absurd (by decide) c_192
                                            · clear c_192
                                              refine lv_aload_n hx hb dX5_cut_195 rfl (lv_at hl 3 rfl) ?_
                                              refine va_get (D := D) (ci := 5) (v := .ref (Z 2)) (C := RX5) (T := TX5) (N := 18) hx hb hts (by decide +kernel) hown hK hP 0 rfl rfl 5 (by decide) (hts (.fieldLink RX5 16 "BodyTextModel" "tokenFrom" "[I") (by decide +kernel)) (fun _ h9 => h9) rfl dX5_cut_196 ?_
                                              refine lv_aload_n hx hb dX5_cut_199 rfl (lv_at hl 3 rfl) ?_
                                              refine va_get (D := D) (ci := 5) (v := .int (nI (ts.length + 1))) (C := RX5) (T := TX5) (N := 18) hx hb hts (by decide +kernel) hown hK hP 0 rfl rfl 7 (by decide) (hts (.fieldLink RX5 56 "BodyTextModel" "tokens" "I") (by decide +kernel)) (fun _ h9 => h9) rfl dX5_cut_200 ?_
                                              refine lv_iload_n hx hb dX5_cut_203 rfl (lv_at hl 5 rfl) ?_
                                              refine va_iast hx hb hK hP hD hS 2 1 rfl rfl (vp_in_nI (by omega) (by omega)) dX5_cut_204 (fun H locs hP hD hS => ?_)
                                              rw [nI_clamp (by omega)] at hP hD
                                              have hP : va_P D vwCl [(mo, .inr (5, [.ref (Z 0), .int (v 0), .int (v 1), .ref (Z 1), .int (nI len), .ref (Z 2), .ref (Z 3), .int (nI (ts.length + 1)), .int (v 3), .int (v 4), .ref (Z 4), .ref (Z 5), .ref (Z 6), .ref (Z 7), .ref (Z 8), .int (v 5), .int (v 6), .int (v 7)])), ((Z 1), .inl (cB, 16000, .inl gt)), ((Z 2), .inl (cI, 16002, .inl (upd gf (ts.length + 1) (nI i)))), ((Z 3), .inl (cI, 16002, .inl go))] H := hP
                                              have hD : va_D A [(mo, .inr (5, [.ref (Z 0), .int (v 0), .int (v 1), .ref (Z 1), .int (nI len), .ref (Z 2), .ref (Z 3), .int (nI (ts.length + 1)), .int (v 3), .int (v 4), .ref (Z 4), .ref (Z 5), .ref (Z 6), .ref (Z 7), .ref (Z 8), .int (v 5), .int (v 6), .int (v 7)])), ((Z 1), .inl (cB, 16000, .inl gt)), ((Z 2), .inl (cI, 16002, .inl (upd gf (ts.length + 1) (nI i)))), ((Z 3), .inl (cI, 16002, .inl go))] := hD
                                              refine lv_aload_n hx hb dX5_cut_205 rfl (lv_at hl 3 rfl) ?_
                                              refine lv_dup hx hb dX5_cut_206 rfl ?_
                                              refine va_get (D := D) (ci := 5) (v := .int (nI (ts.length + 1))) (C := RX5) (T := TX5) (N := 18) hx hb hts (by decide +kernel) hown hK hP 0 rfl rfl 7 (by decide) (hts (.fieldLink RX5 56 "BodyTextModel" "tokens" "I") (by decide +kernel)) (fun _ h9 => h9) rfl dX5_cut_207 ?_
                                              refine lv_iconst (v := nI 1) hx hb dX5_cut_210 (by decide) ?_
                                              refine lv_iadd hx hb dX5_cut_211 ?_
                                              refine bt_topi (y := nI ((ts.length + 1) + 1)) (nI_add _ _) ?_
                                              refine va_put (D := D) (ci := 5) (v := .int (nI ((ts.length + 1) + 1))) (ty := .int) (C := RX5) (T := TX5) (N := 18) hx hb hts (by decide +kernel) tyX5 tyX5_ok nmX5 hown hK hP hD hS 0 rfl rfl 7 (by decide) (hts (.fieldLink RX5 56 "BodyTextModel" "tokens" "I") (by decide +kernel)) (fun _ h9 => h9) rfl (by decide +kernel) rfl rfl (Nat.le_of_ble_eq_true rfl) dX5_cut_212 (fun H locs hP hD hS => ?_)
                                              have hP : va_P D vwCl [(mo, .inr (5, [.ref (Z 0), .int (v 0), .int (v 1), .ref (Z 1), .int (nI len), .ref (Z 2), .ref (Z 3), .int (nI ((ts.length + 1) + 1)), .int (v 3), .int (v 4), .ref (Z 4), .ref (Z 5), .ref (Z 6), .ref (Z 7), .ref (Z 8), .int (v 5), .int (v 6), .int (v 7)])), ((Z 1), .inl (cB, 16000, .inl gt)), ((Z 2), .inl (cI, 16002, .inl (upd gf (ts.length + 1) (nI i)))), ((Z 3), .inl (cI, 16002, .inl go))] H := hP
                                              have hD : va_D A [(mo, .inr (5, [.ref (Z 0), .int (v 0), .int (v 1), .ref (Z 1), .int (nI len), .ref (Z 2), .ref (Z 3), .int (nI ((ts.length + 1) + 1)), .int (v 3), .int (v 4), .ref (Z 4), .ref (Z 5), .ref (Z 6), .ref (Z 7), .ref (Z 8), .int (v 5), .int (v 6), .int (v 7)])), ((Z 1), .inl (cB, 16000, .inl gt)), ((Z 2), .inl (cI, 16002, .inl (upd gf (ts.length + 1) (nI i)))), ((Z 3), .inl (cI, 16002, .inl go))] := hD
                                              refine lv_aload_n hx hb dX5_cut_215 rfl (lv_at hl 3 rfl) ?_
                                              refine va_get (D := D) (ci := 5) (v := .ref (Z 3)) (C := RX5) (T := TX5) (N := 18) hx hb hts (by decide +kernel) hown hK hP 0 rfl rfl 6 (by decide) (hts (.fieldLink RX5 20 "BodyTextModel" "tokenTo" "[I") (by decide +kernel)) (fun _ h9 => h9) rfl dX5_cut_216 ?_
                                              refine lv_aload_n hx hb dX5_cut_219 rfl (lv_at hl 3 rfl) ?_
                                              refine va_get (D := D) (ci := 5) (v := .int (nI ((ts.length + 1) + 1))) (C := RX5) (T := TX5) (N := 18) hx hb hts (by decide +kernel) hown hK hP 0 rfl rfl 7 (by decide) (hts (.fieldLink RX5 56 "BodyTextModel" "tokens" "I") (by decide +kernel)) (fun _ h9 => h9) rfl dX5_cut_220 ?_
                                              refine lv_iconst (v := nI 1) hx hb dX5_cut_223 (by decide) ?_
                                              refine lv_isub hx hb dX5_cut_224 ?_
                                              refine bt_topi (y := nI (((ts.length + 1) + 1) - 1)) (pk_sub (by omega)) ?_
                                              refine lv_iload_n hx hb dX5_cut_225 rfl (lv_at hl 5 rfl) ?_
                                              refine lv_iconst (v := nI 1) hx hb dX5_cut_226 (by decide) ?_
                                              refine lv_iadd hx hb dX5_cut_227 ?_
                                              refine bt_topi (y := nI (i + 1)) (nI_add _ _) ?_
                                              refine va_iast hx hb hK hP hD hS 3 1 rfl rfl (vp_in_nI (by omega) (by omega)) dX5_cut_228 (fun H locs hP hD hS => ?_)
                                              rw [nI_clamp (by omega)] at hP hD
                                              have hP : va_P D vwCl [(mo, .inr (5, [.ref (Z 0), .int (v 0), .int (v 1), .ref (Z 1), .int (nI len), .ref (Z 2), .ref (Z 3), .int (nI ((ts.length + 1) + 1)), .int (v 3), .int (v 4), .ref (Z 4), .ref (Z 5), .ref (Z 6), .ref (Z 7), .ref (Z 8), .int (v 5), .int (v 6), .int (v 7)])), ((Z 1), .inl (cB, 16000, .inl gt)), ((Z 2), .inl (cI, 16002, .inl (upd gf (ts.length + 1) (nI i)))), ((Z 3), .inl (cI, 16002, .inl (upd go (((ts.length + 1) + 1) - 1) (nI (i + 1)))))] H := hP
                                              have hD : va_D A [(mo, .inr (5, [.ref (Z 0), .int (v 0), .int (v 1), .ref (Z 1), .int (nI len), .ref (Z 2), .ref (Z 3), .int (nI ((ts.length + 1) + 1)), .int (v 3), .int (v 4), .ref (Z 4), .ref (Z 5), .ref (Z 6), .ref (Z 7), .ref (Z 8), .int (v 5), .int (v 6), .int (v 7)])), ((Z 1), .inl (cB, 16000, .inl gt)), ((Z 2), .inl (cI, 16002, .inl (upd gf (ts.length + 1) (nI i)))), ((Z 3), .inl (cI, 16002, .inl (upd go (((ts.length + 1) + 1) - 1) (nI (i + 1)))))] := hD
                                              refine lv_iload hx hb dX5_cut_229 (lv_at hl 1 rfl) ?_
                                              refine lv_if_ne (tgt := 238) hx hb dX5_cut_231 (by decide) (fun c_231 => ?_) (fun c_231 => ?_)
                                              · clear c_231
                                                refine lv_iconst (v := nI 0) hx hb dX5_cut_238 (by decide) ?_
                                                refine lv_istore_n (lv' := [(1, .int (nI 0)), (6, .int (nI 1)), (5, .int (nI 0)), (0, .ref mo), (2, .int (bI rv)), (3, .int (nI i)), (4, .int (nI (BB i)))]) hx hb dX5_cut_239 rfl hl (by decide) rfl (fun ls hl => ?_)
                                                refine lv_iinc (v := nI (i + 1)) (lv' := [(3, .int (nI (i + 1))), (1, .int (nI 0)), (6, .int (nI 1)), (5, .int (nI 0)), (0, .ref mo), (2, .int (bI rv)), (4, .int (nI (BB i)))]) hx hb dX5_cut_240 hl (k := 5) rfl (nI_add i 1) (by decide) rfl (fun ls hl => ?_)
                                                refine lv_goto (tgt := 11) hx hb dX5_cut_243 (by decide) ?_
                                                have hP := hP.sub (ws' := [(mo, .inr (5, [.ref (Z 0), .int (v 0), .int (v 1), .ref (Z 1), .int (nI len), .ref (Z 2), .ref (Z 3), .int (nI ((ts.length + 1) + 1)), .int (v 3), .int (v 4), .ref (Z 4), .ref (Z 5), .ref (Z 6), .ref (Z 7), .ref (Z 8), .int (v 5), .int (v 6), .int (v 7)])), ((Z 1), .inl (cB, 16000, .inl gt)), ((Z 2), .inl (cI, 16002, .inl (upd gf (ts.length + 1) (nI i)))), ((Z 3), .inl (cI, 16002, .inl (upd go (((ts.length + 1) + 1) - 1) (nI (i + 1)))))]) [0, 1, 2, 3] rfl
                                                have hD := hD.sub (ws' := [(mo, .inr (5, [.ref (Z 0), .int (v 0), .int (v 1), .ref (Z 1), .int (nI len), .ref (Z 2), .ref (Z 3), .int (nI ((ts.length + 1) + 1)), .int (v 3), .int (v 4), .ref (Z 4), .ref (Z 5), .ref (Z 6), .ref (Z 7), .ref (Z 8), .int (v 5), .int (v 6), .int (v 7)])), ((Z 1), .inl (cB, 16000, .inl gt)), ((Z 2), .inl (cI, 16002, .inl (upd gf (ts.length + 1) (nI i)))), ((Z 3), .inl (cI, 16002, .inl (upd go (((ts.length + 1) + 1) - 1) (nI (i + 1)))))]) [0, 1, 2, 3] (by decide) rfl
                                                have hP : va_P D vwCl [(mo, .inr (5, [.ref (Z 0), .int (v 0), .int (v 1), .ref (Z 1), .int (nI len), .ref (Z 2), .ref (Z 3), .int (nI ((ts.length + 1) + 1)), .int (v 3), .int (v 4), .ref (Z 4), .ref (Z 5), .ref (Z 6), .ref (Z 7), .ref (Z 8), .int (v 5), .int (v 6), .int (v 7)])), ((Z 1), .inl (cB, 16000, .inl gt)), ((Z 2), .inl (cI, 16002, .inl (upd gf (ts.length + 1) (nI i)))), ((Z 3), .inl (cI, 16002, .inl (upd go (ts.length + 1) (nI (i + 1)))))] H := hP
                                                have hD : va_D A [(mo, .inr (5, [.ref (Z 0), .int (v 0), .int (v 1), .ref (Z 1), .int (nI len), .ref (Z 2), .ref (Z 3), .int (nI ((ts.length + 1) + 1)), .int (v 3), .int (v 4), .ref (Z 4), .ref (Z 5), .ref (Z 6), .ref (Z 7), .ref (Z 8), .int (v 5), .int (v 6), .int (v 7)])), ((Z 1), .inl (cB, 16000, .inl gt)), ((Z 2), .inl (cI, 16002, .inl (upd gf (ts.length + 1) (nI i)))), ((Z 3), .inl (cI, 16002, .inl (upd go (ts.length + 1) (nI (i + 1)))))] := hD
                                                have hP : va_P D vwCl [(mo, .inr (5, [.ref (Z 0), .int (v 0), .int (v 1), .ref (Z 1), .int (nI len), .ref (Z 2), .ref (Z 3), .int (nI ((closeT ((ts ++ [(b0, i)]) ++ [(i, i + 1)]) none (i + 1)).length)), .int (v 3), .int (v 4), .ref (Z 4), .ref (Z 5), .ref (Z 6), .ref (Z 7), .ref (Z 8), .int (v 5), .int (v 6), .int (v 7)])), ((Z 1), .inl (cB, 16000, .inl gt)), ((Z 2), .inl (cI, 16002, .inl (upd gf (ts.length + 1) (nI i)))), ((Z 3), .inl (cI, 16002, .inl (upd go (ts.length + 1) (nI (i + 1)))))] H := by rw [cl_len]; simp only [len1, opn, Nat.add_zero]; exact hP
                                                have hD : va_D A [(mo, .inr (5, [.ref (Z 0), .int (v 0), .int (v 1), .ref (Z 1), .int (nI len), .ref (Z 2), .ref (Z 3), .int (nI ((closeT ((ts ++ [(b0, i)]) ++ [(i, i + 1)]) none (i + 1)).length)), .int (v 3), .int (v 4), .ref (Z 4), .ref (Z 5), .ref (Z 6), .ref (Z 7), .ref (Z 8), .int (v 5), .int (v 6), .int (v 7)])), ((Z 1), .inl (cB, 16000, .inl gt)), ((Z 2), .inl (cI, 16002, .inl (upd gf (ts.length + 1) (nI i)))), ((Z 3), .inl (cI, 16002, .inl (upd go (ts.length + 1) (nI (i + 1)))))] := by rw [cl_len]; simp only [len1, opn, Nat.add_zero]; exact hD
                                                exact ih (i + 1) ((ts ++ [(b0, i)]) ++ [(i, i + 1)]) none rv (upd gf (ts.length + 1) (nI i)) (upd go (ts.length + 1) (nI (i + 1))) H locs (by omega) (by omega) (fun j hj => by rcases Nat.lt_or_ge j i with q9 | q9; exact hal j q9; rw [show j = i by omega]; exact h_al) (scan_g hsc hrv (fun q => q.elim (fun q => by rw [bI_0 c_86] at q; cases q) (fun q => by unfold alP at h_al; omega)) (by rw [c_161]; decide)) (by simp only [len1, opn]; omega) ((by have h9 := rwR_add (x := i) (y := i + 1) hrw; rw [len1] at h9; exact h9)) hP hD hS ls (lv_sub hl [4, 1, 5, 0] rfl)
                                              · exact absurd c_231 (by decide)
                                          · exact absurd (by decide) c_185
                        · have c_114 : (BB i) = 32 := (nI_eq (a := (BB i)) (b := 32) (by omega) (by omega)).mp c_114
                          refine lv_iconst (v := nI 1) hx hb dX5_cut_117 (by decide) ?_
                          refine lv_goto (tgt := 122) hx hb dX5_cut_118 (by decide) ?_
                          refine lv_istore (lv' := [(5, .int (nI 1)), (0, .ref mo), (1, .int (nI 1)), (2, .int (bI rv)), (3, .int (nI i)), (4, .int (nI (BB i)))]) hx hb dX5_cut_122 hl (by decide) rfl (fun ls hl => ?_)
                          refine lv_iload hx hb dX5_cut_124 (lv_at hl 0 rfl) ?_
                          refine lv_if_ne (tgt := 168) hx hb dX5_cut_126 (by decide) (fun c_126 => ?_) (fun c_126 => ?_)
                          · clear c_126
                            refine lv_iconst (v := nI 0) hx hb dX5_cut_168 (by decide) ?_
                            refine lv_istore (lv' := [(6, .int (nI 0)), (5, .int (nI 1)), (0, .ref mo), (1, .int (nI 1)), (2, .int (bI rv)), (3, .int (nI i)), (4, .int (nI (BB i)))]) hx hb dX5_cut_169 hl (by decide) rfl (fun ls hl => ?_)
                            refine lv_iload hx hb dX5_cut_171 (lv_at hl 1 rfl) ?_
                            refine lv_if_ne (tgt := 181) hx hb dX5_cut_173 (by decide) (fun c_173 => ?_) (fun c_173 => ?_)
                            · clear c_173
                              refine lv_iconst (v := nI 0) hx hb dX5_cut_181 (by decide) ?_
                              refine lv_istore_n (lv' := [(1, .int (nI 0)), (6, .int (nI 0)), (5, .int (nI 1)), (0, .ref mo), (2, .int (bI rv)), (3, .int (nI i)), (4, .int (nI (BB i)))]) hx hb dX5_cut_182 rfl hl (by decide) rfl (fun ls hl => ?_)
                              refine lv_iload hx hb dX5_cut_183 (lv_at hl 2 rfl) ?_
                              refine lv_if_eq (tgt := 191) hx hb dX5_cut_185 (by decide) (fun c_185 => ?_) (fun c_185 => ?_)
                              · exact absurd c_185 (by decide)
                              · clear c_185
                                refine lv_goto (tgt := 240) hx hb dX5_cut_188 (by decide) ?_
                                refine lv_iinc (v := nI (i + 1)) (lv' := [(3, .int (nI (i + 1))), (1, .int (nI 0)), (6, .int (nI 0)), (5, .int (nI 1)), (0, .ref mo), (2, .int (bI rv)), (4, .int (nI (BB i)))]) hx hb dX5_cut_240 hl (k := 5) rfl (nI_add i 1) (by decide) rfl (fun ls hl => ?_)
                                refine lv_goto (tgt := 11) hx hb dX5_cut_243 (by decide) ?_
                                have hP := hP.sub (ws' := [(mo, .inr (5, [.ref (Z 0), .int (v 0), .int (v 1), .ref (Z 1), .int (nI len), .ref (Z 2), .ref (Z 3), .int (nI (ts.length + 1)), .int (v 3), .int (v 4), .ref (Z 4), .ref (Z 5), .ref (Z 6), .ref (Z 7), .ref (Z 8), .int (v 5), .int (v 6), .int (v 7)])), ((Z 1), .inl (cB, 16000, .inl gt)), ((Z 2), .inl (cI, 16002, .inl gf)), ((Z 3), .inl (cI, 16002, .inl go))]) [0, 1, 2, 3] rfl
                                have hD := hD.sub (ws' := [(mo, .inr (5, [.ref (Z 0), .int (v 0), .int (v 1), .ref (Z 1), .int (nI len), .ref (Z 2), .ref (Z 3), .int (nI (ts.length + 1)), .int (v 3), .int (v 4), .ref (Z 4), .ref (Z 5), .ref (Z 6), .ref (Z 7), .ref (Z 8), .int (v 5), .int (v 6), .int (v 7)])), ((Z 1), .inl (cB, 16000, .inl gt)), ((Z 2), .inl (cI, 16002, .inl gf)), ((Z 3), .inl (cI, 16002, .inl go))]) [0, 1, 2, 3] (by decide) rfl
                                have hP : va_P D vwCl [(mo, .inr (5, [.ref (Z 0), .int (v 0), .int (v 1), .ref (Z 1), .int (nI len), .ref (Z 2), .ref (Z 3), .int (nI (ts.length + 1)), .int (v 3), .int (v 4), .ref (Z 4), .ref (Z 5), .ref (Z 6), .ref (Z 7), .ref (Z 8), .int (v 5), .int (v 6), .int (v 7)])), ((Z 1), .inl (cB, 16000, .inl gt)), ((Z 2), .inl (cI, 16002, .inl gf)), ((Z 3), .inl (cI, 16002, .inl go))] H := hP
                                have hD : va_D A [(mo, .inr (5, [.ref (Z 0), .int (v 0), .int (v 1), .ref (Z 1), .int (nI len), .ref (Z 2), .ref (Z 3), .int (nI (ts.length + 1)), .int (v 3), .int (v 4), .ref (Z 4), .ref (Z 5), .ref (Z 6), .ref (Z 7), .ref (Z 8), .int (v 5), .int (v 6), .int (v 7)])), ((Z 1), .inl (cB, 16000, .inl gt)), ((Z 2), .inl (cI, 16002, .inl gf)), ((Z 3), .inl (cI, 16002, .inl go))] := hD
                                have hP : va_P D vwCl [(mo, .inr (5, [.ref (Z 0), .int (v 0), .int (v 1), .ref (Z 1), .int (nI len), .ref (Z 2), .ref (Z 3), .int (nI ((closeT (ts ++ [(b0, i)]) none (i + 1)).length)), .int (v 3), .int (v 4), .ref (Z 4), .ref (Z 5), .ref (Z 6), .ref (Z 7), .ref (Z 8), .int (v 5), .int (v 6), .int (v 7)])), ((Z 1), .inl (cB, 16000, .inl gt)), ((Z 2), .inl (cI, 16002, .inl gf)), ((Z 3), .inl (cI, 16002, .inl go))] H := by rw [cl_len]; simp only [len1, opn, Nat.add_zero]; exact hP
                                have hD : va_D A [(mo, .inr (5, [.ref (Z 0), .int (v 0), .int (v 1), .ref (Z 1), .int (nI len), .ref (Z 2), .ref (Z 3), .int (nI ((closeT (ts ++ [(b0, i)]) none (i + 1)).length)), .int (v 3), .int (v 4), .ref (Z 4), .ref (Z 5), .ref (Z 6), .ref (Z 7), .ref (Z 8), .int (v 5), .int (v 6), .int (v 7)])), ((Z 1), .inl (cB, 16000, .inl gt)), ((Z 2), .inl (cI, 16002, .inl gf)), ((Z 3), .inl (cI, 16002, .inl go))] := by rw [cl_len]; simp only [len1, opn, Nat.add_zero]; exact hD
                                exact ih (i + 1) (ts ++ [(b0, i)]) none rv gf go H locs (by omega) (by omega) (fun j hj => by rcases Nat.lt_or_ge j i with q9 | q9; exact hal j q9; rw [show j = i by omega]; exact h_al) (scan_b hsc hrv (Or.inr (by omega))) (by simp only [len1, opn]; omega) (hrw) hP hD hS ls (lv_sub hl [4, 1, 5, 0] rfl)
                            · exact absurd c_173 (by decide)
                          · exact absurd c_126 (by decide)
              refine lv_iload hx hb dX5_cut_64 (lv_at hl 4 rfl) ?_
              refine lv_bipush (v := nI 10) hx hb dX5_cut_66 (by decide) ?_
              refine lv_icmp_ne (tgt := 76) hx hb dX5_cut_68 (by decide) (fun c_68 => ?_) (fun c_68 => ?_)
              · have c_68 : ¬ ((BB i) = 10) := fun h9 => c_68 ((nI_eq (a := (BB i)) (b := 10) (by omega) (by omega)).mpr h9)
                refine lv_iload hx hb dX5_cut_76 (lv_at hl 4 rfl) ?_
                refine lv_bipush (v := nI 59) hx hb dX5_cut_78 (by decide) ?_
                refine lv_icmp_ne (tgt := 85) hx hb dX5_cut_80 (by decide) (fun c_80 => ?_) (fun c_80 => ?_)
                · have c_80 : ¬ ((BB i) = 59) := fun h9 => c_80 ((nI_eq (a := (BB i)) (b := 59) (by omega) (by omega)).mpr h9)
                  exact j_85 r (by unfold remT; rw [decide_eq_true c_68, decide_eq_false c_80]; simp) ls (lv_sub hl [0, 1, 2, 3, 4] rfl)
                · have c_80 : (BB i) = 59 := (nI_eq (a := (BB i)) (b := 59) (by omega) (by omega)).mp c_80
                  refine lv_iconst (v := nI 1) hx hb dX5_cut_83 (by decide) ?_
                  refine lv_istore_n (lv' := [(2, .int (nI 1)), (0, .ref mo), (1, .int (nI 1)), (3, .int (nI i)), (4, .int (nI (BB i)))]) hx hb dX5_cut_84 rfl hl (by decide) rfl (fun ls hl => ?_)
                  exact j_85 true (by unfold remT; rw [c_80]; simp) ls (lv_sub hl [1, 2, 0, 3, 4] rfl)
              · have c_68 : (BB i) = 10 := (nI_eq (a := (BB i)) (b := 10) (by omega) (by omega)).mp c_68
                refine lv_iconst (v := nI 0) hx hb dX5_cut_71 (by decide) ?_
                refine lv_istore_n (lv' := [(2, .int (nI 0)), (0, .ref mo), (1, .int (nI 1)), (3, .int (nI i)), (4, .int (nI (BB i)))]) hx hb dX5_cut_72 rfl hl (by decide) rfl (fun ls hl => ?_)
                refine lv_goto (tgt := 85) hx hb dX5_cut_73 (by decide) ?_
                exact j_85 false (by unfold remT; rw [c_68]; rfl) ls (lv_sub hl [1, 2, 0, 3, 4] rfl)
            refine lv_iload hx hb dX5_cut_27 (lv_at hl 0 rfl) ?_
            refine lv_bipush (v := nI 9) hx hb dX5_cut_29 (by decide) ?_
            refine lv_icmp_eq (tgt := 64) hx hb dX5_cut_31 (by decide) (fun c_31 => ?_) (fun c_31 => ?_)
            · have c_31 : (BB i) = 9 := (nI_eq (a := (BB i)) (b := 9) (by omega) (by omega)).mp c_31
              exact j_64  (by unfold alP; omega) ls (lv_sub hl [1, 2, 3, 4, 0] rfl)
            · have c_31 : ¬ ((BB i) = 9) := fun h9 => c_31 ((nI_eq (a := (BB i)) (b := 9) (by omega) (by omega)).mpr h9)
              refine lv_iload hx hb dX5_cut_34 (lv_at hl 0 rfl) ?_
              refine lv_bipush (v := nI 10) hx hb dX5_cut_36 (by decide) ?_
              refine lv_icmp_eq (tgt := 64) hx hb dX5_cut_38 (by decide) (fun c_38 => ?_) (fun c_38 => ?_)
              · have c_38 : (BB i) = 10 := (nI_eq (a := (BB i)) (b := 10) (by omega) (by omega)).mp c_38
                exact j_64  (by unfold alP; omega) ls (lv_sub hl [1, 2, 3, 4, 0] rfl)
              · have c_38 : ¬ ((BB i) = 10) := fun h9 => c_38 ((nI_eq (a := (BB i)) (b := 10) (by omega) (by omega)).mpr h9)
                refine lv_iload hx hb dX5_cut_41 (lv_at hl 0 rfl) ?_
                refine lv_bipush (v := nI 13) hx hb dX5_cut_43 (by decide) ?_
                refine lv_icmp_eq (tgt := 64) hx hb dX5_cut_45 (by decide) (fun c_45 => ?_) (fun c_45 => ?_)
                · have c_45 : (BB i) = 13 := (nI_eq (a := (BB i)) (b := 13) (by omega) (by omega)).mp c_45
                  exact j_64  (by unfold alP; omega) ls (lv_sub hl [1, 2, 3, 4, 0] rfl)
                · have c_45 : ¬ ((BB i) = 13) := fun h9 => c_45 ((nI_eq (a := (BB i)) (b := 13) (by omega) (by omega)).mpr h9)
                  refine lv_iload hx hb dX5_cut_48 (lv_at hl 0 rfl) ?_
                  refine lv_bipush (v := nI 32) hx hb dX5_cut_50 (by decide) ?_
                  refine lv_icmp_lt (tgt := 62) hx hb dX5_cut_52 (by decide) (fun c_52 => ?_) (fun c_52 => ?_)
                  · have c_52 : (BB i) < 32 := (nI_ltI (a := (BB i)) (b := 32) (by omega) (by omega)).mp c_52
                    refine lv_iconst (v := nI 0) hx hb dX5_cut_62 (by decide) ?_
                    have hbad : ¬ alP (BB i) := by unfold alP; omega
                    have hci : cutI BB len = i := cutI_bad (by omega) hal hbad
                    have hcd : cutD BB len = (ts ++ [(b0, i)]) := cutD_at hsc hci
                    have hP := hP.sub (ws' := [(mo, .inr (5, [.ref (Z 0), .int (v 0), .int (v 1), .ref (Z 1), .int (nI len), .ref (Z 2), .ref (Z 3), .int (nI (ts.length + 1)), .int (v 3), .int (v 4), .ref (Z 4), .ref (Z 5), .ref (Z 6), .ref (Z 7), .ref (Z 8), .int (v 5), .int (v 6), .int (v 7)])), ((Z 1), .inl (cB, 16000, .inl gt)), ((Z 2), .inl (cI, 16002, .inl gf)), ((Z 3), .inl (cI, 16002, .inl go))]) [0, 1, 2, 3] rfl
                    have hD := hD.sub (ws' := [(mo, .inr (5, [.ref (Z 0), .int (v 0), .int (v 1), .ref (Z 1), .int (nI len), .ref (Z 2), .ref (Z 3), .int (nI (ts.length + 1)), .int (v 3), .int (v 4), .ref (Z 4), .ref (Z 5), .ref (Z 6), .ref (Z 7), .ref (Z 8), .int (v 5), .int (v 6), .int (v 7)])), ((Z 1), .inl (cB, 16000, .inl gt)), ((Z 2), .inl (cI, 16002, .inl gf)), ((Z 3), .inl (cI, 16002, .inl go))]) [0, 1, 2, 3] (by decide) rfl
                    have hP : va_P D vwCl [(mo, .inr (5, [.ref (Z 0), .int (v 0), .int (v 1), .ref (Z 1), .int (nI len), .ref (Z 2), .ref (Z 3), .int (nI ((cutD BB len).length)), .int (v 3), .int (v 4), .ref (Z 4), .ref (Z 5), .ref (Z 6), .ref (Z 7), .ref (Z 8), .int (v 5), .int (v 6), .int (v 7)])), ((Z 1), .inl (cB, 16000, .inl gt)), ((Z 2), .inl (cI, 16002, .inl gf)), ((Z 3), .inl (cI, 16002, .inl go))] H := by rw [hcd, len1]; exact hP
                    have hD : va_D A [(mo, .inr (5, [.ref (Z 0), .int (v 0), .int (v 1), .ref (Z 1), .int (nI len), .ref (Z 2), .ref (Z 3), .int (nI ((cutD BB len).length)), .int (v 3), .int (v 4), .ref (Z 4), .ref (Z 5), .ref (Z 6), .ref (Z 7), .ref (Z 8), .int (v 5), .int (v 6), .int (v 7)])), ((Z 1), .inl (cB, 16000, .inl gt)), ((Z 2), .inl (cI, 16002, .inl gf)), ((Z 3), .inl (cI, 16002, .inl go))] := by rw [hcd, len1]; exact hD
                    rw [hQ]
                    have hP9 := hP.sub (ws' := [(mo, .inr (5, [.ref (Z 0), .int (v 0), .int (v 1), .ref (Z 1), .int (nI len), .ref (Z 2), .ref (Z 3), .int (nI ((cutD BB len).length)), .int (v 3), .int (v 4), .ref (Z 4), .ref (Z 5), .ref (Z 6), .ref (Z 7), .ref (Z 8), .int (v 5), .int (v 6), .int (v 7)])), ((Z 1), .inl (cB, 16000, .inl gt)), ((Z 2), .inl (cI, 16002, .inl gf)), ((Z 3), .inl (cI, 16002, .inl go))]) [0, 1, 2, 3] rfl
                    have hD9 := hD.sub (ws' := [(mo, .inr (5, [.ref (Z 0), .int (v 0), .int (v 1), .ref (Z 1), .int (nI len), .ref (Z 2), .ref (Z 3), .int (nI ((cutD BB len).length)), .int (v 3), .int (v 4), .ref (Z 4), .ref (Z 5), .ref (Z 6), .ref (Z 7), .ref (Z 8), .int (v 5), .int (v 6), .int (v 7)])), ((Z 1), .inl (cB, 16000, .inl gt)), ((Z 2), .inl (cI, 16002, .inl gf)), ((Z 3), .inl (cI, 16002, .inl go))]) [0, 1, 2, 3] (by decide) rfl
                    refine W.widen (k := 0) (n := 0) (show 0 ≤ 0 by omega) (show 0 ≤ 0 by omega) ?_
                    exact W.zret (v := nI 0) hx hb hr (by decide) (fun t9 ht hW => ⟨⟨nI 0, (gf, go), rfl, ⟨(Bt_f (by rw [hci]; omega)).symm, by rw [hcd]; exact hrw⟩, by rw [ht]; exact hP9, hD9⟩, hS.F ht⟩) hS.2.2 dX5_cut_63
                  · have c_52 : ¬ ((BB i) < 32) := fun h9 => c_52 ((nI_ltI (a := (BB i)) (b := 32) (by omega) (by omega)).mpr h9)
                    refine lv_iload hx hb dX5_cut_55 (lv_at hl 0 rfl) ?_
                    refine lv_bipush (v := nI 126) hx hb dX5_cut_57 (by decide) ?_
                    refine lv_icmp_le (tgt := 64) hx hb dX5_cut_59 (by decide) (fun c_59 => ?_) (fun c_59 => ?_)
                    · have c_59 : (BB i) ≤ 126 := (nI_leI (a := (BB i)) (b := 126) (by omega) (by omega)).mp c_59
                      exact j_64  (by unfold alP; omega) ls (lv_sub hl [1, 2, 3, 4, 0] rfl)
                    · have c_59 : ¬ ((BB i) ≤ 126) := fun h9 => c_59 ((nI_leI (a := (BB i)) (b := 126) (by omega) (by omega)).mpr h9)
                      refine lv_iconst (v := nI 0) hx hb dX5_cut_62 (by decide) ?_
                      have hbad : ¬ alP (BB i) := by unfold alP; omega
                      have hci : cutI BB len = i := cutI_bad (by omega) hal hbad
                      have hcd : cutD BB len = (ts ++ [(b0, i)]) := cutD_at hsc hci
                      have hP := hP.sub (ws' := [(mo, .inr (5, [.ref (Z 0), .int (v 0), .int (v 1), .ref (Z 1), .int (nI len), .ref (Z 2), .ref (Z 3), .int (nI (ts.length + 1)), .int (v 3), .int (v 4), .ref (Z 4), .ref (Z 5), .ref (Z 6), .ref (Z 7), .ref (Z 8), .int (v 5), .int (v 6), .int (v 7)])), ((Z 1), .inl (cB, 16000, .inl gt)), ((Z 2), .inl (cI, 16002, .inl gf)), ((Z 3), .inl (cI, 16002, .inl go))]) [0, 1, 2, 3] rfl
                      have hD := hD.sub (ws' := [(mo, .inr (5, [.ref (Z 0), .int (v 0), .int (v 1), .ref (Z 1), .int (nI len), .ref (Z 2), .ref (Z 3), .int (nI (ts.length + 1)), .int (v 3), .int (v 4), .ref (Z 4), .ref (Z 5), .ref (Z 6), .ref (Z 7), .ref (Z 8), .int (v 5), .int (v 6), .int (v 7)])), ((Z 1), .inl (cB, 16000, .inl gt)), ((Z 2), .inl (cI, 16002, .inl gf)), ((Z 3), .inl (cI, 16002, .inl go))]) [0, 1, 2, 3] (by decide) rfl
                      have hP : va_P D vwCl [(mo, .inr (5, [.ref (Z 0), .int (v 0), .int (v 1), .ref (Z 1), .int (nI len), .ref (Z 2), .ref (Z 3), .int (nI ((cutD BB len).length)), .int (v 3), .int (v 4), .ref (Z 4), .ref (Z 5), .ref (Z 6), .ref (Z 7), .ref (Z 8), .int (v 5), .int (v 6), .int (v 7)])), ((Z 1), .inl (cB, 16000, .inl gt)), ((Z 2), .inl (cI, 16002, .inl gf)), ((Z 3), .inl (cI, 16002, .inl go))] H := by rw [hcd, len1]; exact hP
                      have hD : va_D A [(mo, .inr (5, [.ref (Z 0), .int (v 0), .int (v 1), .ref (Z 1), .int (nI len), .ref (Z 2), .ref (Z 3), .int (nI ((cutD BB len).length)), .int (v 3), .int (v 4), .ref (Z 4), .ref (Z 5), .ref (Z 6), .ref (Z 7), .ref (Z 8), .int (v 5), .int (v 6), .int (v 7)])), ((Z 1), .inl (cB, 16000, .inl gt)), ((Z 2), .inl (cI, 16002, .inl gf)), ((Z 3), .inl (cI, 16002, .inl go))] := by rw [hcd, len1]; exact hD
                      rw [hQ]
                      have hP9 := hP.sub (ws' := [(mo, .inr (5, [.ref (Z 0), .int (v 0), .int (v 1), .ref (Z 1), .int (nI len), .ref (Z 2), .ref (Z 3), .int (nI ((cutD BB len).length)), .int (v 3), .int (v 4), .ref (Z 4), .ref (Z 5), .ref (Z 6), .ref (Z 7), .ref (Z 8), .int (v 5), .int (v 6), .int (v 7)])), ((Z 1), .inl (cB, 16000, .inl gt)), ((Z 2), .inl (cI, 16002, .inl gf)), ((Z 3), .inl (cI, 16002, .inl go))]) [0, 1, 2, 3] rfl
                      have hD9 := hD.sub (ws' := [(mo, .inr (5, [.ref (Z 0), .int (v 0), .int (v 1), .ref (Z 1), .int (nI len), .ref (Z 2), .ref (Z 3), .int (nI ((cutD BB len).length)), .int (v 3), .int (v 4), .ref (Z 4), .ref (Z 5), .ref (Z 6), .ref (Z 7), .ref (Z 8), .int (v 5), .int (v 6), .int (v 7)])), ((Z 1), .inl (cB, 16000, .inl gt)), ((Z 2), .inl (cI, 16002, .inl gf)), ((Z 3), .inl (cI, 16002, .inl go))]) [0, 1, 2, 3] (by decide) rfl
                      refine W.widen (k := 0) (n := 0) (show 0 ≤ 0 by omega) (show 0 ≤ 0 by omega) ?_
                      exact W.zret (v := nI 0) hx hb hr (by decide) (fun t9 ht hW => ⟨⟨nI 0, (gf, go), rfl, ⟨(Bt_f (by rw [hci]; omega)).symm, by rw [hcd]; exact hrw⟩, by rw [ht]; exact hP9, hD9⟩, hS.F ht⟩) hS.2.2 dX5_cut_63
          · have hgt := (htx i (by omega)).2 h128
            refine lv_istore (lv' := [(4, .int (gt i)), (0, .ref mo), (1, .int (nI 1)), (2, .int (bI r)), (3, .int (nI i))]) hx hb dX5_cut_25 hl (by decide) rfl (fun ls hl => ?_)
            refine lv_iload hx hb dX5_cut_27 (lv_at hl 0 rfl) ?_
            refine lv_bipush (v := nI 9) hx hb dX5_cut_29 (by decide) ?_
            refine lv_icmp_eq (tgt := 64) hx hb dX5_cut_31 (by decide) (fun c_31 => ?_) (fun c_31 => ?_)
            · exact absurd (c_31 ▸ hgt) (by decide)
            · refine lv_iload hx hb dX5_cut_34 (lv_at hl 0 rfl) ?_
              refine lv_bipush (v := nI 10) hx hb dX5_cut_36 (by decide) ?_
              refine lv_icmp_eq (tgt := 64) hx hb dX5_cut_38 (by decide) (fun c_38 => ?_) (fun c_38 => ?_)
              · exact absurd (c_38 ▸ hgt) (by decide)
              · refine lv_iload hx hb dX5_cut_41 (lv_at hl 0 rfl) ?_
                refine lv_bipush (v := nI 13) hx hb dX5_cut_43 (by decide) ?_
                refine lv_icmp_eq (tgt := 64) hx hb dX5_cut_45 (by decide) (fun c_45 => ?_) (fun c_45 => ?_)
                · exact absurd (c_45 ▸ hgt) (by decide)
                · refine lv_iload hx hb dX5_cut_48 (lv_at hl 0 rfl) ?_
                  refine lv_bipush (v := nI 32) hx hb dX5_cut_50 (by decide) ?_
                  refine lv_icmp_lt (tgt := 62) hx hb dX5_cut_52 (by decide) (fun c_52 => ?_) (fun c_52 => ?_)
                  · refine lv_iconst (v := nI 0) hx hb dX5_cut_62 (by decide) ?_
                    have hbad : ¬ alP (BB i) := by unfold alP; omega
                    have hci : cutI BB len = i := cutI_bad (by omega) hal hbad
                    have hcd : cutD BB len = (ts ++ [(b0, i)]) := cutD_at hsc hci
                    have hP := hP.sub (ws' := [(mo, .inr (5, [.ref (Z 0), .int (v 0), .int (v 1), .ref (Z 1), .int (nI len), .ref (Z 2), .ref (Z 3), .int (nI (ts.length + 1)), .int (v 3), .int (v 4), .ref (Z 4), .ref (Z 5), .ref (Z 6), .ref (Z 7), .ref (Z 8), .int (v 5), .int (v 6), .int (v 7)])), ((Z 1), .inl (cB, 16000, .inl gt)), ((Z 2), .inl (cI, 16002, .inl gf)), ((Z 3), .inl (cI, 16002, .inl go))]) [0, 1, 2, 3] rfl
                    have hD := hD.sub (ws' := [(mo, .inr (5, [.ref (Z 0), .int (v 0), .int (v 1), .ref (Z 1), .int (nI len), .ref (Z 2), .ref (Z 3), .int (nI (ts.length + 1)), .int (v 3), .int (v 4), .ref (Z 4), .ref (Z 5), .ref (Z 6), .ref (Z 7), .ref (Z 8), .int (v 5), .int (v 6), .int (v 7)])), ((Z 1), .inl (cB, 16000, .inl gt)), ((Z 2), .inl (cI, 16002, .inl gf)), ((Z 3), .inl (cI, 16002, .inl go))]) [0, 1, 2, 3] (by decide) rfl
                    have hP : va_P D vwCl [(mo, .inr (5, [.ref (Z 0), .int (v 0), .int (v 1), .ref (Z 1), .int (nI len), .ref (Z 2), .ref (Z 3), .int (nI ((cutD BB len).length)), .int (v 3), .int (v 4), .ref (Z 4), .ref (Z 5), .ref (Z 6), .ref (Z 7), .ref (Z 8), .int (v 5), .int (v 6), .int (v 7)])), ((Z 1), .inl (cB, 16000, .inl gt)), ((Z 2), .inl (cI, 16002, .inl gf)), ((Z 3), .inl (cI, 16002, .inl go))] H := by rw [hcd, len1]; exact hP
                    have hD : va_D A [(mo, .inr (5, [.ref (Z 0), .int (v 0), .int (v 1), .ref (Z 1), .int (nI len), .ref (Z 2), .ref (Z 3), .int (nI ((cutD BB len).length)), .int (v 3), .int (v 4), .ref (Z 4), .ref (Z 5), .ref (Z 6), .ref (Z 7), .ref (Z 8), .int (v 5), .int (v 6), .int (v 7)])), ((Z 1), .inl (cB, 16000, .inl gt)), ((Z 2), .inl (cI, 16002, .inl gf)), ((Z 3), .inl (cI, 16002, .inl go))] := by rw [hcd, len1]; exact hD
                    rw [hQ]
                    have hP9 := hP.sub (ws' := [(mo, .inr (5, [.ref (Z 0), .int (v 0), .int (v 1), .ref (Z 1), .int (nI len), .ref (Z 2), .ref (Z 3), .int (nI ((cutD BB len).length)), .int (v 3), .int (v 4), .ref (Z 4), .ref (Z 5), .ref (Z 6), .ref (Z 7), .ref (Z 8), .int (v 5), .int (v 6), .int (v 7)])), ((Z 1), .inl (cB, 16000, .inl gt)), ((Z 2), .inl (cI, 16002, .inl gf)), ((Z 3), .inl (cI, 16002, .inl go))]) [0, 1, 2, 3] rfl
                    have hD9 := hD.sub (ws' := [(mo, .inr (5, [.ref (Z 0), .int (v 0), .int (v 1), .ref (Z 1), .int (nI len), .ref (Z 2), .ref (Z 3), .int (nI ((cutD BB len).length)), .int (v 3), .int (v 4), .ref (Z 4), .ref (Z 5), .ref (Z 6), .ref (Z 7), .ref (Z 8), .int (v 5), .int (v 6), .int (v 7)])), ((Z 1), .inl (cB, 16000, .inl gt)), ((Z 2), .inl (cI, 16002, .inl gf)), ((Z 3), .inl (cI, 16002, .inl go))]) [0, 1, 2, 3] (by decide) rfl
                    refine W.widen (k := 0) (n := 0) (show 0 ≤ 0 by omega) (show 0 ≤ 0 by omega) ?_
                    exact W.zret (v := nI 0) hx hb hr (by decide) (fun t9 ht hW => ⟨⟨nI 0, (gf, go), rfl, ⟨(Bt_f (by rw [hci]; omega)).symm, by rw [hcd]; exact hrw⟩, by rw [ht]; exact hP9, hD9⟩, hS.F ht⟩) hS.2.2 dX5_cut_63
                  · exact absurd (Int32.lt_trans hgt (by decide)) c_52
  exact loop_11 (len + 1) 0 [] none false gf go H locs (by omega) (by omega) (fun j hj => by omega) rfl (by decide) (fun j p h => by simp [closeT] at h) hP hD hS ls (lv_sub hl [3, 2, 1, 0] rfl)
