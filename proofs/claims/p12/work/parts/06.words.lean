theorem WdP.iff {B : Nat → Nat} {s e : Nat} {w : List Nat} : WdP B s e w ↔ e = s + w.length ∧ ∀ j, j < w.length → B (s + j) = w.getD j 0 := Iff.rfl
/-- the place of the word in a list of words, counted from k -/
noncomputable def ixW (B : Nat → Nat) (s e : Nat) : List (List Nat) → Nat → Int32
  | [], _ => -1
  | w :: r, k => @ite _ (WdP B s e w) (Classical.propDecidable _) (nI k) (ixW B s e r (k + 1))
theorem ixW_t {B : Nat → Nat} {s e k : Nat} {w : List Nat} {r : List (List Nat)} (h : WdP B s e w) : ixW B s e (w :: r) k = nI k := by rw [ixW]; exact if_pos h
theorem ixW_f {B : Nat → Nat} {s e k : Nat} {w : List Nat} {r : List (List Nat)} (h : ¬ WdP B s e w) : ixW B s e (w :: r) k = ixW B s e r (k + 1) := by rw [ixW]; exact if_neg h
theorem fl_at {cs w t : List Nat} {a : Nat} (h : cs.drop a = w ++ 32 :: t) : (∀ j, j < w.length → cs.getD (a + j) 0 = w.getD j 0) ∧ cs.getD (a + w.length) 0 = 32 ∧ cs.drop (a + w.length + 1) = t ∧ a + w.length < cs.length := by
  have hg : ∀ j, cs[a + j]? = (w ++ 32 :: t)[j]? := fun j => by rw [← h, List.getElem?_drop]
  have hlen : cs.length - a = w.length + (t.length + 1) := by
    have := congrArg List.length h
    simpa using this
  refine ⟨fun j hj => ?_, ?_, ?_, by omega⟩
  · rw [List.getD_eq_getElem?_getD, hg j, List.getElem?_append_left hj, ← List.getD_eq_getElem?_getD]
  · rw [List.getD_eq_getElem?_getD, hg w.length, List.getElem?_append_right (Nat.le_refl _)]
    simp
  · have h2 : (cs.drop a).drop (w.length + 1) = t := by
      rw [h, List.drop_append]
      simp
    rw [← h2, List.drop_drop]
    congr 1
theorem fl_nil {cs : List Nat} {a : Nat} (h : cs.drop a = []) : cs.length ≤ a := List.drop_eq_nil_iff.mp h
set_option maxHeartbeats 4000000 in
set_option maxRecDepth 100000 in
/-- Tokens.isPart -/
theorem kX3_isPart (l : Launch) (D : va_G) (cB cI : ClassId) (t : Nat) (r1 r2 r3 r4 : Nat) (wd : Int32) (tx r0 q0 len k0 n0 : Nat) (f0 : Nat → Int32) (cs : List Nat) (aK aV : Nat) (ls0 le0 b0 e0 : Nat) (wrd : List Nat) (hlen : len ≤ 4 * n0) (hn0 : n0 ≤ 16000) (hok : bt_ok cs) (hcl : cs.length ≤ 10000) (hls : ls0 ≤ le0) (hle : le0 ≤ cs.length) (hb0 : b0 ≤ e0) (he0 : e0 ≤ len) (hwl : wrd.length = le0 - ls0) (hws : ∀ j, j < le0 - ls0 → cs.getD (ls0 + j) 0 = wrd.getD j 0) : Met l yX3_isPart wsX3_isPart ({ frames := 4, cells := 0, slots := 0, locals := 85 }) (va_Pc [.ref t, .ref aK, .int (nI ls0), .int (nI le0), .int (nI b0), .int (nI e0)] (bt_RT D cB cI [(t, .inr (3, [.ref tx, .ref r1, .ref r2, .ref r3, .ref r4, .int wd])), (tx, .inr (2, [.ref r0, .int (nI len)])), (r0, .inr (1, [.ref q0, .int (nI k0)])), (q0, .inl (cI, n0, .inl f0))] cs aK aV)) (vp_Si (fun r => r = Bt (WdP (bY f0) b0 e0 wrd))) 0 0 (fun _ => False) := by
  refine Met.ofW (cc := cX3_isPart) (maxL := 7) (ret := (some .boolean)) (by decide) rfl ?_
  intro p e s m args below meth c s₁ B hml hv
  obtain ⟨rfl, ⟨hP, hK, hN⟩, hT, hJ⟩ := hv
  have hx := B.exec
  have hb := B.bytes
  have hr := B.returns
  have hts := atoms_spec (ws := wsX3_isPart) B.pre
  have hown : s.vm.findClass RX3 = some m.cls := findClass_of_methodNamed B.named
  have hlocks := B.notSynchronized
  have hl := lv_entry ([.ref t, .ref aK, .int (nI ls0), .int (nI le0), .int (nI b0), .int (nI e0)]) (n := 7) (Nat.le_of_ble_eq_true rfl)
  rw [lg_entry_eq]
  generalize (lg_sl ([.ref t, .ref aK, .int (nI ls0), .int (nI le0), .int (nI b0), .int (nI e0)]) ++ List.replicate (7 - (lg_sl ([.ref t, .ref aK, .int (nI ls0), .int (nI le0), .int (nI b0), .int (nI e0)])).length) Slot.unset).toArray = ls at hl ⊢
  have hl : lv_has ls 7 [(0, .ref t), (1, .ref aK), (2, .int (nI ls0)), (3, .int (nI le0)), (4, .int (nI b0)), (5, .int (nI e0))] := hl
  have hS : va_S (fun _ => False) s.heap s.heap [] := va_S.rf
  refine bt_genQ (fun Q hQ => ?_)
  refine lv_iload_n hx hb dX3_isPart_0 rfl (lv_at hl 2 rfl) ?_
  refine lv_if_lt (tgt := 23) hx hb dX3_isPart_1 (by decide) (fun c_1 => ?_) (fun c_1 => ?_)
  · have c_1 : ls0 < 0 := (nI_ltI (by omega) (by omega)).mp c_1
    exfalso; omega
  · have c_1 : ¬ (ls0 < 0) := fun h9 => c_1 ((nI_ltI (by omega) (by omega)).mpr h9)
    refine lv_iload_n hx hb dX3_isPart_4 rfl (lv_at hl 3 rfl) ?_
    refine lv_aload_n hx hb dX3_isPart_5 rfl (lv_at hl 1 rfl) ?_
    refine vp_callSi (va_runV (As := []) (rest := [.int (nI le0)]) ⟨hx, hb, hml, hown, hts⟩ (kJ0_length_8abf5 l cs aK aV hok.1) (cwV 0 hts gX3_isPart_J0_length_8abf5 rfl rfl rfl (by decide +kernel) ⟨Nat.le_of_ble_eq_true rfl, Nat.le_of_ble_eq_true rfl⟩) ⟨fun a U g mk q => ⟨q.1, q.2.calling⟩, bt_Tr hT, fun U hU hW => ⟨rfl, bt_TJ.of hU hW hT hJ⟩⟩ rfl rfl hl.1 rfl (lv_room (Nat.le_of_ble_eq_true rfl)) dX3_isPart_6 ⟨Nat.zero_le _, Nat.zero_le _⟩).run (fun r_6 hr_6 => ?_)
    subst hr_6
    refine lv_icmp_gt (tgt := 23) hx hb dX3_isPart_9 (by decide) (fun c_9 => ?_) (fun c_9 => ?_)
    · have c_9 : cs.length < le0 := (nI_ltI (by omega) (by omega)).mp c_9
      exfalso; omega
    · have c_9 : ¬ (cs.length < le0) := fun h9 => c_9 ((nI_ltI (by omega) (by omega)).mpr h9)
      refine lv_iload_n hx hb dX3_isPart_12 rfl (lv_at hl 3 rfl) ?_
      refine lv_iload_n hx hb dX3_isPart_13 rfl (lv_at hl 2 rfl) ?_
      refine lv_isub hx hb dX3_isPart_14 ?_
      refine bt_topi (y := nI (le0 - ls0)) (pk_sub (by omega)) ?_
      refine lv_iload hx hb dX3_isPart_15 (lv_at hl 5 rfl) ?_
      refine lv_iload hx hb dX3_isPart_17 (lv_at hl 4 rfl) ?_
      refine lv_isub hx hb dX3_isPart_19 ?_
      refine bt_topi (y := nI (e0 - b0)) (pk_sub (by omega)) ?_
      refine lv_icmp_eq (tgt := 25) hx hb dX3_isPart_20 (by decide) (fun c_20 => ?_) (fun c_20 => ?_)
      · have c_20 : le0 - ls0 = e0 - b0 := (nI_eq (by omega) (by omega)).mp c_20
        refine lv_iload_n hx hb dX3_isPart_25 rfl (lv_at hl 2 rfl) ?_
        refine lv_istore (lv' := [(6, .int (nI ls0)), (0, .ref t), (1, .ref aK), (2, .int (nI ls0)), (3, .int (nI le0)), (4, .int (nI b0)), (5, .int (nI e0))]) hx hb dX3_isPart_26 hl (by decide) rfl (fun ls hl => ?_)
        have loop_28 : ∀ (fu : Nat) (i : Nat), (le0 + 1 ≤ i + fu) → (ls0 ≤ i) → (i ≤ le0) → (∀ j, ls0 + j < i → bY f0 (b0 + j) = cs.getD (ls0 + j) 0) → ∀ (ls : Array Slot), lv_has ls 7 [(0, .ref t), (1, .ref aK), (2, .int (nI ls0)), (3, .int (nI le0)), (4, .int (nI b0)), (6, .int (nI i))] → W p l e ({ frames := 4, cells := 0, slots := 0, locals := 85 } : Room) s m ([.ref t, .ref aK, .int (nI ls0), .int (nI le0), .int (nI b0), .int (nI e0)] : List Value).toArray below meth c s.heap [] 0 0 Q (F0 m 28 ls []) := by
          intro fu
          induction fu with
          | zero => intro i hm hi1 hi2 hin ls hl; exfalso; omega
          | succ fu ih =>
            intro i hm hi1 hi2 hin ls hl
            have hch := hok.2 i
            refine lv_iload hx hb dX3_isPart_28 (lv_at hl 5 rfl) ?_
            refine lv_iload_n hx hb dX3_isPart_30 rfl (lv_at hl 3 rfl) ?_
            refine lv_icmp_ge (tgt := 65) hx hb dX3_isPart_31 (by decide) (fun c_31 => ?_) (fun c_31 => ?_)
            · have c_31 : le0 ≤ i := (nI_leI (by omega) (by omega)).mp c_31
              refine lv_iconst (v := nI 1) hx hb dX3_isPart_65 (by decide) ?_
              rw [hQ]
              exact W.zret (v := nI 1) hx hb hr (by decide) (fun t ht hW => ⟨nI 1, rfl, (Bt_t ⟨by omega, fun j hj => by rw [hin j (by omega)]; exact (hws j (by omega))⟩).symm, ht⟩) (fun _ h => by cases h) dX3_isPart_66
            · have c_31 : ¬ (le0 ≤ i) := fun h9 => c_31 ((nI_leI (by omega) (by omega)).mpr h9)
              refine lv_aload_n hx hb dX3_isPart_34 rfl (lv_at hl 1 rfl) ?_
              refine lv_iload hx hb dX3_isPart_35 (lv_at hl 5 rfl) ?_
              refine vp_callSi (va_runV (As := [.int (nI i)]) (rest := []) ⟨hx, hb, hml, hown, hts⟩ (kJ0_charAt_5068e l cs aK aV i (by omega) hok) (cwV 1 hts gX3_isPart_J0_charAt_5068e rfl rfl rfl (by decide +kernel) ⟨Nat.le_of_ble_eq_true rfl, Nat.le_of_ble_eq_true rfl⟩) ⟨fun a U g mk q => ⟨q.1, q.2.calling⟩, bt_Tr hT, fun U hU hW => ⟨rfl, bt_TJ.of hU hW hT hJ⟩⟩ rfl rfl hl.1 rfl (lv_room (Nat.le_of_ble_eq_true rfl)) dX3_isPart_37 ⟨Nat.zero_le _, Nat.zero_le _⟩).run (fun r_37 hr_37 => ?_)
              subst hr_37
              refine lv_aload_n hx hb dX3_isPart_40 rfl (lv_at hl 0 rfl) ?_
              refine va_get (D := D) (ci := 3) (v := .ref tx) (C := RX3) (T := TX3) (N := 6) hx hb hts (by decide +kernel) hown hK hP 0 rfl rfl 0 (by decide) (hts (.fieldLink RX3 31 "BodyText$Tokens" "text" "LBodyText$Text;") (by decide +kernel)) (fun _ h9 => h9) rfl dX3_isPart_41 ?_
              refine lv_iload hx hb dX3_isPart_44 (lv_at hl 4 rfl) ?_
              refine lv_iload hx hb dX3_isPart_46 (lv_at hl 5 rfl) ?_
              refine lv_iload_n hx hb dX3_isPart_48 rfl (lv_at hl 2 rfl) ?_
              refine lv_isub hx hb dX3_isPart_49 ?_
              refine bt_topi (y := nI (i - ls0)) (pk_sub (by omega)) ?_
              refine lv_iadd hx hb dX3_isPart_50 ?_
              refine bt_topi (y := nI (b0 + (i - ls0))) (nI_add _ _) ?_
              have hPc := hP.sub (ws' := [(tx, .inr (2, [.ref r0, .int (nI len)])), (r0, .inr (1, [.ref q0, .int (nI k0)])), (q0, .inl (cI, n0, .inl f0))]) [1, 2, 3] rfl
              refine vp_callSi (va_runV (As := [.int (nI (b0 + (i - ls0)))]) (rest := [.int (nI (cs.getD i 0))]) ⟨hx, hb, hml, hown, hts⟩ (kX2_at l D cB cI tx r0 q0 len k0 n0 f0 (b0 + (i - ls0)) hlen hn0 (by omega)) (cwV 1 hts gX3_isPart_X2_at rfl rfl rfl (by decide +kernel) ⟨Nat.le_of_ble_eq_true rfl, Nat.le_of_ble_eq_true rfl⟩) ⟨fun a U g mk q => ⟨q.1, q.2.calling⟩, va_recv hK hPc (ci := 2) (q0 := 0) rfl rfl, fun U hU hW => ⟨rfl, bt_R.of hU hW hPc hK hN⟩⟩ rfl rfl hl.1 rfl (lv_room (Nat.le_of_ble_eq_true rfl)) dX3_isPart_51 ⟨Nat.zero_le _, Nat.zero_le _⟩).run (fun r_51 hr_51 => ?_)
              subst hr_51
              have hb256 := bY_lt f0 (b0 + (i - ls0))
              refine lv_icmp_eq (tgt := 59) hx hb dX3_isPart_54 (by decide) (fun c_54 => ?_) (fun c_54 => ?_)
              · have c_54 : (cs.getD i 0) = (bY f0 (b0 + (i - ls0))) := (nI_eq (by omega) (by omega)).mp c_54
                refine lv_iinc (v := nI (i + 1)) (lv' := [(6, .int (nI (i + 1))), (0, .ref t), (1, .ref aK), (2, .int (nI ls0)), (3, .int (nI le0)), (4, .int (nI b0))]) hx hb dX3_isPart_59 hl (k := 5) rfl (nI_add i 1) (by decide) rfl (fun ls hl => ?_)
                refine lv_goto (tgt := 28) hx hb dX3_isPart_62 (by decide) ?_
                exact ih (i + 1) (by omega) (by omega) (by omega) (fun j hj => by rcases Nat.lt_or_ge (ls0 + j) i with q | q; exact hin j q; rw [show b0 + j = b0 + (i - ls0) by omega, show ls0 + j = i by omega]; exact c_54.symm) ls (lv_sub hl [1, 2, 3, 4, 5, 0] rfl)
              · have c_54 : ¬ ((cs.getD i 0) = (bY f0 (b0 + (i - ls0)))) := fun h9 => c_54 ((nI_eq (by omega) (by omega)).mpr h9)
                refine lv_iconst (v := nI 0) hx hb dX3_isPart_57 (by decide) ?_
                rw [hQ]
                exact W.zret (v := nI 0) hx hb hr (by decide) (fun t ht hW => ⟨nI 0, rfl, (Bt_f (fun h => c_54 (by rw [h.2 (i - ls0) (by omega), ← hws (i - ls0) (by omega), show ls0 + (i - ls0) = i by omega]))).symm, ht⟩) (fun _ h => by cases h) dX3_isPart_58
        exact loop_28 (le0 + 1) ls0 (by omega) (by omega) (by omega) (fun j hj => by omega) ls (lv_sub hl [1, 2, 3, 4, 5, 0] rfl)
      · have c_20 : ¬ (le0 - ls0 = e0 - b0) := fun h9 => c_20 ((nI_eq (by omega) (by omega)).mpr h9)
        refine lv_iconst (v := nI 0) hx hb dX3_isPart_23 (by decide) ?_
        rw [hQ]
        exact W.zret (v := nI 0) hx hb hr (by decide) (fun t ht hW => ⟨nI 0, rfl, (Bt_f (fun h => by have := h.1; omega)).symm, ht⟩) (fun _ h => by cases h) dX3_isPart_24
set_option maxHeartbeats 4000000 in
set_option maxRecDepth 100000 in
/-- Tokens.placeIn -/
theorem kX3_placeIn (l : Launch) (D : va_G) (cB cI : ClassId) (t : Nat) (r1 r2 r3 r4 : Nat) (wd : Int32) (tx r0 q0 len k0 n0 : Nat) (f0 : Nat → Int32) (cs : List Nat) (aK aV : Nat) (b0 e0 : Nat) (wrds : List (List Nat)) (hlen : len ≤ 4 * n0) (hn0 : n0 ≤ 16000) (hok : bt_ok cs) (hcl : cs.length ≤ 10000) (hb0 : b0 ≤ e0) (he0 : e0 ≤ len) (hcs : cs = flatW wrds) (hno : ∀ w, w ∈ wrds → ∀ j, j < w.length → w.getD j 0 ≠ 32) : Met l yX3_placeIn wsX3_placeIn ({ frames := 5, cells := 0, slots := 0, locals := 111 }) (va_Pc [.ref t, .ref aK, .int (nI b0), .int (nI e0)] (bt_RT D cB cI [(t, .inr (3, [.ref tx, .ref r1, .ref r2, .ref r3, .ref r4, .int wd])), (tx, .inr (2, [.ref r0, .int (nI len)])), (r0, .inr (1, [.ref q0, .int (nI k0)])), (q0, .inl (cI, n0, .inl f0))] cs aK aV)) (vp_Si (fun r => r = ixW (bY f0) b0 e0 wrds 0)) 0 0 (fun _ => False) := by
  refine Met.ofW (cc := cX3_placeIn) (maxL := 7) (ret := (some .int)) (by decide) rfl ?_
  intro p e s m args below meth c s₁ B hml hv
  obtain ⟨rfl, ⟨hP, hK, hN⟩, hT, hJ⟩ := hv
  have hx := B.exec
  have hb := B.bytes
  have hr := B.returns
  have hts := atoms_spec (ws := wsX3_placeIn) B.pre
  have hown : s.vm.findClass RX3 = some m.cls := findClass_of_methodNamed B.named
  have hlocks := B.notSynchronized
  have hl := lv_entry ([.ref t, .ref aK, .int (nI b0), .int (nI e0)]) (n := 7) (Nat.le_of_ble_eq_true rfl)
  rw [lg_entry_eq]
  generalize (lg_sl ([.ref t, .ref aK, .int (nI b0), .int (nI e0)]) ++ List.replicate (7 - (lg_sl ([.ref t, .ref aK, .int (nI b0), .int (nI e0)])).length) Slot.unset).toArray = ls at hl ⊢
  have hl : lv_has ls 7 [(0, .ref t), (1, .ref aK), (2, .int (nI b0)), (3, .int (nI e0))] := hl
  have hS : va_S (fun _ => False) s.heap s.heap [] := va_S.rf
  refine bt_genQ (fun Q hQ => ?_)
  refine lv_iconst (v := nI 0) hx hb dX3_placeIn_0 (by decide) ?_
  refine lv_istore (lv' := [(4, .int (nI 0)), (0, .ref t), (1, .ref aK), (2, .int (nI b0)), (3, .int (nI e0))]) hx hb dX3_placeIn_1 hl (by decide) rfl (fun ls hl => ?_)
  refine lv_iconst (v := nI 0) hx hb dX3_placeIn_3 (by decide) ?_
  refine lv_istore (lv' := [(5, .int (nI 0)), (4, .int (nI 0)), (0, .ref t), (1, .ref aK), (2, .int (nI b0)), (3, .int (nI e0))]) hx hb dX3_placeIn_4 hl (by decide) rfl (fun ls hl => ?_)
  refine lv_iconst (v := nI 0) hx hb dX3_placeIn_6 (by decide) ?_
  refine lv_istore (lv' := [(6, .int (nI 0)), (5, .int (nI 0)), (4, .int (nI 0)), (0, .ref t), (1, .ref aK), (2, .int (nI b0)), (3, .int (nI e0))]) hx hb dX3_placeIn_7 hl (by decide) rfl (fun ls hl => ?_)
  have loop_9 : ∀ (fu : Nat) (pp : Nat) (aa : Nat) (i : Nat) (rest : List (List Nat)), (cs.length + 1 ≤ i + fu) → (cs.drop aa = flatW rest) → (ixW (bY f0) b0 e0 rest pp = ixW (bY f0) b0 e0 wrds 0) → (aa ≤ i) → (rest = [] → i = aa) → (∀ w r, rest = w :: r → i ≤ aa + w.length) → (∀ w, w ∈ rest → ∀ j, j < w.length → w.getD j 0 ≠ 32) → (pp ≤ aa) → (i ≤ cs.length) → ∀ (ls : Array Slot), lv_has ls 7 [(0, .ref t), (1, .ref aK), (2, .int (nI b0)), (3, .int (nI e0)), (4, .int (nI pp)), (5, .int (nI aa)), (6, .int (nI i))] → W p l e ({ frames := 5, cells := 0, slots := 0, locals := 111 } : Room) s m ([.ref t, .ref aK, .int (nI b0), .int (nI e0)] : List Value).toArray below meth c s.heap [] 0 0 Q (F0 m 9 ls []) := by
    intro fu
    induction fu with
    | zero => intro pp aa i rest hm hd hX hi1 hi0 hi2 hno hpp hil ls hl; exfalso; omega
    | succ fu ih =>
      intro pp aa i rest hm hd hX hi1 hi0 hi2 hno hpp hil ls hl
      refine lv_iload hx hb dX3_placeIn_9 (lv_at hl 6 rfl) ?_
      refine lv_aload_n hx hb dX3_placeIn_11 rfl (lv_at hl 1 rfl) ?_
      refine vp_callSi (va_runV (As := []) (rest := [.int (nI i)]) ⟨hx, hb, hml, hown, hts⟩ (kJ0_length_8abf5 l cs aK aV hok.1) (cwV 0 hts gX3_placeIn_J0_length_8abf5 rfl rfl rfl (by decide +kernel) ⟨Nat.le_of_ble_eq_true rfl, Nat.le_of_ble_eq_true rfl⟩) ⟨fun a U g mk q => ⟨q.1, q.2.calling⟩, bt_Tr hT, fun U hU hW => ⟨rfl, bt_TJ.of hU hW hT hJ⟩⟩ rfl rfl hl.1 rfl (lv_room (Nat.le_of_ble_eq_true rfl)) dX3_placeIn_12 ⟨Nat.zero_le _, Nat.zero_le _⟩).run (fun r_12 hr_12 => ?_)
      subst hr_12
      refine lv_icmp_ge (tgt := 61) hx hb dX3_placeIn_15 (by decide) (fun c_15 => ?_) (fun c_15 => ?_)
      · have c_15 : cs.length ≤ i := (nI_leI (by omega) (by omega)).mp c_15
        refine lv_iconst (v := -1) hx hb dX3_placeIn_61 (by decide) ?_
        rw [hQ]
        exact W.iret (v := (-1)) hx hb hr (fun t ht hW => ⟨(-1), rfl, (by rw [← hX]; cases rest with | nil => rfl | cons w2 r2 => exact absurd (fl_at (cs := cs) (a := aa) (w := w2) (t := flatW r2) (by rw [hd]; rfl)).2.2.2 (by have := hi2 w2 r2 rfl; omega)), ht⟩) (fun _ h => by cases h) dX3_placeIn_62
      · have c_15 : ¬ (cs.length ≤ i) := fun h9 => c_15 ((nI_leI (by omega) (by omega)).mpr h9)
        obtain ⟨wc, rc, hrest⟩ : ∃ w r, rest = w :: r := by
          cases rest with
          | nil => exact absurd (fl_nil hd) (by have := hi0 rfl; omega)
          | cons w2 r2 => exact ⟨w2, r2, rfl⟩
        have hf := fl_at (cs := cs) (a := aa) (w := wc) (t := flatW rc) (by rw [hd, hrest]; rfl)
        have hch := hok.2 i
        have hi3 := hi2 wc rc hrest
        refine lv_aload_n hx hb dX3_placeIn_18 rfl (lv_at hl 1 rfl) ?_
        refine lv_iload hx hb dX3_placeIn_19 (lv_at hl 6 rfl) ?_
        refine vp_callSi (va_runV (As := [.int (nI i)]) (rest := []) ⟨hx, hb, hml, hown, hts⟩ (kJ0_charAt_5068e l cs aK aV i (by omega) hok) (cwV 1 hts gX3_placeIn_J0_charAt_5068e rfl rfl rfl (by decide +kernel) ⟨Nat.le_of_ble_eq_true rfl, Nat.le_of_ble_eq_true rfl⟩) ⟨fun a U g mk q => ⟨q.1, q.2.calling⟩, bt_Tr hT, fun U hU hW => ⟨rfl, bt_TJ.of hU hW hT hJ⟩⟩ rfl rfl hl.1 rfl (lv_room (Nat.le_of_ble_eq_true rfl)) dX3_placeIn_21 ⟨Nat.zero_le _, Nat.zero_le _⟩).run (fun r_21 hr_21 => ?_)
        subst hr_21
        refine lv_bipush (v := nI 32) hx hb dX3_placeIn_24 (by decide) ?_
        refine lv_icmp_ne (tgt := 55) hx hb dX3_placeIn_26 (by decide) (fun c_26 => ?_) (fun c_26 => ?_)
        · have c_26 : ¬ ((cs.getD i 0) = 32) := fun h9 => c_26 ((nI_eq (by omega) (by omega)).mpr h9)
          refine lv_iinc (v := nI (i + 1)) (lv' := [(6, .int (nI (i + 1))), (0, .ref t), (1, .ref aK), (2, .int (nI b0)), (3, .int (nI e0)), (4, .int (nI pp)), (5, .int (nI aa))]) hx hb dX3_placeIn_55 hl (k := 6) rfl (nI_add i 1) (by decide) rfl (fun ls hl => ?_)
          refine lv_goto (tgt := 9) hx hb dX3_placeIn_58 (by decide) ?_
          exact ih pp aa (i + 1) rest (by omega) hd hX (by omega) (fun h => by rw [h] at hrest; cases hrest) (fun w2 r2 h => by rw [hrest] at h; cases h; have : i ≠ aa + wc.length := (fun q => c_26 (by rw [q]; exact hf.2.1)); have := hi2 wc rc hrest; omega) hno hpp (by omega) ls (lv_sub hl [1, 2, 3, 4, 5, 6, 0] rfl)
        · have c_26 : (cs.getD i 0) = 32 := (nI_eq (by omega) (by omega)).mp c_26
          have hie : i = aa + wc.length := by
            rcases Nat.lt_or_ge i (aa + wc.length) with q | q
            · have h1 := hf.1 (i - aa) (by omega)
              rw [show aa + (i - aa) = i by omega, c_26] at h1
              exact absurd h1.symm (hno wc (by rw [hrest]; exact List.mem_cons_self) (i - aa) (by omega))
            · omega
          refine lv_aload_n hx hb dX3_placeIn_29 rfl (lv_at hl 0 rfl) ?_
          refine lv_aload_n hx hb dX3_placeIn_30 rfl (lv_at hl 1 rfl) ?_
          refine lv_iload hx hb dX3_placeIn_31 (lv_at hl 5 rfl) ?_
          refine lv_iload hx hb dX3_placeIn_33 (lv_at hl 6 rfl) ?_
          refine lv_iload_n hx hb dX3_placeIn_35 rfl (lv_at hl 2 rfl) ?_
          refine lv_iload_n hx hb dX3_placeIn_36 rfl (lv_at hl 3 rfl) ?_
          have hPc := hP.sub (ws' := [(t, .inr (3, [.ref tx, .ref r1, .ref r2, .ref r3, .ref r4, .int wd])), (tx, .inr (2, [.ref r0, .int (nI len)])), (r0, .inr (1, [.ref q0, .int (nI k0)])), (q0, .inl (cI, n0, .inl f0))]) [0, 1, 2, 3] rfl
          refine vp_callSi (va_runV (As := [.ref aK, .int (nI aa), .int (nI i), .int (nI b0), .int (nI e0)]) (rest := []) ⟨hx, hb, hml, hown, hts⟩ (kX3_isPart l D cB cI t r1 r2 r3 r4 wd tx r0 q0 len k0 n0 f0 cs aK aV aa i b0 e0 wc hlen hn0 hok hcl hi1 (by omega) hb0 he0 (by omega) (fun j hj => hf.1 j (by omega))) (cwV 5 hts gX3_placeIn_X3_isPart rfl rfl rfl (by decide +kernel) ⟨Nat.le_of_ble_eq_true rfl, Nat.le_of_ble_eq_true rfl⟩) ⟨fun a U g mk q => ⟨q.1, q.2.calling⟩, va_recv hK hPc (ci := 3) (q0 := 0) rfl rfl, fun U hU hW => ⟨rfl, bt_RT.of hU hW hPc hK hN hT hJ⟩⟩ rfl rfl hl.1 rfl (lv_room (Nat.le_of_ble_eq_true rfl)) dX3_placeIn_37 ⟨Nat.zero_le _, Nat.zero_le _⟩).run (fun r_37 hr_37 => ?_)
          subst hr_37
          refine lv_if_eq (tgt := 46) hx hb dX3_placeIn_40 (by decide) (fun c_40 => ?_) (fun c_40 => ?_)
          · have h_40 : ¬ (WdP (bY f0) b0 e0 wc) := Bt_eq0.mp c_40
            refine lv_iinc (v := nI (pp + 1)) (lv' := [(4, .int (nI (pp + 1))), (0, .ref t), (1, .ref aK), (2, .int (nI b0)), (3, .int (nI e0)), (5, .int (nI aa)), (6, .int (nI i))]) hx hb dX3_placeIn_46 hl (k := 4) rfl (nI_add pp 1) (by decide) rfl (fun ls hl => ?_)
            refine lv_iload hx hb dX3_placeIn_49 (lv_at hl 6 rfl) ?_
            refine lv_iconst (v := nI 1) hx hb dX3_placeIn_51 (by decide) ?_
            refine lv_iadd hx hb dX3_placeIn_52 ?_
            refine bt_topi (y := nI (i + 1)) (nI_add _ _) ?_
            refine lv_istore (lv' := [(5, .int (nI (i + 1))), (4, .int (nI (pp + 1))), (0, .ref t), (1, .ref aK), (2, .int (nI b0)), (3, .int (nI e0)), (6, .int (nI i))]) hx hb dX3_placeIn_53 hl (by decide) rfl (fun ls hl => ?_)
            refine lv_iinc (v := nI (i + 1)) (lv' := [(6, .int (nI (i + 1))), (5, .int (nI (i + 1))), (4, .int (nI (pp + 1))), (0, .ref t), (1, .ref aK), (2, .int (nI b0)), (3, .int (nI e0))]) hx hb dX3_placeIn_55 hl (k := 6) rfl (nI_add i 1) (by decide) rfl (fun ls hl => ?_)
            refine lv_goto (tgt := 9) hx hb dX3_placeIn_58 (by decide) ?_
            exact ih (pp + 1) (i + 1) (i + 1) rc (by omega) (by rw [hie]; exact hf.2.2.1) (by rw [← hX, hrest, ixW_f h_40]) (by omega) (fun _ => rfl) (fun w2 r2 _ => by omega) (fun w2 hw2 => hno w2 (by rw [hrest]; exact List.mem_cons_of_mem _ hw2)) (by omega) (by omega) ls (lv_sub hl [3, 4, 5, 6, 2, 1, 0] rfl)
          · have h_40 : WdP (bY f0) b0 e0 wc := Bt_ne0.mp c_40
            refine lv_iload hx hb dX3_placeIn_43 (lv_at hl 4 rfl) ?_
            rw [hQ]
            exact W.iret (v := nI pp) hx hb hr (fun t ht hW => ⟨nI pp, rfl, (by rw [← hX, hrest, ixW_t h_40]), ht⟩) (fun _ h => by cases h) dX3_placeIn_45
  exact loop_9 (cs.length + 1) 0 0 0 wrds (by omega) (by rw [List.drop_zero]; exact hcs) rfl (Nat.le_refl 0) (fun _ => rfl) (fun w2 r2 _ => by omega) hno (Nat.le_refl 0) (Nat.zero_le _) ls (lv_sub hl [3, 4, 5, 6, 2, 1, 0] rfl)
