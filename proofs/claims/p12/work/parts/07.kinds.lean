/-- the value of n digits from d on -/
def nv (B : Nat → Nat) (d : Nat) : Nat → Nat
  | 0 => 0
  | n + 1 => 10 * nv B d n + (B (d + n) - 48)
theorem nv_lt {B : Nat → Nat} {d : Nat} : ∀ n, (∀ j, d ≤ j → j < d + n → dgP (B j)) → nv B d n < 10 ^ n := by
  intro n
  induction n with
  | zero => intro _; exact Nat.one_pos
  | succ n ih =>
    intro h
    have h1 := ih (fun j a b => h j a (by omega))
    have h2 := h (d + n) (by omega) (by omega)
    unfold dgP at h2
    rw [nv, Nat.pow_succ]
    omega
/-- a number: the digits begin at d, the value is at most lim -/
def NuP (B : Nat → Nat) (d e lim : Nat) : Prop := d < e ∧ e ≤ d + 10 ∧ (∀ j, d ≤ j → j < e → dgP (B j)) ∧ nv B d (e - d) ≤ lim
def NumP (B : Nat → Nat) (s e : Nat) : Prop := (B s = 45 ∧ NuP B (s + 1) e 2147483648) ∨ (¬ B s = 45 ∧ NuP B s e 2147483647)
theorem NumP_m {B : Nat → Nat} {s e : Nat} (h : NumP B s e) (hm : B s = 45) : NuP B (s + 1) e 2147483648 := h.elim (fun h => h.2) (fun h => absurd hm h.1)
theorem NumP_p {B : Nat → Nat} {s e : Nat} (h : NumP B s e) (hm : ¬ B s = 45) : NuP B s e 2147483647 := h.elim (fun h => absurd h.1 hm) (fun h => h.2)
def RowP (B : Nat → Nat) (s e : Nat) : Prop := s + 2 < e ∧ B (e - 2) = 91 ∧ B (e - 1) = 93 ∧ (NmP B s (e - 2) 65 ∨ WdP B s (e - 2) [105, 110, 116])
def RefP (B : Nat → Nat) (s e : Nat) : Prop := ∃ i, s ≤ i ∧ i < e ∧ B i = 46 ∧ (∀ j, s ≤ j → j < i → ¬ B j = 46) ∧ NmP B s i 65 ∧ NmP B (i + 1) e 97
def sgF (c : Nat) : Int32 := if c = 40 then 1 else if c = 41 then 2 else if c = 58 then 16 else if c = 123 then 4 else if c = 125 then 8 else 0
noncomputable def kwF (B : Nat → Nat) (s e : Nat) : Int32 := if ixW B s e kwW 0 = -1 then 0 else 1024 <<< (ixW B s e kwW 0 &&& 31)
noncomputable def otF (B : Nat → Nat) (s e : Nat) : Int32 := @ite _ (NmP B s e 65) (Classical.propDecidable _) 64 (@ite _ (NumP B s e) (Classical.propDecidable _) 128 (@ite _ (RowP B s e) (Classical.propDecidable _) 256 (@ite _ (RefP B s e) (Classical.propDecidable _) 512 0)))
theorem bt_l10 (n : Nat) : (10 : Int64) * lN n = lN (10 * n) := lN_mul 10 n
set_option maxHeartbeats 4000000 in
set_option maxRecDepth 100000 in
/-- Tokens.isNumber -/
theorem kX3_isNumber (l : Launch) (D : va_G) (cB cI : ClassId) (t : Nat) (r1 r2 r3 r4 : Nat) (wd : Int32) (tx r0 q0 len k0 n0 : Nat) (f0 : Nat → Int32) (b0 e0 : Nat) (hlen : len ≤ 4 * n0) (hn0 : n0 ≤ 16000) (hb0 : b0 < e0) (he0 : e0 ≤ len) : Met l yX3_isNumber wsX3_isNumber ({ frames := 1, cells := 0, slots := 0, locals := 23 }) (va_Pc [.ref t, .int (nI b0), .int (nI e0)] (bt_R D cB cI [(t, .inr (3, [.ref tx, .ref r1, .ref r2, .ref r3, .ref r4, .int wd])), (tx, .inr (2, [.ref r0, .int (nI len)])), (r0, .inr (1, [.ref q0, .int (nI k0)])), (q0, .inl (cI, n0, .inl f0))])) (vp_Si (fun r => r = Bt (NumP (bY f0) b0 e0))) 0 0 (fun _ => False) := by
  refine Met.ofW (cc := cX3_isNumber) (maxL := 9) (ret := (some .boolean)) (by decide) rfl ?_
  intro p e s m args below meth c s₁ B hml hv
  obtain ⟨rfl, hP, hK, hN⟩ := hv
  have hx := B.exec
  have hb := B.bytes
  have hr := B.returns
  have hts := atoms_spec (ws := wsX3_isNumber) B.pre
  have hown : s.vm.findClass RX3 = some m.cls := findClass_of_methodNamed B.named
  have hlocks := B.notSynchronized
  have hl := lv_entry ([.ref t, .int (nI b0), .int (nI e0)]) (n := 9) (Nat.le_of_ble_eq_true rfl)
  rw [lg_entry_eq]
  generalize (lg_sl ([.ref t, .int (nI b0), .int (nI e0)]) ++ List.replicate (9 - (lg_sl ([.ref t, .int (nI b0), .int (nI e0)])).length) Slot.unset).toArray = ls at hl ⊢
  have hl : lv_has ls 9 [(0, .ref t), (1, .int (nI b0)), (2, .int (nI e0))] := hl
  refine bt_genQ (fun Q hQ => ?_)
  refine lv_aload_n hx hb dX3_isNumber_0 rfl (lv_at hl 0 rfl) ?_
  refine va_get (D := D) (ci := 3) (v := .ref tx) (C := RX3) (T := TX3) (N := 6) hx hb hts (by decide +kernel) hown hK hP 0 rfl rfl 0 (by decide) (hts (.fieldLink RX3 31 "BodyText$Tokens" "text" "LBodyText$Text;") (by decide +kernel)) (fun _ h9 => h9) rfl dX3_isNumber_1 ?_
  refine lv_iload_n hx hb dX3_isNumber_4 rfl (lv_at hl 1 rfl) ?_
  have hb256 := bY_lt f0 b0
  have hPc := hP.sub (ws' := [(tx, .inr (2, [.ref r0, .int (nI len)])), (r0, .inr (1, [.ref q0, .int (nI k0)])), (q0, .inl (cI, n0, .inl f0))]) [1, 2, 3] rfl
  refine vp_callSi (va_runV (As := [.int (nI b0)]) (rest := []) ⟨hx, hb, hml, hown, hts⟩ (kX2_at l D cB cI tx r0 q0 len k0 n0 f0 b0 hlen hn0 (by omega)) (cwV 1 hts gX3_isNumber_X2_at rfl rfl rfl (by decide +kernel) ⟨Nat.le_of_ble_eq_true rfl, Nat.le_of_ble_eq_true rfl⟩) ⟨fun a U g mk q => ⟨q.1, q.2.calling⟩, va_recv hK hPc (ci := 2) (q0 := 0) rfl rfl, fun U hU hW => ⟨rfl, bt_R.of hU hW hPc hK hN⟩⟩ rfl rfl hl.1 rfl (lv_room (Nat.le_of_ble_eq_true rfl)) dX3_isNumber_5 ⟨Nat.zero_le _, Nat.zero_le _⟩).run (fun r_5 hr_5 => ?_)
  subst hr_5
  refine lv_bipush (v := nI 45) hx hb dX3_isNumber_8 (by decide) ?_
  refine lv_icmp_ne (tgt := 17) hx hb dX3_isNumber_10 (by decide) (fun c_10 => ?_) (fun c_10 => ?_)
  · have c_10 : ¬ ((bY f0 b0) = 45) := fun h9 => c_10 ((nI_eq (by omega) (by omega)).mpr h9)
    refine lv_iconst (v := nI 0) hx hb dX3_isNumber_17 (by decide) ?_
    refine lv_istore_n (lv' := [(3, .int (nI 0)), (0, .ref t), (1, .int (nI b0)), (2, .int (nI e0))]) hx hb dX3_isNumber_18 rfl hl (by decide) rfl (fun ls hl => ?_)
    refine lv_iload_n hx hb dX3_isNumber_19 rfl (lv_at hl 0 rfl) ?_
    refine lv_if_eq (tgt := 29) hx hb dX3_isNumber_20 (by decide) (fun c_20 => ?_) (fun c_20 => ?_)
    · clear c_20
      refine lv_iload_n hx hb dX3_isNumber_29 rfl (lv_at hl 2 rfl) ?_
      refine lv_istore (lv' := [(4, .int (nI b0)), (3, .int (nI 0)), (0, .ref t), (1, .int (nI b0)), (2, .int (nI e0))]) hx hb dX3_isNumber_30 hl (by decide) rfl (fun ls hl => ?_)
      refine lv_iload_n hx hb dX3_isNumber_32 rfl (lv_at hl 4 rfl) ?_
      refine lv_iload hx hb dX3_isNumber_33 (lv_at hl 0 rfl) ?_
      refine lv_icmp_le (tgt := 47) hx hb dX3_isNumber_35 (by decide) (fun c_35 => ?_) (fun c_35 => ?_)
      · have c_35 : e0 ≤ b0 := (nI_leI (by omega) (by omega)).mp c_35
        refine lv_iconst (v := nI 0) hx hb dX3_isNumber_47 (by decide) ?_
        rw [hQ]
        exact W.zret (v := nI 0) hx hb hr (by decide) (fun t ht hW => ⟨nI 0, rfl, (Bt_f (fun h => by have hnu := NumP_p h c_10; obtain ⟨g1, g2, -⟩ := hnu; omega)).symm, ht⟩) (fun _ h => by cases h) dX3_isNumber_48
      · have c_35 : ¬ (e0 ≤ b0) := fun h9 => c_35 ((nI_leI (by omega) (by omega)).mpr h9)
        refine lv_iload_n hx hb dX3_isNumber_38 rfl (lv_at hl 4 rfl) ?_
        refine lv_iload hx hb dX3_isNumber_39 (lv_at hl 0 rfl) ?_
        refine lv_isub hx hb dX3_isNumber_41 ?_
        refine bt_topi (y := nI (e0 - b0)) (pk_sub (by omega)) ?_
        refine lv_bipush (v := nI 10) hx hb dX3_isNumber_42 (by decide) ?_
        refine lv_icmp_le (tgt := 49) hx hb dX3_isNumber_44 (by decide) (fun c_44 => ?_) (fun c_44 => ?_)
        · have c_44 : e0 - b0 ≤ 10 := (nI_leI (by omega) (by omega)).mp c_44
          refine lv_lconst (v := 0) hx hb dX3_isNumber_49 (by decide) ?_
          refine lv_lstore (lv' := [(5, .long 0), (4, .int (nI b0)), (3, .int (nI 0)), (0, .ref t), (1, .int (nI b0)), (2, .int (nI e0))]) hx hb dX3_isNumber_50 hl (by decide) rfl (fun ls hl => ?_)
          refine lv_iload hx hb dX3_isNumber_52 (lv_at hl 1 rfl) ?_
          refine lv_istore (lv' := [(7, .int (nI b0)), (5, .long 0), (4, .int (nI b0)), (3, .int (nI 0)), (0, .ref t), (1, .int (nI b0)), (2, .int (nI e0))]) hx hb dX3_isNumber_54 hl (by decide) rfl (fun ls hl => ?_)
          have hz0 : (0 : Int64) = lN (nv (bY f0) (b0) (b0 - (b0))) := by rw [Nat.sub_self]; rfl
          rw [hz0] at hl
          have loop_56 : ∀ (fu : Nat) (i : Nat), (e0 + 1 ≤ i + fu) → (b0 ≤ i) → (i ≤ e0) → (∀ j, b0 ≤ j → j < i → dgP (bY f0 j)) → ∀ (ls : Array Slot), lv_has ls 9 [(0, .ref t), (2, .int (nI e0)), (3, .int (nI 0)), (5, .long (lN (nv (bY f0) (b0) (i - (b0))))), (7, .int (nI i))] → W p l e ({ frames := 1, cells := 0, slots := 0, locals := 23 } : Room) s m ([.ref t, .int (nI b0), .int (nI e0)] : List Value).toArray below meth c s.heap [] 0 0 Q (F0 m 56 ls []) := by
            intro fu
            induction fu with
            | zero => intro i hm hi1 hi2 hdg ls hl; exfalso; omega
            | succ fu ih =>
              intro i hm hi1 hi2 hdg ls hl
              refine lv_iload hx hb dX3_isNumber_56 (lv_at hl 4 rfl) ?_
              refine lv_iload_n hx hb dX3_isNumber_58 rfl (lv_at hl 1 rfl) ?_
              refine lv_icmp_ge (tgt := 104) hx hb dX3_isNumber_59 (by decide) (fun c_59 => ?_) (fun c_59 => ?_)
              · have c_59 : e0 ≤ i := (nI_leI (by omega) (by omega)).mp c_59
                have hie : i = e0 := by omega
                have hnv := nv_lt (B := bY f0) (d := b0) (i - (b0)) (fun j h1 h2 => hdg j h1 (by omega))
                have hpw : 10 ^ (i - (b0)) ≤ 10 ^ 10 := Nat.pow_le_pow_right (by decide) (by omega)
                refine lv_lload hx hb dX3_isNumber_104 (lv_at hl 3 rfl) ?_
                refine lv_iload_n hx hb dX3_isNumber_106 rfl (lv_at hl 2 rfl) ?_
                refine lv_if_eq (tgt := 116) hx hb dX3_isNumber_107 (by decide) (fun c_107 => ?_) (fun c_107 => ?_)
                · clear c_107
                  refine lv_ldc2 (own := RX3) (v := 2147483647) hx hb hown (hts (.constantLong RX3 111 (2147483647)) (by decide +kernel)) dX3_isNumber_116 ?_
                  refine bt_topl (y := lN 2147483647) (by decide) ?_
                  refine W.lcmp hx hb dX3_isNumber_119 ?_
                  refine lv_if_gt (tgt := 127) hx hb dX3_isNumber_120 (by decide) (fun c_120 => ?_) (fun c_120 => ?_)
                  · refine lv_iconst (v := nI 0) hx hb dX3_isNumber_127 (by decide) ?_
                    rw [hQ]
                    exact W.zret (v := nI 0) hx hb hr (by decide) (fun t ht hW => ⟨nI 0, rfl, (Bt_f (fun h => by have hnu := NumP_p h c_10; have := hnu.2.2.2; have h9 := (pk_lLT (by omega) (by omega)).mp ((lg_cmp_gt _ _).mp c_120); rw [hie] at h9; omega)).symm, ht⟩) (fun _ h => by cases h) dX3_isNumber_128
                  · refine lv_iconst (v := nI 1) hx hb dX3_isNumber_123 (by decide) ?_
                    refine lv_goto (tgt := 128) hx hb dX3_isNumber_124 (by decide) ?_
                    rw [hQ]
                    exact W.zret (v := nI 1) hx hb hr (by decide) (fun t ht hW => ⟨nI 1, rfl, (Bt_t (Or.inr ⟨c_10, ⟨by omega, by omega, fun j h1 h2 => hdg j h1 (by omega), by have h9 : ¬ 2147483647 < nv (bY f0) (b0) (i - (b0)) := fun q => c_120 ((lg_cmp_gt _ _).mpr ((pk_lLT (by omega) (by omega)).mpr q)); rw [hie] at h9; omega⟩⟩)).symm, ht⟩) (fun _ h => by cases h) dX3_isNumber_128
                · exact absurd (by decide) c_107
              · have c_59 : ¬ (e0 ≤ i) := fun h9 => c_59 ((nI_leI (by omega) (by omega)).mpr h9)
                refine lv_aload_n hx hb dX3_isNumber_62 rfl (lv_at hl 0 rfl) ?_
                refine va_get (D := D) (ci := 3) (v := .ref tx) (C := RX3) (T := TX3) (N := 6) hx hb hts (by decide +kernel) hown hK hP 0 rfl rfl 0 (by decide) (hts (.fieldLink RX3 31 "BodyText$Tokens" "text" "LBodyText$Text;") (by decide +kernel)) (fun _ h9 => h9) rfl dX3_isNumber_63 ?_
                refine lv_iload hx hb dX3_isNumber_66 (lv_at hl 4 rfl) ?_
                have hPc := hP.sub (ws' := [(tx, .inr (2, [.ref r0, .int (nI len)])), (r0, .inr (1, [.ref q0, .int (nI k0)])), (q0, .inl (cI, n0, .inl f0))]) [1, 2, 3] rfl
                refine vp_callSi (va_runV (As := [.int (nI i)]) (rest := []) ⟨hx, hb, hml, hown, hts⟩ (kX2_at l D cB cI tx r0 q0 len k0 n0 f0 i hlen hn0 (by omega)) (cwV 1 hts gX3_isNumber_X2_at rfl rfl rfl (by decide +kernel) ⟨Nat.le_of_ble_eq_true rfl, Nat.le_of_ble_eq_true rfl⟩) ⟨fun a U g mk q => ⟨q.1, q.2.calling⟩, va_recv hK hPc (ci := 2) (q0 := 0) rfl rfl, fun U hU hW => ⟨rfl, bt_R.of hU hW hPc hK hN⟩⟩ rfl rfl hl.1 rfl (lv_room (Nat.le_of_ble_eq_true rfl)) dX3_isNumber_68 ⟨Nat.zero_le _, Nat.zero_le _⟩).run (fun r_68 hr_68 => ?_)
                subst hr_68
                refine lv_istore (lv' := [(8, .int (nI (bY f0 i))), (0, .ref t), (2, .int (nI e0)), (3, .int (nI 0)), (5, .long (lN (nv (bY f0) (b0) (i - (b0))))), (7, .int (nI i))]) hx hb dX3_isNumber_71 hl (by decide) rfl (fun ls hl => ?_)
                refine lv_iload hx hb dX3_isNumber_73 (lv_at hl 0 rfl) ?_
                refine vp_callSi (va_runS (As := [.int (nI (bY f0 i))]) (rest := []) ⟨hx, hb, hml, hown, hts⟩ (kX3_isDigit l (bY f0 i) (bY_lt f0 i)) (va_cwS 1 hts gX3_isNumber_X3_isDigit rfl rfl rfl (by decide +kernel) ⟨Nat.le_of_ble_eq_true rfl, Nat.le_of_ble_eq_true rfl⟩) ⟨fun a U g mk q => q, fun U hU hW => ⟨rfl, trivial⟩⟩ rfl rfl hl.1 rfl (lv_room (Nat.le_of_ble_eq_true rfl)) dX3_isNumber_75 ⟨Nat.zero_le _, Nat.zero_le _⟩).run (fun r_75 hr_75 => ?_)
                subst hr_75
                refine lv_if_ne (tgt := 83) hx hb dX3_isNumber_78 (by decide) (fun c_78 => ?_) (fun c_78 => ?_)
                · have h_78 : dgP (bY f0 i) := Bt_ne0.mp c_78
                  refine lv_ldc2 (own := RX3) (v := 10) hx hb hown (hts (.constantLong RX3 107 (10)) (by decide +kernel)) dX3_isNumber_83 ?_
                  refine lv_lload hx hb dX3_isNumber_86 (lv_at hl 4 rfl) ?_
                  refine lv_lmul hx hb dX3_isNumber_88 ?_
                  refine bt_topl (y := lN (10 * nv (bY f0) (b0) (i - (b0)))) (bt_l10 _) ?_
                  refine lv_iload hx hb dX3_isNumber_89 (lv_at hl 0 rfl) ?_
                  refine lv_bipush (v := nI 48) hx hb dX3_isNumber_91 (by decide) ?_
                  refine lv_isub hx hb dX3_isNumber_93 ?_
                  have h48 : dgP (bY f0 i) := h_78
                  unfold dgP at h48
                  refine bt_topi (y := nI (bY f0 i - 48)) (pk_sub (by omega)) ?_
                  refine lv_i2l hx hb dX3_isNumber_94 rfl ?_
                  have hb256 := bY_lt f0 i
                  refine bt_topl (y := lN (bY f0 i - 48)) (nI_l (by omega)) ?_
                  refine lv_ladd hx hb dX3_isNumber_95 ?_
                  refine bt_topl (y := lN (nv (bY f0) (b0) (i + 1 - (b0)))) (by rw [lN_add, show i + 1 - (b0) = (i - (b0)) + 1 by omega, nv, show b0 + (i - (b0)) = i by omega]) ?_
                  refine lv_lstore (lv' := [(5, .long (lN (nv (bY f0) (b0) (i + 1 - (b0))))), (8, .int (nI (bY f0 i))), (0, .ref t), (2, .int (nI e0)), (3, .int (nI 0)), (7, .int (nI i))]) hx hb dX3_isNumber_96 hl (by decide) rfl (fun ls hl => ?_)
                  refine lv_iinc (v := nI (i + 1)) (lv' := [(7, .int (nI (i + 1))), (5, .long (lN (nv (bY f0) (b0) (i + 1 - (b0))))), (8, .int (nI (bY f0 i))), (0, .ref t), (2, .int (nI e0)), (3, .int (nI 0))]) hx hb dX3_isNumber_98 hl (k := 5) rfl (nI_add i 1) (by decide) rfl (fun ls hl => ?_)
                  refine lv_goto (tgt := 56) hx hb dX3_isNumber_101 (by decide) ?_
                  exact ih (i + 1) (by omega) (by omega) (by omega) (fun j h1 h2 => by rcases Nat.lt_or_ge j i with q | q; exact hdg j h1 q; rw [show j = i by omega]; exact h_78) ls (lv_sub hl [3, 4, 5, 1, 0] rfl)
                · have h_78 : ¬ (dgP (bY f0 i)) := Bt_eq0.mp c_78
                  refine lv_iconst (v := nI 0) hx hb dX3_isNumber_81 (by decide) ?_
                  rw [hQ]
                  exact W.zret (v := nI 0) hx hb hr (by decide) (fun t ht hW => ⟨nI 0, rfl, (Bt_f (fun h => by have hnu := NumP_p h c_10; exact h_78 (hnu.2.2.1 i (by omega) (by omega)))).symm, ht⟩) (fun _ h => by cases h) dX3_isNumber_82
          exact loop_56 (e0 + 1) b0 (by omega) (by omega) (by omega) (fun j h1 h2 => by omega) ls (lv_sub hl [4, 6, 3, 1, 0] rfl)
        · have c_44 : ¬ (e0 - b0 ≤ 10) := fun h9 => c_44 ((nI_leI (by omega) (by omega)).mpr h9)
          refine lv_iconst (v := nI 0) hx hb dX3_isNumber_47 (by decide) ?_
          rw [hQ]
          exact W.zret (v := nI 0) hx hb hr (by decide) (fun t ht hW => ⟨nI 0, rfl, (Bt_f (fun h => by have hnu := NumP_p h c_10; obtain ⟨g1, g2, -⟩ := hnu; omega)).symm, ht⟩) (fun _ h => by cases h) dX3_isNumber_48
    · exact absurd (by decide) c_20
  · have c_10 : (bY f0 b0) = 45 := (nI_eq (by omega) (by omega)).mp c_10
    refine lv_iconst (v := nI 1) hx hb dX3_isNumber_13 (by decide) ?_
    refine lv_goto (tgt := 18) hx hb dX3_isNumber_14 (by decide) ?_
    refine lv_istore_n (lv' := [(3, .int (nI 1)), (0, .ref t), (1, .int (nI b0)), (2, .int (nI e0))]) hx hb dX3_isNumber_18 rfl hl (by decide) rfl (fun ls hl => ?_)
    refine lv_iload_n hx hb dX3_isNumber_19 rfl (lv_at hl 0 rfl) ?_
    refine lv_if_eq (tgt := 29) hx hb dX3_isNumber_20 (by decide) (fun c_20 => ?_) (fun c_20 => ?_)
    · exact absurd c_20 (by decide)
    · clear c_20
      refine lv_iload_n hx hb dX3_isNumber_23 rfl (lv_at hl 2 rfl) ?_
      refine lv_iconst (v := nI 1) hx hb dX3_isNumber_24 (by decide) ?_
      refine lv_iadd hx hb dX3_isNumber_25 ?_
      refine bt_topi (y := nI (b0 + 1)) (nI_add _ _) ?_
      refine lv_goto (tgt := 30) hx hb dX3_isNumber_26 (by decide) ?_
      refine lv_istore (lv' := [(4, .int (nI (b0 + 1))), (3, .int (nI 1)), (0, .ref t), (1, .int (nI b0)), (2, .int (nI e0))]) hx hb dX3_isNumber_30 hl (by decide) rfl (fun ls hl => ?_)
      refine lv_iload_n hx hb dX3_isNumber_32 rfl (lv_at hl 4 rfl) ?_
      refine lv_iload hx hb dX3_isNumber_33 (lv_at hl 0 rfl) ?_
      refine lv_icmp_le (tgt := 47) hx hb dX3_isNumber_35 (by decide) (fun c_35 => ?_) (fun c_35 => ?_)
      · have c_35 : e0 ≤ b0 + 1 := (nI_leI (by omega) (by omega)).mp c_35
        refine lv_iconst (v := nI 0) hx hb dX3_isNumber_47 (by decide) ?_
        rw [hQ]
        exact W.zret (v := nI 0) hx hb hr (by decide) (fun t ht hW => ⟨nI 0, rfl, (Bt_f (fun h => by have hnu := NumP_m h c_10; obtain ⟨g1, g2, -⟩ := hnu; omega)).symm, ht⟩) (fun _ h => by cases h) dX3_isNumber_48
      · have c_35 : ¬ (e0 ≤ b0 + 1) := fun h9 => c_35 ((nI_leI (by omega) (by omega)).mpr h9)
        refine lv_iload_n hx hb dX3_isNumber_38 rfl (lv_at hl 4 rfl) ?_
        refine lv_iload hx hb dX3_isNumber_39 (lv_at hl 0 rfl) ?_
        refine lv_isub hx hb dX3_isNumber_41 ?_
        refine bt_topi (y := nI (e0 - (b0 + 1))) (pk_sub (by omega)) ?_
        refine lv_bipush (v := nI 10) hx hb dX3_isNumber_42 (by decide) ?_
        refine lv_icmp_le (tgt := 49) hx hb dX3_isNumber_44 (by decide) (fun c_44 => ?_) (fun c_44 => ?_)
        · have c_44 : e0 - (b0 + 1) ≤ 10 := (nI_leI (by omega) (by omega)).mp c_44
          refine lv_lconst (v := 0) hx hb dX3_isNumber_49 (by decide) ?_
          refine lv_lstore (lv' := [(5, .long 0), (4, .int (nI (b0 + 1))), (3, .int (nI 1)), (0, .ref t), (1, .int (nI b0)), (2, .int (nI e0))]) hx hb dX3_isNumber_50 hl (by decide) rfl (fun ls hl => ?_)
          refine lv_iload hx hb dX3_isNumber_52 (lv_at hl 1 rfl) ?_
          refine lv_istore (lv' := [(7, .int (nI (b0 + 1))), (5, .long 0), (4, .int (nI (b0 + 1))), (3, .int (nI 1)), (0, .ref t), (1, .int (nI b0)), (2, .int (nI e0))]) hx hb dX3_isNumber_54 hl (by decide) rfl (fun ls hl => ?_)
          have hz0 : (0 : Int64) = lN (nv (bY f0) (b0 + 1) (b0 + 1 - (b0 + 1))) := by rw [Nat.sub_self]; rfl
          rw [hz0] at hl
          have loop_56 : ∀ (fu : Nat) (i : Nat), (e0 + 1 ≤ i + fu) → (b0 + 1 ≤ i) → (i ≤ e0) → (∀ j, b0 + 1 ≤ j → j < i → dgP (bY f0 j)) → ∀ (ls : Array Slot), lv_has ls 9 [(0, .ref t), (2, .int (nI e0)), (3, .int (nI 1)), (5, .long (lN (nv (bY f0) (b0 + 1) (i - (b0 + 1))))), (7, .int (nI i))] → W p l e ({ frames := 1, cells := 0, slots := 0, locals := 23 } : Room) s m ([.ref t, .int (nI b0), .int (nI e0)] : List Value).toArray below meth c s.heap [] 0 0 Q (F0 m 56 ls []) := by
            intro fu
            induction fu with
            | zero => intro i hm hi1 hi2 hdg ls hl; exfalso; omega
            | succ fu ih =>
              intro i hm hi1 hi2 hdg ls hl
              refine lv_iload hx hb dX3_isNumber_56 (lv_at hl 4 rfl) ?_
              refine lv_iload_n hx hb dX3_isNumber_58 rfl (lv_at hl 1 rfl) ?_
              refine lv_icmp_ge (tgt := 104) hx hb dX3_isNumber_59 (by decide) (fun c_59 => ?_) (fun c_59 => ?_)
              · have c_59 : e0 ≤ i := (nI_leI (by omega) (by omega)).mp c_59
                have hie : i = e0 := by omega
                have hnv := nv_lt (B := bY f0) (d := b0 + 1) (i - (b0 + 1)) (fun j h1 h2 => hdg j h1 (by omega))
                have hpw : 10 ^ (i - (b0 + 1)) ≤ 10 ^ 10 := Nat.pow_le_pow_right (by decide) (by omega)
                refine lv_lload hx hb dX3_isNumber_104 (lv_at hl 3 rfl) ?_
                refine lv_iload_n hx hb dX3_isNumber_106 rfl (lv_at hl 2 rfl) ?_
                refine lv_if_eq (tgt := 116) hx hb dX3_isNumber_107 (by decide) (fun c_107 => ?_) (fun c_107 => ?_)
                · exact absurd c_107 (by decide)
                · clear c_107
                  refine lv_ldc2 (own := RX3) (v := 2147483648) hx hb hown (hts (.constantLong RX3 109 (2147483648)) (by decide +kernel)) dX3_isNumber_110 ?_
                  refine bt_topl (y := lN 2147483648) (by decide) ?_
                  refine lv_goto (tgt := 119) hx hb dX3_isNumber_113 (by decide) ?_
                  refine W.lcmp hx hb dX3_isNumber_119 ?_
                  refine lv_if_gt (tgt := 127) hx hb dX3_isNumber_120 (by decide) (fun c_120 => ?_) (fun c_120 => ?_)
                  · refine lv_iconst (v := nI 0) hx hb dX3_isNumber_127 (by decide) ?_
                    rw [hQ]
                    exact W.zret (v := nI 0) hx hb hr (by decide) (fun t ht hW => ⟨nI 0, rfl, (Bt_f (fun h => by have hnu := NumP_m h c_10; have := hnu.2.2.2; have h9 := (pk_lLT (by omega) (by omega)).mp ((lg_cmp_gt _ _).mp c_120); rw [hie] at h9; omega)).symm, ht⟩) (fun _ h => by cases h) dX3_isNumber_128
                  · refine lv_iconst (v := nI 1) hx hb dX3_isNumber_123 (by decide) ?_
                    refine lv_goto (tgt := 128) hx hb dX3_isNumber_124 (by decide) ?_
                    rw [hQ]
                    exact W.zret (v := nI 1) hx hb hr (by decide) (fun t ht hW => ⟨nI 1, rfl, (Bt_t (Or.inl ⟨c_10, ⟨by omega, by omega, fun j h1 h2 => hdg j h1 (by omega), by have h9 : ¬ 2147483648 < nv (bY f0) (b0 + 1) (i - (b0 + 1)) := fun q => c_120 ((lg_cmp_gt _ _).mpr ((pk_lLT (by omega) (by omega)).mpr q)); rw [hie] at h9; omega⟩⟩)).symm, ht⟩) (fun _ h => by cases h) dX3_isNumber_128
              · have c_59 : ¬ (e0 ≤ i) := fun h9 => c_59 ((nI_leI (by omega) (by omega)).mpr h9)
                refine lv_aload_n hx hb dX3_isNumber_62 rfl (lv_at hl 0 rfl) ?_
                refine va_get (D := D) (ci := 3) (v := .ref tx) (C := RX3) (T := TX3) (N := 6) hx hb hts (by decide +kernel) hown hK hP 0 rfl rfl 0 (by decide) (hts (.fieldLink RX3 31 "BodyText$Tokens" "text" "LBodyText$Text;") (by decide +kernel)) (fun _ h9 => h9) rfl dX3_isNumber_63 ?_
                refine lv_iload hx hb dX3_isNumber_66 (lv_at hl 4 rfl) ?_
                have hPc := hP.sub (ws' := [(tx, .inr (2, [.ref r0, .int (nI len)])), (r0, .inr (1, [.ref q0, .int (nI k0)])), (q0, .inl (cI, n0, .inl f0))]) [1, 2, 3] rfl
                refine vp_callSi (va_runV (As := [.int (nI i)]) (rest := []) ⟨hx, hb, hml, hown, hts⟩ (kX2_at l D cB cI tx r0 q0 len k0 n0 f0 i hlen hn0 (by omega)) (cwV 1 hts gX3_isNumber_X2_at rfl rfl rfl (by decide +kernel) ⟨Nat.le_of_ble_eq_true rfl, Nat.le_of_ble_eq_true rfl⟩) ⟨fun a U g mk q => ⟨q.1, q.2.calling⟩, va_recv hK hPc (ci := 2) (q0 := 0) rfl rfl, fun U hU hW => ⟨rfl, bt_R.of hU hW hPc hK hN⟩⟩ rfl rfl hl.1 rfl (lv_room (Nat.le_of_ble_eq_true rfl)) dX3_isNumber_68 ⟨Nat.zero_le _, Nat.zero_le _⟩).run (fun r_68 hr_68 => ?_)
                subst hr_68
                refine lv_istore (lv' := [(8, .int (nI (bY f0 i))), (0, .ref t), (2, .int (nI e0)), (3, .int (nI 1)), (5, .long (lN (nv (bY f0) (b0 + 1) (i - (b0 + 1))))), (7, .int (nI i))]) hx hb dX3_isNumber_71 hl (by decide) rfl (fun ls hl => ?_)
                refine lv_iload hx hb dX3_isNumber_73 (lv_at hl 0 rfl) ?_
                refine vp_callSi (va_runS (As := [.int (nI (bY f0 i))]) (rest := []) ⟨hx, hb, hml, hown, hts⟩ (kX3_isDigit l (bY f0 i) (bY_lt f0 i)) (va_cwS 1 hts gX3_isNumber_X3_isDigit rfl rfl rfl (by decide +kernel) ⟨Nat.le_of_ble_eq_true rfl, Nat.le_of_ble_eq_true rfl⟩) ⟨fun a U g mk q => q, fun U hU hW => ⟨rfl, trivial⟩⟩ rfl rfl hl.1 rfl (lv_room (Nat.le_of_ble_eq_true rfl)) dX3_isNumber_75 ⟨Nat.zero_le _, Nat.zero_le _⟩).run (fun r_75 hr_75 => ?_)
                subst hr_75
                refine lv_if_ne (tgt := 83) hx hb dX3_isNumber_78 (by decide) (fun c_78 => ?_) (fun c_78 => ?_)
                · have h_78 : dgP (bY f0 i) := Bt_ne0.mp c_78
                  refine lv_ldc2 (own := RX3) (v := 10) hx hb hown (hts (.constantLong RX3 107 (10)) (by decide +kernel)) dX3_isNumber_83 ?_
                  refine lv_lload hx hb dX3_isNumber_86 (lv_at hl 4 rfl) ?_
                  refine lv_lmul hx hb dX3_isNumber_88 ?_
                  refine bt_topl (y := lN (10 * nv (bY f0) (b0 + 1) (i - (b0 + 1)))) (bt_l10 _) ?_
                  refine lv_iload hx hb dX3_isNumber_89 (lv_at hl 0 rfl) ?_
                  refine lv_bipush (v := nI 48) hx hb dX3_isNumber_91 (by decide) ?_
                  refine lv_isub hx hb dX3_isNumber_93 ?_
                  have h48 : dgP (bY f0 i) := h_78
                  unfold dgP at h48
                  refine bt_topi (y := nI (bY f0 i - 48)) (pk_sub (by omega)) ?_
                  refine lv_i2l hx hb dX3_isNumber_94 rfl ?_
                  have hb256 := bY_lt f0 i
                  refine bt_topl (y := lN (bY f0 i - 48)) (nI_l (by omega)) ?_
                  refine lv_ladd hx hb dX3_isNumber_95 ?_
                  refine bt_topl (y := lN (nv (bY f0) (b0 + 1) (i + 1 - (b0 + 1)))) (by rw [lN_add, show i + 1 - (b0 + 1) = (i - (b0 + 1)) + 1 by omega, nv, show b0 + 1 + (i - (b0 + 1)) = i by omega]) ?_
                  refine lv_lstore (lv' := [(5, .long (lN (nv (bY f0) (b0 + 1) (i + 1 - (b0 + 1))))), (8, .int (nI (bY f0 i))), (0, .ref t), (2, .int (nI e0)), (3, .int (nI 1)), (7, .int (nI i))]) hx hb dX3_isNumber_96 hl (by decide) rfl (fun ls hl => ?_)
                  refine lv_iinc (v := nI (i + 1)) (lv' := [(7, .int (nI (i + 1))), (5, .long (lN (nv (bY f0) (b0 + 1) (i + 1 - (b0 + 1))))), (8, .int (nI (bY f0 i))), (0, .ref t), (2, .int (nI e0)), (3, .int (nI 1))]) hx hb dX3_isNumber_98 hl (k := 5) rfl (nI_add i 1) (by decide) rfl (fun ls hl => ?_)
                  refine lv_goto (tgt := 56) hx hb dX3_isNumber_101 (by decide) ?_
                  exact ih (i + 1) (by omega) (by omega) (by omega) (fun j h1 h2 => by rcases Nat.lt_or_ge j i with q | q; exact hdg j h1 q; rw [show j = i by omega]; exact h_78) ls (lv_sub hl [3, 4, 5, 1, 0] rfl)
                · have h_78 : ¬ (dgP (bY f0 i)) := Bt_eq0.mp c_78
                  refine lv_iconst (v := nI 0) hx hb dX3_isNumber_81 (by decide) ?_
                  rw [hQ]
                  exact W.zret (v := nI 0) hx hb hr (by decide) (fun t ht hW => ⟨nI 0, rfl, (Bt_f (fun h => by have hnu := NumP_m h c_10; exact h_78 (hnu.2.2.1 i (by omega) (by omega)))).symm, ht⟩) (fun _ h => by cases h) dX3_isNumber_82
          exact loop_56 (e0 + 1) (b0 + 1) (by omega) (by omega) (by omega) (fun j h1 h2 => by omega) ls (lv_sub hl [4, 6, 3, 1, 0] rfl)
        · have c_44 : ¬ (e0 - (b0 + 1) ≤ 10) := fun h9 => c_44 ((nI_leI (by omega) (by omega)).mpr h9)
          refine lv_iconst (v := nI 0) hx hb dX3_isNumber_47 (by decide) ?_
          rw [hQ]
          exact W.zret (v := nI 0) hx hb hr (by decide) (fun t ht hW => ⟨nI 0, rfl, (Bt_f (fun h => by have hnu := NumP_m h c_10; obtain ⟨g1, g2, -⟩ := hnu; omega)).symm, ht⟩) (fun _ h => by cases h) dX3_isNumber_48
theorem bt_ok3 : bt_ok [105, 110, 116] := ⟨by decide, fun k => by
  rcases k with _ | _ | _ | k <;> simp [List.getD]⟩
set_option maxHeartbeats 4000000 in
set_option maxRecDepth 100000 in
/-- Tokens.isRowType -/
theorem kX3_isRowType (l : Launch) (D : va_G) (cB cI : ClassId) (aK aV : Nat → Nat) (t : Nat) (r1 r2 r3 r4 : Nat) (wd : Int32) (tx r0 q0 len k0 n0 : Nat) (f0 : Nat → Int32) (b0 e0 : Nat) (hlen : len ≤ 4 * n0) (hn0 : n0 ≤ 16000) (hb0 : b0 < e0) (he0 : e0 ≤ len) : Met l yX3_isRowType wsX3_isRowType ({ frames := 5, cells := 0, slots := 0, locals := 111 }) (va_Pc [.ref t, .int (nI b0), .int (nI e0)] (bt_RG D cB cI [(t, .inr (3, [.ref tx, .ref r1, .ref r2, .ref r3, .ref r4, .int wd])), (tx, .inr (2, [.ref r0, .int (nI len)])), (r0, .inr (1, [.ref q0, .int (nI k0)])), (q0, .inl (cI, n0, .inl f0))] aK aV)) (vp_Si (fun r => r = Bt (RowP (bY f0) b0 e0))) 0 0 (fun _ => False) := by
  refine Met.ofW (cc := cX3_isRowType) (maxL := 4) (ret := (some .boolean)) (by decide) rfl ?_
  intro p e s m args below meth c s₁ B hml hv
  obtain ⟨rfl, ⟨hP, hK, hN⟩, hG⟩ := hv
  have hx := B.exec
  have hb := B.bytes
  have hr := B.returns
  have hts := atoms_spec (ws := wsX3_isRowType) B.pre
  have hown : s.vm.findClass RX3 = some m.cls := findClass_of_methodNamed B.named
  have hlocks := B.notSynchronized
  have hl := lv_entry ([.ref t, .int (nI b0), .int (nI e0)]) (n := 4) (Nat.le_of_ble_eq_true rfl)
  rw [lg_entry_eq]
  generalize (lg_sl ([.ref t, .int (nI b0), .int (nI e0)]) ++ List.replicate (4 - (lg_sl ([.ref t, .int (nI b0), .int (nI e0)])).length) Slot.unset).toArray = ls at hl ⊢
  have hl : lv_has ls 4 [(0, .ref t), (1, .int (nI b0)), (2, .int (nI e0))] := hl
  refine lv_iload_n hx hb dX3_isRowType_0 rfl (lv_at hl 2 rfl) ?_
  refine lv_iconst (v := nI 2) hx hb dX3_isRowType_1 (by decide) ?_
  rcases Nat.lt_or_ge e0 2 with h2 | h2
  · refine lv_isub hx hb dX3_isRowType_2 ?_
    refine bt_topi (y := -1) (by rw [show e0 = 1 by omega]; decide) ?_
    refine lv_istore_n (lv' := [(3, .int (-1)), (0, .ref t), (1, .int (nI b0)), (2, .int (nI e0))]) hx hb dX3_isRowType_3 rfl hl (by decide) rfl (fun ls hl => ?_)
    refine lv_iload_n hx hb dX3_isRowType_4 rfl (lv_at hl 0 rfl) ?_
    refine lv_iload_n hx hb dX3_isRowType_5 rfl (lv_at hl 2 rfl) ?_
    refine lv_icmp_le (tgt := 37) hx hb dX3_isRowType_6 (by decide) (fun c_6 => ?_) (fun c_6 => ?_)
    · refine lv_iconst (v := nI 0) hx hb dX3_isRowType_37 (by decide) ?_
      exact W.zret (v := nI 0) hx hb hr (by decide) (fun t ht hW => ⟨nI 0, rfl, (Bt_f (fun h => by have := h.1; omega)).symm, ht⟩) (fun _ h => by cases h) dX3_isRowType_38
    · exact absurd (by rw [show b0 = 0 by omega]; decide) c_6
  · refine lv_isub hx hb dX3_isRowType_2 ?_
    refine bt_topi (y := nI (e0 - 2)) (pk_sub h2) ?_
    refine lv_istore_n (lv' := [(3, .int (nI (e0 - 2))), (0, .ref t), (1, .int (nI b0)), (2, .int (nI e0))]) hx hb dX3_isRowType_3 rfl hl (by decide) rfl (fun ls hl => ?_)
    refine lv_iload_n hx hb dX3_isRowType_4 rfl (lv_at hl 0 rfl) ?_
    refine lv_iload_n hx hb dX3_isRowType_5 rfl (lv_at hl 2 rfl) ?_
    refine lv_icmp_le (tgt := 37) hx hb dX3_isRowType_6 (by decide) (fun c_6 => ?_) (fun c_6 => ?_)
    · have c_6 : (e0 - 2) ≤ b0 := (nI_leI (by omega) (by omega)).mp c_6
      refine lv_iconst (v := nI 0) hx hb dX3_isRowType_37 (by decide) ?_
      exact W.zret (v := nI 0) hx hb hr (by decide) (fun t ht hW => ⟨nI 0, rfl, (Bt_f (fun h => by obtain ⟨g1, g2, -⟩ := h; omega)).symm, ht⟩) (fun _ h => by cases h) dX3_isRowType_38
    · have c_6 : ¬ ((e0 - 2) ≤ b0) := fun h9 => c_6 ((nI_leI (by omega) (by omega)).mpr h9)
      have hb1 := bY_lt f0 (e0 - 2)
      have hb2 := bY_lt f0 (e0 - 2 + 1)
      refine lv_aload_n hx hb dX3_isRowType_9 rfl (lv_at hl 1 rfl) ?_
      refine va_get (D := D) (ci := 3) (v := .ref tx) (C := RX3) (T := TX3) (N := 6) hx hb hts (by decide +kernel) hown hK hP 0 rfl rfl 0 (by decide) (hts (.fieldLink RX3 31 "BodyText$Tokens" "text" "LBodyText$Text;") (by decide +kernel)) (fun _ h9 => h9) rfl dX3_isRowType_10 ?_
      refine lv_iload_n hx hb dX3_isRowType_13 rfl (lv_at hl 0 rfl) ?_
      have hPc := hP.sub (ws' := [(tx, .inr (2, [.ref r0, .int (nI len)])), (r0, .inr (1, [.ref q0, .int (nI k0)])), (q0, .inl (cI, n0, .inl f0))]) [1, 2, 3] rfl
      refine vp_callSi (va_runV (As := [.int (nI (e0 - 2))]) (rest := []) ⟨hx, hb, hml, hown, hts⟩ (kX2_at l D cB cI tx r0 q0 len k0 n0 f0 (e0 - 2) hlen hn0 (by omega)) (cwV 1 hts gX3_isRowType_X2_at rfl rfl rfl (by decide +kernel) ⟨Nat.le_of_ble_eq_true rfl, Nat.le_of_ble_eq_true rfl⟩) ⟨fun a U g mk q => ⟨q.1, q.2.calling⟩, va_recv hK hPc (ci := 2) (q0 := 0) rfl rfl, fun U hU hW => ⟨rfl, bt_R.of hU hW hPc hK hN⟩⟩ rfl rfl hl.1 rfl (lv_room (Nat.le_of_ble_eq_true rfl)) dX3_isRowType_14 ⟨Nat.zero_le _, Nat.zero_le _⟩).run (fun r_14 hr_14 => ?_)
      subst hr_14
      refine lv_bipush (v := nI 91) hx hb dX3_isRowType_17 (by decide) ?_
      refine lv_icmp_ne (tgt := 37) hx hb dX3_isRowType_19 (by decide) (fun c_19 => ?_) (fun c_19 => ?_)
      · have c_19 : ¬ ((bY f0 (e0 - 2)) = 91) := fun h9 => c_19 ((nI_eq (by omega) (by omega)).mpr h9)
        refine lv_iconst (v := nI 0) hx hb dX3_isRowType_37 (by decide) ?_
        exact W.zret (v := nI 0) hx hb hr (by decide) (fun t ht hW => ⟨nI 0, rfl, (Bt_f (fun h => by obtain ⟨g1, g2, -⟩ := h; omega)).symm, ht⟩) (fun _ h => by cases h) dX3_isRowType_38
      · have c_19 : (bY f0 (e0 - 2)) = 91 := (nI_eq (by omega) (by omega)).mp c_19
        refine lv_aload_n hx hb dX3_isRowType_22 rfl (lv_at hl 1 rfl) ?_
        refine va_get (D := D) (ci := 3) (v := .ref tx) (C := RX3) (T := TX3) (N := 6) hx hb hts (by decide +kernel) hown hK hP 0 rfl rfl 0 (by decide) (hts (.fieldLink RX3 31 "BodyText$Tokens" "text" "LBodyText$Text;") (by decide +kernel)) (fun _ h9 => h9) rfl dX3_isRowType_23 ?_
        refine lv_iload_n hx hb dX3_isRowType_26 rfl (lv_at hl 0 rfl) ?_
        refine lv_iconst (v := nI 1) hx hb dX3_isRowType_27 (by decide) ?_
        refine lv_iadd hx hb dX3_isRowType_28 ?_
        refine bt_topi (y := nI ((e0 - 2) + 1)) (nI_add _ _) ?_
        have hPc := hP.sub (ws' := [(tx, .inr (2, [.ref r0, .int (nI len)])), (r0, .inr (1, [.ref q0, .int (nI k0)])), (q0, .inl (cI, n0, .inl f0))]) [1, 2, 3] rfl
        refine vp_callSi (va_runV (As := [.int (nI ((e0 - 2) + 1))]) (rest := []) ⟨hx, hb, hml, hown, hts⟩ (kX2_at l D cB cI tx r0 q0 len k0 n0 f0 ((e0 - 2) + 1) hlen hn0 (by omega)) (cwV 1 hts gX3_isRowType_X2_at rfl rfl rfl (by decide +kernel) ⟨Nat.le_of_ble_eq_true rfl, Nat.le_of_ble_eq_true rfl⟩) ⟨fun a U g mk q => ⟨q.1, q.2.calling⟩, va_recv hK hPc (ci := 2) (q0 := 0) rfl rfl, fun U hU hW => ⟨rfl, bt_R.of hU hW hPc hK hN⟩⟩ rfl rfl hl.1 rfl (lv_room (Nat.le_of_ble_eq_true rfl)) dX3_isRowType_29 ⟨Nat.zero_le _, Nat.zero_le _⟩).run (fun r_29 hr_29 => ?_)
        subst hr_29
        refine lv_bipush (v := nI 93) hx hb dX3_isRowType_32 (by decide) ?_
        refine lv_icmp_eq (tgt := 39) hx hb dX3_isRowType_34 (by decide) (fun c_34 => ?_) (fun c_34 => ?_)
        · have c_34 : (bY f0 ((e0 - 2) + 1)) = 93 := (nI_eq (by omega) (by omega)).mp c_34
          refine lv_aload_n hx hb dX3_isRowType_39 rfl (lv_at hl 1 rfl) ?_
          refine lv_iload_n hx hb dX3_isRowType_40 rfl (lv_at hl 2 rfl) ?_
          refine lv_iload_n hx hb dX3_isRowType_41 rfl (lv_at hl 0 rfl) ?_
          refine lv_bipush (v := nI 65) hx hb dX3_isRowType_42 (by decide) ?_
          refine lv_bipush (v := nI 90) hx hb dX3_isRowType_44 (by decide) ?_
          have hPc := hP.sub (ws' := [(t, .inr (3, [.ref tx, .ref r1, .ref r2, .ref r3, .ref r4, .int wd])), (tx, .inr (2, [.ref r0, .int (nI len)])), (r0, .inr (1, [.ref q0, .int (nI k0)])), (q0, .inl (cI, n0, .inl f0))]) [0, 1, 2, 3] rfl
          refine vp_callSi (va_runV (As := [.int (nI b0), .int (nI (e0 - 2)), .int (nI 65), .int (nI 90)]) (rest := []) ⟨hx, hb, hml, hown, hts⟩ (kX3_isName l D cB cI t r1 r2 r3 r4 wd tx r0 q0 len k0 n0 f0 b0 (e0 - 2) 65 hlen hn0 (by decide) (by omega) (by omega)) (cwV 4 hts gX3_isRowType_X3_isName rfl rfl rfl (by decide +kernel) ⟨Nat.le_of_ble_eq_true rfl, Nat.le_of_ble_eq_true rfl⟩) ⟨fun a U g mk q => ⟨q.1, q.2.calling⟩, va_recv hK hPc (ci := 3) (q0 := 0) rfl rfl, fun U hU hW => ⟨rfl, bt_R.of hU hW hPc hK hN⟩⟩ rfl rfl hl.1 rfl (lv_room (Nat.le_of_ble_eq_true rfl)) dX3_isRowType_46 ⟨Nat.zero_le _, Nat.zero_le _⟩).run (fun r_46 hr_46 => ?_)
          subst hr_46
          refine lv_if_ne (tgt := 65) hx hb dX3_isRowType_49 (by decide) (fun c_49 => ?_) (fun c_49 => ?_)
          · have h_49 : NmP (bY f0) b0 (e0 - 2) 65 := Bt_ne0.mp c_49
            refine lv_iconst (v := nI 1) hx hb dX3_isRowType_65 (by decide) ?_
            refine lv_goto (tgt := 70) hx hb dX3_isRowType_66 (by decide) ?_
            exact W.zret (v := nI 1) hx hb hr (by decide) (fun t ht hW => ⟨nI 1, rfl, (Bt_t ⟨by omega, by omega, by rw [← c_34, show e0 - 2 + 1 = e0 - 1 by omega], Or.inl h_49⟩).symm, ht⟩) (fun _ h => by cases h) dX3_isRowType_70
          · have h_49 : ¬ (NmP (bY f0) b0 (e0 - 2) 65) := Bt_eq0.mp c_49
            refine lv_aload_n hx hb dX3_isRowType_52 rfl (lv_at hl 1 rfl) ?_
            refine va_ldcS (own := RX3) (tx := "int") hx hb hown ((hG.2 2 (by decide)).1) dX3_isRowType_53 ?_
            refine lv_iconst (v := nI 0) hx hb dX3_isRowType_55 (by decide) ?_
            refine lv_iconst (v := nI 3) hx hb dX3_isRowType_56 (by decide) ?_
            refine lv_iload_n hx hb dX3_isRowType_57 rfl (lv_at hl 2 rfl) ?_
            refine lv_iload_n hx hb dX3_isRowType_58 rfl (lv_at hl 0 rfl) ?_
            have hPc := hP.sub (ws' := [(t, .inr (3, [.ref tx, .ref r1, .ref r2, .ref r3, .ref r4, .int wd])), (tx, .inr (2, [.ref r0, .int (nI len)])), (r0, .inr (1, [.ref q0, .int (nI k0)])), (q0, .inl (cI, n0, .inl f0))]) [0, 1, 2, 3] rfl
            refine vp_callSi (va_runV (As := [.ref (aK 2), .int (nI 0), .int (nI 3), .int (nI b0), .int (nI (e0 - 2))]) (rest := []) ⟨hx, hb, hml, hown, hts⟩ (kX3_isPart l D cB cI t r1 r2 r3 r4 wd tx r0 q0 len k0 n0 f0 [105, 110, 116] (aK 2) (aV 2) 0 3 b0 (e0 - 2) [105, 110, 116] hlen hn0 bt_ok3 (by decide) (by decide) (by decide) (by omega) (by omega) rfl (by decide)) (cwV 5 hts gX3_isRowType_X3_isPart rfl rfl rfl (by decide +kernel) ⟨Nat.le_of_ble_eq_true rfl, Nat.le_of_ble_eq_true rfl⟩) ⟨fun a U g mk q => ⟨q.1, q.2.calling⟩, va_recv hK hPc (ci := 3) (q0 := 0) rfl rfl, fun U hU hW => ⟨rfl, bt_RT.of hU hW hPc hK hN (hG.2 2 (by decide)).2 hG.1⟩⟩ rfl rfl hl.1 rfl (lv_room (Nat.le_of_ble_eq_true rfl)) dX3_isRowType_59 ⟨Nat.zero_le _, Nat.zero_le _⟩).run (fun r_59 hr_59 => ?_)
            subst hr_59
            refine lv_if_eq (tgt := 69) hx hb dX3_isRowType_62 (by decide) (fun c_62 => ?_) (fun c_62 => ?_)
            · have h_62 : ¬ (WdP (bY f0) b0 (e0 - 2) [105, 110, 116]) := Bt_eq0.mp c_62
              refine lv_iconst (v := nI 0) hx hb dX3_isRowType_69 (by decide) ?_
              exact W.zret (v := nI 0) hx hb hr (by decide) (fun t ht hW => ⟨nI 0, rfl, (Bt_f (fun h => h.2.2.2.elim h_49 h_62)).symm, ht⟩) (fun _ h => by cases h) dX3_isRowType_70
            · have h_62 : WdP (bY f0) b0 (e0 - 2) [105, 110, 116] := Bt_ne0.mp c_62
              refine lv_iconst (v := nI 1) hx hb dX3_isRowType_65 (by decide) ?_
              refine lv_goto (tgt := 70) hx hb dX3_isRowType_66 (by decide) ?_
              exact W.zret (v := nI 1) hx hb hr (by decide) (fun t ht hW => ⟨nI 1, rfl, (Bt_t ⟨by omega, by omega, by rw [← c_34, show e0 - 2 + 1 = e0 - 1 by omega], Or.inr h_62⟩).symm, ht⟩) (fun _ h => by cases h) dX3_isRowType_70
        · have c_34 : ¬ ((bY f0 ((e0 - 2) + 1)) = 93) := fun h9 => c_34 ((nI_eq (by omega) (by omega)).mpr h9)
          refine lv_iconst (v := nI 0) hx hb dX3_isRowType_37 (by decide) ?_
          exact W.zret (v := nI 0) hx hb hr (by decide) (fun t ht hW => ⟨nI 0, rfl, (Bt_f (fun h => c_34 (by rw [show e0 - 2 + 1 = e0 - 1 by omega]; exact h.2.2.1))).symm, ht⟩) (fun _ h => by cases h) dX3_isRowType_38
set_option maxHeartbeats 4000000 in
set_option maxRecDepth 100000 in
/-- Tokens.isReference -/
theorem kX3_isReference (l : Launch) (D : va_G) (cB cI : ClassId) (t : Nat) (r1 r2 r3 r4 : Nat) (wd : Int32) (tx r0 q0 len k0 n0 : Nat) (f0 : Nat → Int32) (b0 e0 : Nat) (hlen : len ≤ 4 * n0) (hn0 : n0 ≤ 16000) (hb0 : b0 < e0) (he0 : e0 ≤ len) : Met l yX3_isReference wsX3_isReference ({ frames := 2, cells := 0, slots := 0, locals := 48 }) (va_Pc [.ref t, .int (nI b0), .int (nI e0)] (bt_R D cB cI [(t, .inr (3, [.ref tx, .ref r1, .ref r2, .ref r3, .ref r4, .int wd])), (tx, .inr (2, [.ref r0, .int (nI len)])), (r0, .inr (1, [.ref q0, .int (nI k0)])), (q0, .inl (cI, n0, .inl f0))])) (vp_Si (fun r => r = Bt (RefP (bY f0) b0 e0))) 0 0 (fun _ => False) := by
  refine Met.ofW (cc := cX3_isReference) (maxL := 4) (ret := (some .boolean)) (by decide) rfl ?_
  intro p e s m args below meth c s₁ B hml hv
  obtain ⟨rfl, hP, hK, hN⟩ := hv
  have hx := B.exec
  have hb := B.bytes
  have hr := B.returns
  have hts := atoms_spec (ws := wsX3_isReference) B.pre
  have hown : s.vm.findClass RX3 = some m.cls := findClass_of_methodNamed B.named
  have hlocks := B.notSynchronized
  have hl := lv_entry ([.ref t, .int (nI b0), .int (nI e0)]) (n := 4) (Nat.le_of_ble_eq_true rfl)
  rw [lg_entry_eq]
  generalize (lg_sl ([.ref t, .int (nI b0), .int (nI e0)]) ++ List.replicate (4 - (lg_sl ([.ref t, .int (nI b0), .int (nI e0)])).length) Slot.unset).toArray = ls at hl ⊢
  have hl : lv_has ls 4 [(0, .ref t), (1, .int (nI b0)), (2, .int (nI e0))] := hl
  refine bt_genQ (fun Q hQ => ?_)
  refine lv_iload_n hx hb dX3_isReference_0 rfl (lv_at hl 1 rfl) ?_
  refine lv_istore_n (lv' := [(3, .int (nI b0)), (0, .ref t), (1, .int (nI b0)), (2, .int (nI e0))]) hx hb dX3_isReference_1 rfl hl (by decide) rfl (fun ls hl => ?_)
  have loop_2 : ∀ (fu : Nat) (i : Nat), (e0 + 1 ≤ i + fu) → (b0 ≤ i) → (i ≤ e0) → (∀ j, b0 ≤ j → j < i → ¬ bY f0 j = 46) → ∀ (ls : Array Slot), lv_has ls 4 [(0, .ref t), (1, .int (nI b0)), (2, .int (nI e0)), (3, .int (nI i))] → W p l e ({ frames := 2, cells := 0, slots := 0, locals := 48 } : Room) s m ([.ref t, .int (nI b0), .int (nI e0)] : List Value).toArray below meth c s.heap [] 0 0 Q (F0 m 2 ls []) := by
    intro fu
    induction fu with
    | zero => intro i hm hi1 hi2 hno ls hl; exfalso; omega
    | succ fu ih =>
      intro i hm hi1 hi2 hno ls hl
      refine lv_iload_n hx hb dX3_isReference_2 rfl (lv_at hl 3 rfl) ?_
      refine lv_iload_n hx hb dX3_isReference_3 rfl (lv_at hl 2 rfl) ?_
      refine lv_icmp_ge (tgt := 60) hx hb dX3_isReference_4 (by decide) (fun c_4 => ?_) (fun c_4 => ?_)
      · have c_4 : e0 ≤ i := (nI_leI (by omega) (by omega)).mp c_4
        refine lv_iconst (v := nI 0) hx hb dX3_isReference_60 (by decide) ?_
        rw [hQ]
        exact W.zret (v := nI 0) hx hb hr (by decide) (fun t ht hW => ⟨nI 0, rfl, (Bt_f (fun h => by obtain ⟨i9, g1, g2, g3, -⟩ := h; exact hno i9 g1 (by omega) g3)).symm, ht⟩) (fun _ h => by cases h) dX3_isReference_61
      · have c_4 : ¬ (e0 ≤ i) := fun h9 => c_4 ((nI_leI (by omega) (by omega)).mpr h9)
        refine lv_aload_n hx hb dX3_isReference_7 rfl (lv_at hl 0 rfl) ?_
        refine va_get (D := D) (ci := 3) (v := .ref tx) (C := RX3) (T := TX3) (N := 6) hx hb hts (by decide +kernel) hown hK hP 0 rfl rfl 0 (by decide) (hts (.fieldLink RX3 31 "BodyText$Tokens" "text" "LBodyText$Text;") (by decide +kernel)) (fun _ h9 => h9) rfl dX3_isReference_8 ?_
        refine lv_iload_n hx hb dX3_isReference_11 rfl (lv_at hl 3 rfl) ?_
        have hb256 := bY_lt f0 i
        have hPc := hP.sub (ws' := [(tx, .inr (2, [.ref r0, .int (nI len)])), (r0, .inr (1, [.ref q0, .int (nI k0)])), (q0, .inl (cI, n0, .inl f0))]) [1, 2, 3] rfl
        refine vp_callSi (va_runV (As := [.int (nI i)]) (rest := []) ⟨hx, hb, hml, hown, hts⟩ (kX2_at l D cB cI tx r0 q0 len k0 n0 f0 i hlen hn0 (by omega)) (cwV 1 hts gX3_isReference_X2_at rfl rfl rfl (by decide +kernel) ⟨Nat.le_of_ble_eq_true rfl, Nat.le_of_ble_eq_true rfl⟩) ⟨fun a U g mk q => ⟨q.1, q.2.calling⟩, va_recv hK hPc (ci := 2) (q0 := 0) rfl rfl, fun U hU hW => ⟨rfl, bt_R.of hU hW hPc hK hN⟩⟩ rfl rfl hl.1 rfl (lv_room (Nat.le_of_ble_eq_true rfl)) dX3_isReference_12 ⟨Nat.zero_le _, Nat.zero_le _⟩).run (fun r_12 hr_12 => ?_)
        subst hr_12
        refine lv_bipush (v := nI 46) hx hb dX3_isReference_15 (by decide) ?_
        refine lv_icmp_ne (tgt := 54) hx hb dX3_isReference_17 (by decide) (fun c_17 => ?_) (fun c_17 => ?_)
        · have c_17 : ¬ ((bY f0 i) = 46) := fun h9 => c_17 ((nI_eq (by omega) (by omega)).mpr h9)
          refine lv_iinc (v := nI (i + 1)) (lv' := [(3, .int (nI (i + 1))), (0, .ref t), (1, .int (nI b0)), (2, .int (nI e0))]) hx hb dX3_isReference_54 hl (k := 3) rfl (nI_add i 1) (by decide) rfl (fun ls hl => ?_)
          refine lv_goto (tgt := 2) hx hb dX3_isReference_57 (by decide) ?_
          exact ih (i + 1) (by omega) (by omega) (by omega) (fun j h1 h2 => by rcases Nat.lt_or_ge j i with q | q; exact hno j h1 q; rw [show j = i by omega]; exact c_17) ls (lv_sub hl [1, 2, 3, 0] rfl)
        · have c_17 : (bY f0 i) = 46 := (nI_eq (by omega) (by omega)).mp c_17
          refine lv_aload_n hx hb dX3_isReference_20 rfl (lv_at hl 0 rfl) ?_
          refine lv_iload_n hx hb dX3_isReference_21 rfl (lv_at hl 1 rfl) ?_
          refine lv_iload_n hx hb dX3_isReference_22 rfl (lv_at hl 3 rfl) ?_
          refine lv_bipush (v := nI 65) hx hb dX3_isReference_23 (by decide) ?_
          refine lv_bipush (v := nI 90) hx hb dX3_isReference_25 (by decide) ?_
          have hPc := hP.sub (ws' := [(t, .inr (3, [.ref tx, .ref r1, .ref r2, .ref r3, .ref r4, .int wd])), (tx, .inr (2, [.ref r0, .int (nI len)])), (r0, .inr (1, [.ref q0, .int (nI k0)])), (q0, .inl (cI, n0, .inl f0))]) [0, 1, 2, 3] rfl
          refine vp_callSi (va_runV (As := [.int (nI b0), .int (nI i), .int (nI 65), .int (nI 90)]) (rest := []) ⟨hx, hb, hml, hown, hts⟩ (kX3_isName l D cB cI t r1 r2 r3 r4 wd tx r0 q0 len k0 n0 f0 b0 i 65 hlen hn0 (by decide) (by omega) (by omega)) (cwV 4 hts gX3_isReference_X3_isName rfl rfl rfl (by decide +kernel) ⟨Nat.le_of_ble_eq_true rfl, Nat.le_of_ble_eq_true rfl⟩) ⟨fun a U g mk q => ⟨q.1, q.2.calling⟩, va_recv hK hPc (ci := 3) (q0 := 0) rfl rfl, fun U hU hW => ⟨rfl, bt_R.of hU hW hPc hK hN⟩⟩ rfl rfl hl.1 rfl (lv_room (Nat.le_of_ble_eq_true rfl)) dX3_isReference_27 ⟨Nat.zero_le _, Nat.zero_le _⟩).run (fun r_27 hr_27 => ?_)
          subst hr_27
          refine lv_if_eq (tgt := 52) hx hb dX3_isReference_30 (by decide) (fun c_30 => ?_) (fun c_30 => ?_)
          · have h_30 : ¬ (NmP (bY f0) b0 i 65) := Bt_eq0.mp c_30
            refine lv_iconst (v := nI 0) hx hb dX3_isReference_52 (by decide) ?_
            rw [hQ]
            exact W.zret (v := nI 0) hx hb hr (by decide) (fun t ht hW => ⟨nI 0, rfl, (Bt_f (fun h => by obtain ⟨i9, g1, g2, g3, g4, g5, g6⟩ := h; have hie : i9 = i := (by rcases Nat.lt_trichotomy i9 i with q | q | q; exact absurd g3 (hno i9 g1 q); exact q; exact absurd c_17 (g4 i (by omega) q)); subst hie;  exact h_30 g5)).symm, ht⟩) (fun _ h => by cases h) dX3_isReference_53
          · have h_30 : NmP (bY f0) b0 i 65 := Bt_ne0.mp c_30
            refine lv_aload_n hx hb dX3_isReference_33 rfl (lv_at hl 0 rfl) ?_
            refine lv_iload_n hx hb dX3_isReference_34 rfl (lv_at hl 3 rfl) ?_
            refine lv_iconst (v := nI 1) hx hb dX3_isReference_35 (by decide) ?_
            refine lv_iadd hx hb dX3_isReference_36 ?_
            refine bt_topi (y := nI (i + 1)) (nI_add _ _) ?_
            refine lv_iload_n hx hb dX3_isReference_37 rfl (lv_at hl 2 rfl) ?_
            refine lv_bipush (v := nI 97) hx hb dX3_isReference_38 (by decide) ?_
            refine lv_bipush (v := nI 122) hx hb dX3_isReference_40 (by decide) ?_
            have hPc := hP.sub (ws' := [(t, .inr (3, [.ref tx, .ref r1, .ref r2, .ref r3, .ref r4, .int wd])), (tx, .inr (2, [.ref r0, .int (nI len)])), (r0, .inr (1, [.ref q0, .int (nI k0)])), (q0, .inl (cI, n0, .inl f0))]) [0, 1, 2, 3] rfl
            refine vp_callSi (va_runV (As := [.int (nI (i + 1)), .int (nI e0), .int (nI 97), .int (nI 122)]) (rest := []) ⟨hx, hb, hml, hown, hts⟩ (kX3_isName l D cB cI t r1 r2 r3 r4 wd tx r0 q0 len k0 n0 f0 (i + 1) e0 97 hlen hn0 (by decide) (by omega) (by omega)) (cwV 4 hts gX3_isReference_X3_isName rfl rfl rfl (by decide +kernel) ⟨Nat.le_of_ble_eq_true rfl, Nat.le_of_ble_eq_true rfl⟩) ⟨fun a U g mk q => ⟨q.1, q.2.calling⟩, va_recv hK hPc (ci := 3) (q0 := 0) rfl rfl, fun U hU hW => ⟨rfl, bt_R.of hU hW hPc hK hN⟩⟩ rfl rfl hl.1 rfl (lv_room (Nat.le_of_ble_eq_true rfl)) dX3_isReference_42 ⟨Nat.zero_le _, Nat.zero_le _⟩).run (fun r_42 hr_42 => ?_)
            subst hr_42
            refine lv_if_eq (tgt := 52) hx hb dX3_isReference_45 (by decide) (fun c_45 => ?_) (fun c_45 => ?_)
            · have h_45 : ¬ (NmP (bY f0) (i + 1) e0 97) := Bt_eq0.mp c_45
              refine lv_iconst (v := nI 0) hx hb dX3_isReference_52 (by decide) ?_
              rw [hQ]
              exact W.zret (v := nI 0) hx hb hr (by decide) (fun t ht hW => ⟨nI 0, rfl, (Bt_f (fun h => by obtain ⟨i9, g1, g2, g3, g4, g5, g6⟩ := h; have hie : i9 = i := (by rcases Nat.lt_trichotomy i9 i with q | q | q; exact absurd g3 (hno i9 g1 q); exact q; exact absurd c_17 (g4 i (by omega) q)); subst hie;  exact h_45 g6)).symm, ht⟩) (fun _ h => by cases h) dX3_isReference_53
            · have h_45 : NmP (bY f0) (i + 1) e0 97 := Bt_ne0.mp c_45
              refine lv_iconst (v := nI 1) hx hb dX3_isReference_48 (by decide) ?_
              refine lv_goto (tgt := 53) hx hb dX3_isReference_49 (by decide) ?_
              rw [hQ]
              exact W.zret (v := nI 1) hx hb hr (by decide) (fun t ht hW => ⟨nI 1, rfl, (Bt_t ⟨i, by omega, by omega, c_17, hno, h_30, h_45⟩).symm, ht⟩) (fun _ h => by cases h) dX3_isReference_53
  exact loop_2 (e0 + 1) b0 (by omega) (by omega) (by omega) (fun j h1 h2 => by omega) ls (lv_sub hl [1, 2, 3, 0] rfl)
set_option maxHeartbeats 4000000 in
set_option maxRecDepth 100000 in
/-- signKind -/
theorem kX3_signKind (l : Launch) (x : Nat) (hx0 : x < 256) : Met l yX3_signKind wsX3_signKind ({ frames := 0, cells := 0, slots := 0, locals := 0 }) (va_Pc [.int (nI x)] (fun _ => True)) (vp_Si (fun r => r = sgF x)) 0 0 (fun _ => False) := by
  refine Met.ofW (cc := cX3_signKind) (maxL := 1) (ret := (some .int)) (by decide) rfl ?_
  intro p e s m args below meth c s₁ B hml hv
  obtain ⟨rfl, -⟩ := hv
  have hx := B.exec
  have hb := B.bytes
  have hr := B.returns
  have hts := atoms_spec (ws := wsX3_signKind) B.pre
  have hown : s.vm.findClass RX3 = some m.cls := findClass_of_methodNamed B.named
  have hlocks := B.notSynchronized
  have hl := lv_entry ([.int (nI x)]) (n := 1) (Nat.le_of_ble_eq_true rfl)
  rw [lg_entry_eq]
  generalize (lg_sl ([.int (nI x)]) ++ List.replicate (1 - (lg_sl ([.int (nI x)])).length) Slot.unset).toArray = ls at hl ⊢
  have hl : lv_has ls 1 [(0, .int (nI x))] := hl
  refine lv_iload_n hx hb dX3_signKind_0 rfl (lv_at hl 0 rfl) ?_
  rcases (show x = 40 ∨ x = 41 ∨ x = 58 ∨ x = 123 ∨ x = 125 ∨ (¬ x = 40 ∧ ¬ x = 41 ∧ ¬ x = 58 ∧ ¬ x = 123 ∧ ¬ x = 125) by omega) with h | h | h | h | h | h
  · subst h
    refine lv_lookup (off := 51) (tgt := 52) hx hb dX3_signKind_1 (by decide) (by decide) (by decide) ?_
    refine lv_iconst (v := nI 1) hx hb dX3_signKind_52 (by decide) ?_
    exact W.iret (v := nI 1) hx hb hr (fun t ht hW => ⟨nI 1, rfl, (by decide), ht⟩) (fun _ h => by cases h) dX3_signKind_53
  · subst h
    refine lv_lookup (off := 53) (tgt := 54) hx hb dX3_signKind_1 (by decide) (by decide) (by decide) ?_
    refine lv_iconst (v := nI 2) hx hb dX3_signKind_54 (by decide) ?_
    exact W.iret (v := nI 2) hx hb hr (fun t ht hW => ⟨nI 2, rfl, (by decide), ht⟩) (fun _ h => by cases h) dX3_signKind_55
  · subst h
    refine lv_lookup (off := 60) (tgt := 61) hx hb dX3_signKind_1 (by decide) (by decide) (by decide) ?_
    refine lv_bipush (v := nI 16) hx hb dX3_signKind_61 (by decide) ?_
    exact W.iret (v := nI 16) hx hb hr (fun t ht hW => ⟨nI 16, rfl, (by decide), ht⟩) (fun _ h => by cases h) dX3_signKind_63
  · subst h
    refine lv_lookup (off := 55) (tgt := 56) hx hb dX3_signKind_1 (by decide) (by decide) (by decide) ?_
    refine lv_iconst (v := nI 4) hx hb dX3_signKind_56 (by decide) ?_
    exact W.iret (v := nI 4) hx hb hr (fun t ht hW => ⟨nI 4, rfl, (by decide), ht⟩) (fun _ h => by cases h) dX3_signKind_57
  · subst h
    refine lv_lookup (off := 57) (tgt := 58) hx hb dX3_signKind_1 (by decide) (by decide) (by decide) ?_
    refine lv_bipush (v := nI 8) hx hb dX3_signKind_58 (by decide) ?_
    exact W.iret (v := nI 8) hx hb hr (fun t ht hW => ⟨nI 8, rfl, (by decide), ht⟩) (fun _ h => by cases h) dX3_signKind_60
  · refine lv_lookup (off := 63) (tgt := 64) hx hb dX3_signKind_1 (by decide) ((lv_osw (k := nI 40) (fun q => h.1 ((nI_eq (by omega) (by omega)).mp q)) (by decide)).trans ( (lv_osw (k := nI 41) (fun q => h.2.1 ((nI_eq (by omega) (by omega)).mp q)) (by decide)).trans ( (lv_osw (k := nI 58) (fun q => h.2.2.1 ((nI_eq (by omega) (by omega)).mp q)) (by decide)).trans ( (lv_osw (k := nI 123) (fun q => h.2.2.2.1 ((nI_eq (by omega) (by omega)).mp q)) (by decide)).trans ( (lv_osw (k := nI 125) (fun q => h.2.2.2.2 ((nI_eq (by omega) (by omega)).mp q)) (by decide)).trans ( rfl)))))) (by decide) ?_
    refine lv_iconst (v := nI 0) hx hb dX3_signKind_64 (by decide) ?_
    exact W.iret (v := nI 0) hx hb hr (fun t ht hW => ⟨nI 0, rfl, (by unfold sgF; rw [if_neg h.1, if_neg h.2.1, if_neg h.2.2.1, if_neg h.2.2.2.1, if_neg h.2.2.2.2]; rfl), ht⟩) (fun _ h => by cases h) dX3_signKind_65
theorem bt_okL {cs : List Nat} (h : cs.length < 2 ^ 31) (h2 : cs.all (fun x => decide (x < 256)) = true) : bt_ok cs := ⟨h, fun k => by
  rw [List.getD_eq_getElem?_getD]
  cases hk : cs[k]? with
  | none => decide
  | some v => exact of_decide_eq_true (List.all_eq_true.mp h2 v (List.mem_of_getElem? hk))⟩
theorem bt_noL {ws : List (List Nat)} (h : ws.all (fun w => w.all (fun x => decide (x ≠ 32))) = true) : ∀ w, w ∈ ws → ∀ j, j < w.length → w.getD j 0 ≠ 32 := fun w hw j hj => by
  have h1 := List.all_eq_true.mp h w hw
  rw [List.getD_eq_getElem?_getD, List.getElem?_eq_getElem hj]
  exact of_decide_eq_true (List.all_eq_true.mp h1 _ (List.getElem_mem hj))
theorem ok_insW : bt_ok (flatW insW) := bt_okL (by decide +kernel) (by decide +kernel)
theorem ok_kwW : bt_ok (flatW kwW) := bt_okL (by decide +kernel) (by decide +kernel)
theorem no_insW : ∀ w, w ∈ insW → ∀ j, j < w.length → w.getD j 0 ≠ 32 := bt_noL (by decide +kernel)
theorem no_kwW : ∀ w, w ∈ kwW → ∀ j, j < w.length → w.getD j 0 ≠ 32 := bt_noL (by decide +kernel)
set_option maxHeartbeats 4000000 in
set_option maxRecDepth 100000 in
/-- Tokens.keywordKind -/
theorem kX3_keywordKind (l : Launch) (D : va_G) (cB cI : ClassId) (aK aV : Nat → Nat) (t : Nat) (r1 r2 r3 r4 : Nat) (wd : Int32) (tx r0 q0 len k0 n0 : Nat) (f0 : Nat → Int32) (b0 e0 : Nat) (hlen : len ≤ 4 * n0) (hn0 : n0 ≤ 16000) (hb0 : b0 < e0) (he0 : e0 ≤ len) : Met l yX3_keywordKind wsX3_keywordKind ({ frames := 6, cells := 0, slots := 0, locals := 137 }) (va_Pc [.ref t, .int (nI b0), .int (nI e0)] (bt_RG D cB cI [(t, .inr (3, [.ref tx, .ref r1, .ref r2, .ref r3, .ref r4, .int wd])), (tx, .inr (2, [.ref r0, .int (nI len)])), (r0, .inr (1, [.ref q0, .int (nI k0)])), (q0, .inl (cI, n0, .inl f0))] aK aV)) (vp_Si (fun r => r = kwF (bY f0) b0 e0)) 0 0 (fun _ => False) := by
  refine Met.ofW (cc := cX3_keywordKind) (maxL := 4) (ret := (some .int)) (by decide) rfl ?_
  intro p e s m args below meth c s₁ B hml hv
  obtain ⟨rfl, ⟨hP, hK, hN⟩, hG⟩ := hv
  have hx := B.exec
  have hb := B.bytes
  have hr := B.returns
  have hts := atoms_spec (ws := wsX3_keywordKind) B.pre
  have hown : s.vm.findClass RX3 = some m.cls := findClass_of_methodNamed B.named
  have hlocks := B.notSynchronized
  have hl := lv_entry ([.ref t, .int (nI b0), .int (nI e0)]) (n := 4) (Nat.le_of_ble_eq_true rfl)
  rw [lg_entry_eq]
  generalize (lg_sl ([.ref t, .int (nI b0), .int (nI e0)]) ++ List.replicate (4 - (lg_sl ([.ref t, .int (nI b0), .int (nI e0)])).length) Slot.unset).toArray = ls at hl ⊢
  have hl : lv_has ls 4 [(0, .ref t), (1, .int (nI b0)), (2, .int (nI e0))] := hl
  refine lv_aload_n hx hb dX3_keywordKind_0 rfl (lv_at hl 0 rfl) ?_
  refine va_ldcS (own := RX3) (tx := "class of field static method catch int none ") hx hb hown ((hG.2 1 (by decide)).1) dX3_keywordKind_1 ?_
  refine lv_iload_n hx hb dX3_keywordKind_3 rfl (lv_at hl 1 rfl) ?_
  refine lv_iload_n hx hb dX3_keywordKind_4 rfl (lv_at hl 2 rfl) ?_
  have hPc := hP.sub (ws' := [(t, .inr (3, [.ref tx, .ref r1, .ref r2, .ref r3, .ref r4, .int wd])), (tx, .inr (2, [.ref r0, .int (nI len)])), (r0, .inr (1, [.ref q0, .int (nI k0)])), (q0, .inl (cI, n0, .inl f0))]) [0, 1, 2, 3] rfl
  refine vp_callSi (va_runV (As := [.ref (aK 1), .int (nI b0), .int (nI e0)]) (rest := []) ⟨hx, hb, hml, hown, hts⟩ (kX3_placeIn l D cB cI t r1 r2 r3 r4 wd tx r0 q0 len k0 n0 f0 (flatW kwW) (aK 1) (aV 1) b0 e0 kwW hlen hn0 ok_kwW (by decide) (by omega) (by omega) rfl no_kwW) (cwV 3 hts gX3_keywordKind_X3_placeIn rfl rfl rfl (by decide +kernel) ⟨Nat.le_of_ble_eq_true rfl, Nat.le_of_ble_eq_true rfl⟩) ⟨fun a U g mk q => ⟨q.1, q.2.calling⟩, va_recv hK hPc (ci := 3) (q0 := 0) rfl rfl, fun U hU hW => ⟨rfl, bt_RT.of hU hW hPc hK hN (hG.2 1 (by decide)).2 hG.1⟩⟩ rfl rfl hl.1 rfl (lv_room (Nat.le_of_ble_eq_true rfl)) dX3_keywordKind_5 ⟨Nat.zero_le _, Nat.zero_le _⟩).run (fun r_5 hr_5 => ?_)
  subst hr_5
  refine lv_istore_n (lv' := [(3, .int (ixW (bY f0) b0 e0 kwW 0)), (0, .ref t), (1, .int (nI b0)), (2, .int (nI e0))]) hx hb dX3_keywordKind_8 rfl hl (by decide) rfl (fun ls hl => ?_)
  refine lv_iload_n hx hb dX3_keywordKind_9 rfl (lv_at hl 0 rfl) ?_
  refine lv_iconst (v := -1) hx hb dX3_keywordKind_10 (by decide) ?_
  refine lv_icmp_ne (tgt := 18) hx hb dX3_keywordKind_11 (by decide) (fun c_11 => ?_) (fun c_11 => ?_)
  · refine lv_sipush (v := nI 1024) hx hb dX3_keywordKind_18 (by decide) ?_
    refine lv_iload_n hx hb dX3_keywordKind_21 rfl (lv_at hl 0 rfl) ?_
    refine lv_ishl hx hb dX3_keywordKind_22 ?_
    exact W.iret (v := (nI 1024 <<< ((ixW (bY f0) b0 e0 kwW 0) &&& 31))) hx hb hr (fun t ht hW => ⟨(nI 1024 <<< ((ixW (bY f0) b0 e0 kwW 0) &&& 31)), rfl, (by unfold kwF; rw [if_neg c_11]; rfl), ht⟩) (fun _ h => by cases h) dX3_keywordKind_23
  · refine lv_iconst (v := nI 0) hx hb dX3_keywordKind_14 (by decide) ?_
    refine lv_goto (tgt := 23) hx hb dX3_keywordKind_15 (by decide) ?_
    exact W.iret (v := nI 0) hx hb hr (fun t ht hW => ⟨nI 0, rfl, (by unfold kwF; rw [if_pos c_11]; rfl), ht⟩) (fun _ h => by cases h) dX3_keywordKind_23
set_option maxHeartbeats 4000000 in
set_option maxRecDepth 100000 in
/-- Tokens.otherKinds -/
theorem kX3_otherKinds (l : Launch) (D : va_G) (cB cI : ClassId) (aK aV : Nat → Nat) (t : Nat) (r1 r2 r3 r4 : Nat) (wd : Int32) (tx r0 q0 len k0 n0 : Nat) (f0 : Nat → Int32) (b0 e0 : Nat) (hlen : len ≤ 4 * n0) (hn0 : n0 ≤ 16000) (hb0 : b0 < e0) (he0 : e0 ≤ len) : Met l yX3_otherKinds wsX3_otherKinds ({ frames := 6, cells := 0, slots := 0, locals := 134 }) (va_Pc [.ref t, .int (nI b0), .int (nI e0)] (bt_RG D cB cI [(t, .inr (3, [.ref tx, .ref r1, .ref r2, .ref r3, .ref r4, .int wd])), (tx, .inr (2, [.ref r0, .int (nI len)])), (r0, .inr (1, [.ref q0, .int (nI k0)])), (q0, .inl (cI, n0, .inl f0))] aK aV)) (vp_Si (fun r => r = otF (bY f0) b0 e0)) 0 0 (fun _ => False) := by
  refine Met.ofW (cc := cX3_otherKinds) (maxL := 3) (ret := (some .int)) (by decide) rfl ?_
  intro p e s m args below meth c s₁ B hml hv
  obtain ⟨rfl, ⟨hP, hK, hN⟩, hG⟩ := hv
  have hx := B.exec
  have hb := B.bytes
  have hr := B.returns
  have hts := atoms_spec (ws := wsX3_otherKinds) B.pre
  have hown : s.vm.findClass RX3 = some m.cls := findClass_of_methodNamed B.named
  have hlocks := B.notSynchronized
  have hl := lv_entry ([.ref t, .int (nI b0), .int (nI e0)]) (n := 3) (Nat.le_of_ble_eq_true rfl)
  rw [lg_entry_eq]
  generalize (lg_sl ([.ref t, .int (nI b0), .int (nI e0)]) ++ List.replicate (3 - (lg_sl ([.ref t, .int (nI b0), .int (nI e0)])).length) Slot.unset).toArray = ls at hl ⊢
  have hl : lv_has ls 3 [(0, .ref t), (1, .int (nI b0)), (2, .int (nI e0))] := hl
  refine lv_aload_n hx hb dX3_otherKinds_0 rfl (lv_at hl 0 rfl) ?_
  refine lv_iload_n hx hb dX3_otherKinds_1 rfl (lv_at hl 1 rfl) ?_
  refine lv_iload_n hx hb dX3_otherKinds_2 rfl (lv_at hl 2 rfl) ?_
  refine lv_bipush (v := nI 65) hx hb dX3_otherKinds_3 (by decide) ?_
  refine lv_bipush (v := nI 90) hx hb dX3_otherKinds_5 (by decide) ?_
  have hPc := hP.sub (ws' := [(t, .inr (3, [.ref tx, .ref r1, .ref r2, .ref r3, .ref r4, .int wd])), (tx, .inr (2, [.ref r0, .int (nI len)])), (r0, .inr (1, [.ref q0, .int (nI k0)])), (q0, .inl (cI, n0, .inl f0))]) [0, 1, 2, 3] rfl
  refine vp_callSi (va_runV (As := [.int (nI b0), .int (nI e0), .int (nI 65), .int (nI 90)]) (rest := []) ⟨hx, hb, hml, hown, hts⟩ (kX3_isName l D cB cI t r1 r2 r3 r4 wd tx r0 q0 len k0 n0 f0 b0 e0 65 hlen hn0 (by decide) (by omega) (by omega)) (cwV 4 hts gX3_otherKinds_X3_isName rfl rfl rfl (by decide +kernel) ⟨Nat.le_of_ble_eq_true rfl, Nat.le_of_ble_eq_true rfl⟩) ⟨fun a U g mk q => ⟨q.1, q.2.calling⟩, va_recv hK hPc (ci := 3) (q0 := 0) rfl rfl, fun U hU hW => ⟨rfl, bt_R.of hU hW hPc hK hN⟩⟩ rfl rfl hl.1 rfl (lv_room (Nat.le_of_ble_eq_true rfl)) dX3_otherKinds_7 ⟨Nat.zero_le _, Nat.zero_le _⟩).run (fun r_7 hr_7 => ?_)
  subst hr_7
  refine lv_if_eq (tgt := 16) hx hb dX3_otherKinds_10 (by decide) (fun c_10 => ?_) (fun c_10 => ?_)
  · have h_10 : ¬ (NmP (bY f0) b0 e0 65) := Bt_eq0.mp c_10
    refine lv_aload_n hx hb dX3_otherKinds_16 rfl (lv_at hl 0 rfl) ?_
    refine lv_iload_n hx hb dX3_otherKinds_17 rfl (lv_at hl 1 rfl) ?_
    refine lv_iload_n hx hb dX3_otherKinds_18 rfl (lv_at hl 2 rfl) ?_
    have hPc := hP.sub (ws' := [(t, .inr (3, [.ref tx, .ref r1, .ref r2, .ref r3, .ref r4, .int wd])), (tx, .inr (2, [.ref r0, .int (nI len)])), (r0, .inr (1, [.ref q0, .int (nI k0)])), (q0, .inl (cI, n0, .inl f0))]) [0, 1, 2, 3] rfl
    refine vp_callSi (va_runV (As := [.int (nI b0), .int (nI e0)]) (rest := []) ⟨hx, hb, hml, hown, hts⟩ (kX3_isNumber l D cB cI t r1 r2 r3 r4 wd tx r0 q0 len k0 n0 f0 b0 e0 hlen hn0 hb0 he0) (cwV 2 hts gX3_otherKinds_X3_isNumber rfl rfl rfl (by decide +kernel) ⟨Nat.le_of_ble_eq_true rfl, Nat.le_of_ble_eq_true rfl⟩) ⟨fun a U g mk q => ⟨q.1, q.2.calling⟩, va_recv hK hPc (ci := 3) (q0 := 0) rfl rfl, fun U hU hW => ⟨rfl, bt_R.of hU hW hPc hK hN⟩⟩ rfl rfl hl.1 rfl (lv_room (Nat.le_of_ble_eq_true rfl)) dX3_otherKinds_19 ⟨Nat.zero_le _, Nat.zero_le _⟩).run (fun r_19 hr_19 => ?_)
    subst hr_19
    refine lv_if_eq (tgt := 29) hx hb dX3_otherKinds_22 (by decide) (fun c_22 => ?_) (fun c_22 => ?_)
    · have h_22 : ¬ (NumP (bY f0) b0 e0) := Bt_eq0.mp c_22
      refine lv_aload_n hx hb dX3_otherKinds_29 rfl (lv_at hl 0 rfl) ?_
      refine lv_iload_n hx hb dX3_otherKinds_30 rfl (lv_at hl 1 rfl) ?_
      refine lv_iload_n hx hb dX3_otherKinds_31 rfl (lv_at hl 2 rfl) ?_
      have hPc := hP.sub (ws' := [(t, .inr (3, [.ref tx, .ref r1, .ref r2, .ref r3, .ref r4, .int wd])), (tx, .inr (2, [.ref r0, .int (nI len)])), (r0, .inr (1, [.ref q0, .int (nI k0)])), (q0, .inl (cI, n0, .inl f0))]) [0, 1, 2, 3] rfl
      refine vp_callSi (va_runV (As := [.int (nI b0), .int (nI e0)]) (rest := []) ⟨hx, hb, hml, hown, hts⟩ (kX3_isRowType l D cB cI aK aV t r1 r2 r3 r4 wd tx r0 q0 len k0 n0 f0 b0 e0 hlen hn0 hb0 he0) (cwV 2 hts gX3_otherKinds_X3_isRowType rfl rfl rfl (by decide +kernel) ⟨Nat.le_of_ble_eq_true rfl, Nat.le_of_ble_eq_true rfl⟩) ⟨fun a U g mk q => ⟨q.1, q.2.calling⟩, va_recv hK hPc (ci := 3) (q0 := 0) rfl rfl, fun U hU hW => ⟨rfl, bt_RG.of hU hW hPc hK hN hG⟩⟩ rfl rfl hl.1 rfl (lv_room (Nat.le_of_ble_eq_true rfl)) dX3_otherKinds_32 ⟨Nat.zero_le _, Nat.zero_le _⟩).run (fun r_32 hr_32 => ?_)
      subst hr_32
      refine lv_if_eq (tgt := 42) hx hb dX3_otherKinds_35 (by decide) (fun c_35 => ?_) (fun c_35 => ?_)
      · have h_35 : ¬ (RowP (bY f0) b0 e0) := Bt_eq0.mp c_35
        refine lv_aload_n hx hb dX3_otherKinds_42 rfl (lv_at hl 0 rfl) ?_
        refine lv_iload_n hx hb dX3_otherKinds_43 rfl (lv_at hl 1 rfl) ?_
        refine lv_iload_n hx hb dX3_otherKinds_44 rfl (lv_at hl 2 rfl) ?_
        have hPc := hP.sub (ws' := [(t, .inr (3, [.ref tx, .ref r1, .ref r2, .ref r3, .ref r4, .int wd])), (tx, .inr (2, [.ref r0, .int (nI len)])), (r0, .inr (1, [.ref q0, .int (nI k0)])), (q0, .inl (cI, n0, .inl f0))]) [0, 1, 2, 3] rfl
        refine vp_callSi (va_runV (As := [.int (nI b0), .int (nI e0)]) (rest := []) ⟨hx, hb, hml, hown, hts⟩ (kX3_isReference l D cB cI t r1 r2 r3 r4 wd tx r0 q0 len k0 n0 f0 b0 e0 hlen hn0 hb0 he0) (cwV 2 hts gX3_otherKinds_X3_isReference rfl rfl rfl (by decide +kernel) ⟨Nat.le_of_ble_eq_true rfl, Nat.le_of_ble_eq_true rfl⟩) ⟨fun a U g mk q => ⟨q.1, q.2.calling⟩, va_recv hK hPc (ci := 3) (q0 := 0) rfl rfl, fun U hU hW => ⟨rfl, bt_R.of hU hW hPc hK hN⟩⟩ rfl rfl hl.1 rfl (lv_room (Nat.le_of_ble_eq_true rfl)) dX3_otherKinds_45 ⟨Nat.zero_le _, Nat.zero_le _⟩).run (fun r_45 hr_45 => ?_)
        subst hr_45
        refine lv_if_eq (tgt := 57) hx hb dX3_otherKinds_48 (by decide) (fun c_48 => ?_) (fun c_48 => ?_)
        · have h_48 : ¬ (RefP (bY f0) b0 e0) := Bt_eq0.mp c_48
          refine lv_iconst (v := nI 0) hx hb dX3_otherKinds_57 (by decide) ?_
          exact W.iret (v := nI 0) hx hb hr (fun t ht hW => ⟨nI 0, rfl, (by unfold otF; rw [if_neg h_10, if_neg h_22, if_neg h_35, if_neg h_48]; rfl), ht⟩) (fun _ h => by cases h) dX3_otherKinds_58
        · have h_48 : RefP (bY f0) b0 e0 := Bt_ne0.mp c_48
          refine lv_sipush (v := nI 512) hx hb dX3_otherKinds_51 (by decide) ?_
          refine lv_goto (tgt := 58) hx hb dX3_otherKinds_54 (by decide) ?_
          exact W.iret (v := nI 512) hx hb hr (fun t ht hW => ⟨nI 512, rfl, (by unfold otF; rw [if_neg h_10, if_neg h_22, if_neg h_35, if_pos h_48]; rfl), ht⟩) (fun _ h => by cases h) dX3_otherKinds_58
      · have h_35 : RowP (bY f0) b0 e0 := Bt_ne0.mp c_35
        refine lv_sipush (v := nI 256) hx hb dX3_otherKinds_38 (by decide) ?_
        exact W.iret (v := nI 256) hx hb hr (fun t ht hW => ⟨nI 256, rfl, (by unfold otF; rw [if_neg h_10, if_neg h_22, if_pos h_35]; rfl), ht⟩) (fun _ h => by cases h) dX3_otherKinds_41
    · have h_22 : NumP (bY f0) b0 e0 := Bt_ne0.mp c_22
      refine lv_sipush (v := nI 128) hx hb dX3_otherKinds_25 (by decide) ?_
      exact W.iret (v := nI 128) hx hb hr (fun t ht hW => ⟨nI 128, rfl, (by unfold otF; rw [if_neg h_10, if_pos h_22]; rfl), ht⟩) (fun _ h => by cases h) dX3_otherKinds_28
  · have h_10 : NmP (bY f0) b0 e0 65 := Bt_ne0.mp c_10
    refine lv_bipush (v := nI 64) hx hb dX3_otherKinds_13 (by decide) ?_
    exact W.iret (v := nI 64) hx hb hr (fun t ht hW => ⟨nI 64, rfl, (by unfold otF; rw [if_pos h_10]; rfl), ht⟩) (fun _ h => by cases h) dX3_otherKinds_15
