set_option maxHeartbeats 4000000 in
set_option maxRecDepth 100000 in
/-- the law's loop -/
theorem law_loop {p : Program} {l : Launch} {e : Env} {s : State} {m : MethodId} {below : List Frame} {meth : Method} {c : Code} {b L : Nat} {xs : Nat → Int32} {D : va_G} {cB cI : ClassId} {A : Nat → Prop} {aK aV : Nat → Nat} {tO : Nat} {bx fd tx t pg mo r1 r2 r3 r4 R0 R1 R2 R3 R4 R5 : Nat} {Z : Nat → Nat} (C0 : lwC p s m meth c b L xs D cB cI A aK aV tO) : ∀ (fu i : Nat), i ≤ L → L + 1 ≤ i + fu → lwGo p l e s m below meth c b D cB cI A bx fd tx t pg mo r1 r2 r3 r4 R0 R1 R2 R3 R4 R5 Z (lw_Z below #[Value.ref b] s) i 18 := by
  intro fu
  induction fu with
  | zero => intro i h1 h2; exact absurd h2 (by omega)
  | succ fu ih =>
    intro i hi hfu
    have C1 := C0
    intro al k9 n9 len k0 n0 n a lv nC nM nL r9 r0 q9 q0 fa wd ma q Qr f9 f0 gb gt gf go f F g ts C M LL LM H locs hI hP hD hS ls hl
    obtain ⟨⟨hx, hb, hr, hml, hown, hts, hX, hbl, hlocks, hgv⟩, hK, hN, hG, hO, hA, hA2, hbA, hL⟩ := C1
    have hts := fun w h => hts w (wsL_law_in w h)
    have hown : s.vm.findClass RL = some m.cls := hown
    obtain ⟨⟨hal, hk9a, hlna⟩, ⟨hk9, hlen, hTn, hCn, hMn, hLn⟩, ⟨hc9, hc0, hcn, hcC, hcM, hcL⟩, hfed, htxt, htq, htr, hrp, hrg, hlm, hll⟩ := id hI
    have hb9 := (cp_b hc9).2
    have hb0 := (cp_b hc0).2
    have hbn := (cp_b hcn).2
    have hbC := (cp_b hcC).2
    have hbM := (cp_b hcM).2
    have hbL := (cp_b hcL).2
    have hlml := fst_len hlm
    refine lv_iload_n hx hb dL_law_18 rfl (lv_at hl 3 rfl) ?_
    refine lv_aload_n hx hb dL_law_19 rfl (lv_at hl 0 rfl) ?_
    refine va_slen hx hb hX hbl hbA hS dL_law_20 ?_
    refine bt_topi (y := nI L) rfl ?_
    refine lv_bipush (v := nI 6) hx hb dL_law_21 (by decide) ?_
    refine lv_isub hx hb dL_law_23 ?_
    refine lv_icmp_gt (tgt := 424) hx hb dL_law_24 (by decide) (fun c_24 => ?_) (fun c_24 => ?_)
    · refine lv_iconst (v := 1) hx hb dL_law_424 (by decide) ?_
      refine va_forget (fun q hq => hA2 _ (hS.2.2 q hq)) ?_
      refine W.widen (k := 600000) (n := 7302250) (show (39 + (n9 + n0 + 4 * n + nC + 2 * nM + 3 * nL)) ≤ 600000 by omega) (show (144263 + 3 * (n9 + n0 + 4 * n + nC + 2 * nM + 3 * nL)) ≤ 7302250 by omega) ?_
      exact lw_ret hx hb hr hlocks dL_law_425
    · have hi6 : i + 6 ≤ L := law_hd (by omega) hi c_24
      have hgo := ih (i + 6) hi6 (by omega)
      refine lv_aload_n hx hb dL_law_27 rfl (lv_at hl 0 rfl) ?_
      refine lv_iload_n hx hb dL_law_28 rfl (lv_at hl 3 rfl) ?_
      refine va_sld hx hb hX hbl hbA hS (vp_in_nI (by omega) (by omega)) dL_law_29 ?_
      rw [nI_clamp (by omega)]
      refine lv_bipush (v := nI 15) hx hb dL_law_30 (by decide) ?_
      refine lv_iand hx hb dL_law_32 ?_
      obtain ⟨sv, hsv, hsve⟩ := and15 (xs i)
      refine bt_topi hsve ?_
      clear hsve
      rcases (show sv = 0 ∨ sv = 1 ∨ sv = 2 ∨ sv = 3 ∨ sv = 4 ∨ sv = 5 ∨ sv = 6 ∨ sv = 7 ∨ sv = 8 ∨ sv = 9 ∨ sv = 10 ∨ sv = 11 ∨ sv = 12 ∨ sv = 13 ∨ sv = 14 ∨ sv = 15 by omega) with rfl | rfl | rfl | rfl | rfl | rfl | rfl | rfl | rfl | rfl | rfl | rfl | rfl | rfl | rfl | rfl
      · refine lv_tableIn (off := 63) (tgt := 96) hx hb dL_law_33 (by decide) (by decide) (by decide) (by decide) ?_
        exact law_c0 C0 hi6 hgo al k9 n9 len k0 n0 n a lv nC nM nL r9 r0 q9 q0 fa wd ma q Qr f9 f0 gb gt gf go f F g ts C M LL LM H locs hI hP hD hS ls hl
      · refine lv_tableIn (off := 126) (tgt := 159) hx hb dL_law_33 (by decide) (by decide) (by decide) (by decide) ?_
        exact law_c1 C0 hi6 hgo al k9 n9 len k0 n0 n a lv nC nM nL r9 r0 q9 q0 fa wd ma q Qr f9 f0 gb gt gf go f F g ts C M LL LM H locs hI hP hD hS ls hl
      · refine lv_tableIn (off := 149) (tgt := 182) hx hb dL_law_33 (by decide) (by decide) (by decide) (by decide) ?_
        exact law_c2 C0 hi6 hgo al k9 n9 len k0 n0 n a lv nC nM nL r9 r0 q9 q0 fa wd ma q Qr f9 f0 gb gt gf go f F g ts C M LL LM H locs hI hP hD hS ls hl
      · refine lv_tableIn (off := 162) (tgt := 195) hx hb dL_law_33 (by decide) (by decide) (by decide) (by decide) ?_
        exact law_c3 C0 hi6 hgo al k9 n9 len k0 n0 n a lv nC nM nL r9 r0 q9 q0 fa wd ma q Qr f9 f0 gb gt gf go f F g ts C M LL LM H locs hI hP hD hS ls hl
      · refine lv_tableIn (off := 175) (tgt := 208) hx hb dL_law_33 (by decide) (by decide) (by decide) (by decide) ?_
        exact law_c4 C0 hi6 hgo al k9 n9 len k0 n0 n a lv nC nM nL r9 r0 q9 q0 fa wd ma q Qr f9 f0 gb gt gf go f F g ts C M LL LM H locs hI hP hD hS ls hl
      · refine lv_tableIn (off := 198) (tgt := 231) hx hb dL_law_33 (by decide) (by decide) (by decide) (by decide) ?_
        exact law_c5 C0 hi6 hgo al k9 n9 len k0 n0 n a lv nC nM nL r9 r0 q9 q0 fa wd ma q Qr f9 f0 gb gt gf go f F g ts C M LL LM H locs hI hP hD hS ls hl
      · refine lv_tableIn (off := 247) (tgt := 280) hx hb dL_law_33 (by decide) (by decide) (by decide) (by decide) ?_
        exact law_c6 C0 hi6 hgo al k9 n9 len k0 n0 n a lv nC nM nL r9 r0 q9 q0 fa wd ma q Qr f9 f0 gb gt gf go f F g ts C M LL LM H locs hI hP hD hS ls hl
      · refine lv_tableIn (off := 270) (tgt := 303) hx hb dL_law_33 (by decide) (by decide) (by decide) (by decide) ?_
        exact law_c7 C0 hi6 hgo al k9 n9 len k0 n0 n a lv nC nM nL r9 r0 q9 q0 fa wd ma q Qr f9 f0 gb gt gf go f F g ts C M LL LM H locs hI hP hD hS ls hl
      · refine lv_tableIn (off := 293) (tgt := 326) hx hb dL_law_33 (by decide) (by decide) (by decide) (by decide) ?_
        exact law_c8 C0 hi6 hgo al k9 n9 len k0 n0 n a lv nC nM nL r9 r0 q9 q0 fa wd ma q Qr f9 f0 gb gt gf go f F g ts C M LL LM H locs hI hP hD hS ls hl
      · refine lv_tableIn (off := 316) (tgt := 349) hx hb dL_law_33 (by decide) (by decide) (by decide) (by decide) ?_
        exact law_c9 C0 hi6 hgo al k9 n9 len k0 n0 n a lv nC nM nL r9 r0 q9 q0 fa wd ma q Qr f9 f0 gb gt gf go f F g ts C M LL LM H locs hI hP hD hS ls hl
      · refine lv_tableIn (off := 339) (tgt := 372) hx hb dL_law_33 (by decide) (by decide) (by decide) (by decide) ?_
        exact law_c10 C0 hi6 hgo al k9 n9 len k0 n0 n a lv nC nM nL r9 r0 q9 q0 fa wd ma q Qr f9 f0 gb gt gf go f F g ts C M LL LM H locs hI hP hD hS ls hl
      · refine lv_tableIn (off := 362) (tgt := 395) hx hb dL_law_33 (by decide) (by decide) (by decide) (by decide) ?_
        exact law_c11 C0 hi6 hgo al k9 n9 len k0 n0 n a lv nC nM nL r9 r0 q9 q0 fa wd ma q Qr f9 f0 gb gt gf go f F g ts C M LL LM H locs hI hP hD hS ls hl
      · refine lv_tableOut (tgt := 418) hx hb dL_law_33 (by decide) (by decide) ?_
        refine lv_iinc (v := nI (i + 6)) (lv' := [(3, .int (nI (i + 6))), (0, .ref b), (1, .ref bx), (2, .ref mo)]) hx hb dL_law_418 hl (k := 3) rfl (nI_add i 6) (by decide) rfl (fun ls hl => ?_)
        refine lv_goto (tgt := 18) hx hb dL_law_421 (by decide) ?_
        exact hgo al k9 n9 len k0 n0 n a lv nC nM nL r9 r0 q9 q0 fa wd ma q Qr f9 f0 gb gt gf go f F g ts C M LL LM H locs ⟨⟨by omega, hk9a, hlna⟩, ⟨hk9, hlen, hTn, hCn, hMn, hLn⟩, ⟨hc9, hc0, hcn, hcC, hcM, hcL⟩, hfed, htxt, htq, htr, hrp, hrg, hlm, Or.inr (by omega)⟩ hP hD hS ls (lv_sub hl [1, 2, 3, 0] rfl)
      · refine lv_tableOut (tgt := 418) hx hb dL_law_33 (by decide) (by decide) ?_
        refine lv_iinc (v := nI (i + 6)) (lv' := [(3, .int (nI (i + 6))), (0, .ref b), (1, .ref bx), (2, .ref mo)]) hx hb dL_law_418 hl (k := 3) rfl (nI_add i 6) (by decide) rfl (fun ls hl => ?_)
        refine lv_goto (tgt := 18) hx hb dL_law_421 (by decide) ?_
        exact hgo al k9 n9 len k0 n0 n a lv nC nM nL r9 r0 q9 q0 fa wd ma q Qr f9 f0 gb gt gf go f F g ts C M LL LM H locs ⟨⟨by omega, hk9a, hlna⟩, ⟨hk9, hlen, hTn, hCn, hMn, hLn⟩, ⟨hc9, hc0, hcn, hcC, hcM, hcL⟩, hfed, htxt, htq, htr, hrp, hrg, hlm, Or.inr (by omega)⟩ hP hD hS ls (lv_sub hl [1, 2, 3, 0] rfl)
      · refine lv_tableOut (tgt := 418) hx hb dL_law_33 (by decide) (by decide) ?_
        refine lv_iinc (v := nI (i + 6)) (lv' := [(3, .int (nI (i + 6))), (0, .ref b), (1, .ref bx), (2, .ref mo)]) hx hb dL_law_418 hl (k := 3) rfl (nI_add i 6) (by decide) rfl (fun ls hl => ?_)
        refine lv_goto (tgt := 18) hx hb dL_law_421 (by decide) ?_
        exact hgo al k9 n9 len k0 n0 n a lv nC nM nL r9 r0 q9 q0 fa wd ma q Qr f9 f0 gb gt gf go f F g ts C M LL LM H locs ⟨⟨by omega, hk9a, hlna⟩, ⟨hk9, hlen, hTn, hCn, hMn, hLn⟩, ⟨hc9, hc0, hcn, hcC, hcM, hcL⟩, hfed, htxt, htq, htr, hrp, hrg, hlm, Or.inr (by omega)⟩ hP hD hS ls (lv_sub hl [1, 2, 3, 0] rfl)
      · refine lv_tableOut (tgt := 418) hx hb dL_law_33 (by decide) (by decide) ?_
        refine lv_iinc (v := nI (i + 6)) (lv' := [(3, .int (nI (i + 6))), (0, .ref b), (1, .ref bx), (2, .ref mo)]) hx hb dL_law_418 hl (k := 3) rfl (nI_add i 6) (by decide) rfl (fun ls hl => ?_)
        refine lv_goto (tgt := 18) hx hb dL_law_421 (by decide) ?_
        exact hgo al k9 n9 len k0 n0 n a lv nC nM nL r9 r0 q9 q0 fa wd ma q Qr f9 f0 gb gt gf go f F g ts C M LL LM H locs ⟨⟨by omega, hk9a, hlna⟩, ⟨hk9, hlen, hTn, hCn, hMn, hLn⟩, ⟨hc9, hc0, hcn, hcC, hcM, hcL⟩, hfed, htxt, htq, htr, hrp, hrg, hlm, Or.inr (by omega)⟩ hP hD hS ls (lv_sub hl [1, 2, 3, 0] rfl)
