theorem bt_arr {ty : FieldType} (hty : ty = .byte ∨ ty = .int) {args : Array Value} {s : State} (h : (Cond.arrayClass ty).before args s = true) : ∃ cA : ClassId, ArrOfT s cA ty ∧ va_RA s cA ty := by
  obtain ⟨cA, kA, comp, h1, h2, h3⟩ := Cond.arrayClass_spec (args := args) (first := s) (o := none) (s := s) (idx := []) h
  refine ⟨cA, fun n z => ⟨fun k h => (by cases h), kA, h2, comp, h3⟩, ?_⟩
  rcases hty with rfl | rfl <;> exact h1
theorem bt_str {own : String} {k : Nat} {txt : String} {cs : List Nat} {A : Nat → Prop} {args : Array Value} {s : State} (hcs : cs.length < 2 ^ 31) (h0 : (Cond.exactly (.string own k) "java/lang/String").before args s = true) (h1 : (Cond.eq (.field (.string own k) "java/lang/String" "coder" "B") (.int 0)).before args s = true) (h2 : (Cond.arrayOf (.field (.string own k) "java/lang/String" "value" "[B") .byte).before args s = true) (h3 : (Cond.eq (.length (.field (.string own k) "java/lang/String" "value" "[B")) (.int (Int32.ofNat cs.length))).before args s = true) (h4 : ∀ j : Nat, j < cs.length → (Cond.eq (.elem (.field (.string own k) "java/lang/String" "value" "[B") (.int (Int32.ofNat j))) (.int (nI (cs.getD j 0)))).before args s = true) (hr : (Cond.stringRef own k txt).before args s = true) (hA : ∀ a : Nat, a < s.heap.size → ¬ A a) : ∃ q : Nat × Nat, vk_R own k txt q.1 s ∧ bt_T cs q.1 q.2 A s s.heap := by
  obtain ⟨a, c, cA, kA, q1, q2, q3, q4, q5, q6, -⟩ := Cond.exactly_spec (args := args) (first := s) (o := none) (s := s) (idx := []) (t := .string own k) (cls := "java/lang/String") h0
  obtain ⟨t, ht, hT⟩ := va_Tof (f := fun j => .int (nI (cs.getD j 0))) (A := A) hcs h2 (va_eqt h3) (fun j hj => va_eqt (h4 j hj)) hA
  exact ⟨(a, t), vk_R.of hr q1, ⟨cA, q3, q5, by rw [q6]; exact q2, hA a (Array.getElem?_eq_some_iff.mp q3).1⟩, vk_OFof q1 (va_eqt h1) hA, vk_OFof q1 ht hA, hT⟩
theorem bt_nests_in : ∀ w ∈ bt_nests, w ∈ lw_tbl := by decide +kernel
theorem sx_0 : ∀ j : Nat, j < 213 → (flatC (Jvm.Cond.and given_1 narrow_1))[110 + j]? = some (Cond.eq (.elem (.field (.string "BodyText$Tokens" 77) "java/lang/String" "value" "[B") (.int (Int32.ofNat j))) (.int (nI ((sT 0).2.2.2.getD j 0)))) := by decide +kernel
theorem sx_1 : ∀ j : Nat, j < 44 → (flatC (Jvm.Cond.and given_1 narrow_1))[62 + j]? = some (Cond.eq (.elem (.field (.string "BodyText$Tokens" 89) "java/lang/String" "value" "[B") (.int (Int32.ofNat j))) (.int (nI ((sT 1).2.2.2.getD j 0)))) := by decide +kernel
theorem sx_2 : ∀ j : Nat, j < 3 → (flatC (Jvm.Cond.and given_1 narrow_1))[328 + j]? = some (Cond.eq (.elem (.field (.string "BodyText$Tokens" 113) "java/lang/String" "value" "[B") (.int (Int32.ofNat j))) (.int (nI ((sT 2).2.2.2.getD j 0)))) := by decide +kernel
theorem sx_3 : ∀ j : Nat, j < 5 → (flatC (Jvm.Cond.and given_1 narrow_1))[337 + j]? = some (Cond.eq (.elem (.field (.string "BodyTextModel" 96) "java/lang/String" "value" "[B") (.int (Int32.ofNat j))) (.int (nI ((sT 3).2.2.2.getD j 0)))) := by decide +kernel
theorem sx_4 : ∀ j : Nat, j < 2 → (flatC (Jvm.Cond.and given_1 narrow_1))[349 + j]? = some (Cond.eq (.elem (.field (.string "BodyTextModel" 112) "java/lang/String" "value" "[B") (.int (Int32.ofNat j))) (.int (nI ((sT 4).2.2.2.getD j 0)))) := by decide +kernel
theorem sx_5 : ∀ j : Nat, j < 1 → (flatC (Jvm.Cond.and given_1 narrow_1))[359 + j]? = some (Cond.eq (.elem (.field (.string "BodyTextModel" 114) "java/lang/String" "value" "[B") (.int (Int32.ofNat j))) (.int (nI ((sT 5).2.2.2.getD j 0)))) := by decide +kernel
theorem sx_6 : ∀ j : Nat, j < 1 → (flatC (Jvm.Cond.and given_1 narrow_1))[369 + j]? = some (Cond.eq (.elem (.field (.string "BodyTextModel" 116) "java/lang/String" "value" "[B") (.int (Int32.ofNat j))) (.int (nI ((sT 6).2.2.2.getD j 0)))) := by decide +kernel
theorem sx_7 : ∀ j : Nat, j < 5 → (flatC (Jvm.Cond.and given_1 narrow_1))[380 + j]? = some (Cond.eq (.elem (.field (.string "BodyTextModel" 122) "java/lang/String" "value" "[B") (.int (Int32.ofNat j))) (.int (nI ((sT 7).2.2.2.getD j 0)))) := by decide +kernel
theorem sx_8 : ∀ j : Nat, j < 6 → (flatC (Jvm.Cond.and given_1 narrow_1))[396 + j]? = some (Cond.eq (.elem (.field (.string "BodyTextModel" 124) "java/lang/String" "value" "[B") (.int (Int32.ofNat j))) (.int (nI ((sT 8).2.2.2.getD j 0)))) := by decide +kernel
theorem sx_9 : ∀ j : Nat, j < 6 → (flatC (Jvm.Cond.and given_1 narrow_1))[414 + j]? = some (Cond.eq (.elem (.field (.string "BodyTextModel" 126) "java/lang/String" "value" "[B") (.int (Int32.ofNat j))) (.int (nI ((sT 9).2.2.2.getD j 0)))) := by decide +kernel
theorem sx_10 : ∀ j : Nat, j < 1 → (flatC (Jvm.Cond.and given_1 narrow_1))[433 + j]? = some (Cond.eq (.elem (.field (.string "BodyTextModel" 137) "java/lang/String" "value" "[B") (.int (Int32.ofNat j))) (.int (nI ((sT 10).2.2.2.getD j 0)))) := by decide +kernel
theorem sx_11 : ∀ j : Nat, j < 1 → (flatC (Jvm.Cond.and given_1 narrow_1))[448 + j]? = some (Cond.eq (.elem (.field (.string "BodyTextModel" 139) "java/lang/String" "value" "[B") (.int (Int32.ofNat j))) (.int (nI ((sT 11).2.2.2.getD j 0)))) := by decide +kernel
theorem sx_12 : ∀ j : Nat, j < 4 → (flatC (Jvm.Cond.and given_1 narrow_1))[464 + j]? = some (Cond.eq (.elem (.field (.string "BodyTextModel" 141) "java/lang/String" "value" "[B") (.int (Int32.ofNat j))) (.int (nI ((sT 12).2.2.2.getD j 0)))) := by decide +kernel
theorem sx_13 : ∀ j : Nat, j < 1 → (flatC (Jvm.Cond.and given_1 narrow_1))[484 + j]? = some (Cond.eq (.elem (.field (.string "BodyTextModel" 152) "java/lang/String" "value" "[B") (.int (Int32.ofNat j))) (.int (nI ((sT 13).2.2.2.getD j 0)))) := by decide +kernel
theorem sx_14 : ∀ j : Nat, j < 5 → (flatC (Jvm.Cond.and given_1 narrow_1))[502 + j]? = some (Cond.eq (.elem (.field (.string "BodyTextModel" 157) "java/lang/String" "value" "[B") (.int (Int32.ofNat j))) (.int (nI ((sT 14).2.2.2.getD j 0)))) := by decide +kernel
theorem sx_15 : ∀ j : Nat, j < 214 → (flatC (Jvm.Cond.and given_1 narrow_1))[525 + j]? = some (Cond.eq (.elem (.field (.string "BodyTextModel" 159) "java/lang/String" "value" "[B") (.int (Int32.ofNat j))) (.int (nI ((sT 15).2.2.2.getD j 0)))) := by decide +kernel
theorem sx_16 : ∀ j : Nat, j < 46 → (flatC (Jvm.Cond.and given_1 narrow_1))[758 + j]? = some (Cond.eq (.elem (.field (.string "BodyTextModel" 165) "java/lang/String" "value" "[B") (.int (Int32.ofNat j))) (.int (nI ((sT 16).2.2.2.getD j 0)))) := by decide +kernel
theorem sx_17 : ∀ j : Nat, j < 3 → (flatC (Jvm.Cond.and given_1 narrow_1))[824 + j]? = some (Cond.eq (.elem (.field (.string "BodyTextModel" 167) "java/lang/String" "value" "[B") (.int (Int32.ofNat j))) (.int (nI ((sT 17).2.2.2.getD j 0)))) := by decide +kernel
theorem sx_len : ∀ i, i < 18 → (sT i).2.2.2.length = [213, 44, 3, 5, 2, 1, 1, 5, 6, 6, 1, 1, 4, 1, 5, 214, 46, 3].getD i 0 := by decide +kernel
section TX
variable {A : Nat → Prop} {args : Array Value} {s : State}
theorem sy_0 (hs : ∀ w ∈ flatC (Jvm.Cond.and given_1 narrow_1), w.before args s = true) (hr : (Cond.stringRef (sT 0).1 (sT 0).2.1 (sT 0).2.2.1).before args s = true) (hA : ∀ a : Nat, a < s.heap.size → ¬ A a) : ∃ q : Nat × Nat, vk_R (sT 0).1 (sT 0).2.1 (sT 0).2.2.1 q.1 s ∧ bt_T (sT 0).2.2.2 q.1 q.2 A s s.heap := by
  have hn : (sT 0).2.2.2.length = 213 := sx_len 0 (by decide)
  exact bt_str (by rw [hn]; decide) (hs _ (List.mem_of_getElem? (i := 106) (by decide +kernel))) (hs _ (List.mem_of_getElem? (i := 107) (by decide +kernel))) (hs _ (List.mem_of_getElem? (i := 108) (by decide +kernel))) (by rw [hn]; exact (hs _ (List.mem_of_getElem? (i := 109) (by decide +kernel)))) (fun j hj => hs _ (List.mem_of_getElem? (sx_0 j (by rw [hn] at hj; exact hj)))) hr hA
theorem sy_1 (hs : ∀ w ∈ flatC (Jvm.Cond.and given_1 narrow_1), w.before args s = true) (hr : (Cond.stringRef (sT 1).1 (sT 1).2.1 (sT 1).2.2.1).before args s = true) (hA : ∀ a : Nat, a < s.heap.size → ¬ A a) : ∃ q : Nat × Nat, vk_R (sT 1).1 (sT 1).2.1 (sT 1).2.2.1 q.1 s ∧ bt_T (sT 1).2.2.2 q.1 q.2 A s s.heap := by
  have hn : (sT 1).2.2.2.length = 44 := sx_len 1 (by decide)
  exact bt_str (by rw [hn]; decide) (hs _ (List.mem_of_getElem? (i := 58) (by decide +kernel))) (hs _ (List.mem_of_getElem? (i := 59) (by decide +kernel))) (hs _ (List.mem_of_getElem? (i := 60) (by decide +kernel))) (by rw [hn]; exact (hs _ (List.mem_of_getElem? (i := 61) (by decide +kernel)))) (fun j hj => hs _ (List.mem_of_getElem? (sx_1 j (by rw [hn] at hj; exact hj)))) hr hA
theorem sy_2 (hs : ∀ w ∈ flatC (Jvm.Cond.and given_1 narrow_1), w.before args s = true) (hr : (Cond.stringRef (sT 2).1 (sT 2).2.1 (sT 2).2.2.1).before args s = true) (hA : ∀ a : Nat, a < s.heap.size → ¬ A a) : ∃ q : Nat × Nat, vk_R (sT 2).1 (sT 2).2.1 (sT 2).2.2.1 q.1 s ∧ bt_T (sT 2).2.2.2 q.1 q.2 A s s.heap := by
  have hn : (sT 2).2.2.2.length = 3 := sx_len 2 (by decide)
  exact bt_str (by rw [hn]; decide) (hs _ (List.mem_of_getElem? (i := 324) (by decide +kernel))) (hs _ (List.mem_of_getElem? (i := 325) (by decide +kernel))) (hs _ (List.mem_of_getElem? (i := 326) (by decide +kernel))) (by rw [hn]; exact (hs _ (List.mem_of_getElem? (i := 327) (by decide +kernel)))) (fun j hj => hs _ (List.mem_of_getElem? (sx_2 j (by rw [hn] at hj; exact hj)))) hr hA
theorem sy_3 (hs : ∀ w ∈ flatC (Jvm.Cond.and given_1 narrow_1), w.before args s = true) (hr : (Cond.stringRef (sT 3).1 (sT 3).2.1 (sT 3).2.2.1).before args s = true) (hA : ∀ a : Nat, a < s.heap.size → ¬ A a) : ∃ q : Nat × Nat, vk_R (sT 3).1 (sT 3).2.1 (sT 3).2.2.1 q.1 s ∧ bt_T (sT 3).2.2.2 q.1 q.2 A s s.heap := by
  have hn : (sT 3).2.2.2.length = 5 := sx_len 3 (by decide)
  exact bt_str (by rw [hn]; decide) (hs _ (List.mem_of_getElem? (i := 333) (by decide +kernel))) (hs _ (List.mem_of_getElem? (i := 334) (by decide +kernel))) (hs _ (List.mem_of_getElem? (i := 335) (by decide +kernel))) (by rw [hn]; exact (hs _ (List.mem_of_getElem? (i := 336) (by decide +kernel)))) (fun j hj => hs _ (List.mem_of_getElem? (sx_3 j (by rw [hn] at hj; exact hj)))) hr hA
theorem sy_4 (hs : ∀ w ∈ flatC (Jvm.Cond.and given_1 narrow_1), w.before args s = true) (hr : (Cond.stringRef (sT 4).1 (sT 4).2.1 (sT 4).2.2.1).before args s = true) (hA : ∀ a : Nat, a < s.heap.size → ¬ A a) : ∃ q : Nat × Nat, vk_R (sT 4).1 (sT 4).2.1 (sT 4).2.2.1 q.1 s ∧ bt_T (sT 4).2.2.2 q.1 q.2 A s s.heap := by
  have hn : (sT 4).2.2.2.length = 2 := sx_len 4 (by decide)
  exact bt_str (by rw [hn]; decide) (hs _ (List.mem_of_getElem? (i := 345) (by decide +kernel))) (hs _ (List.mem_of_getElem? (i := 346) (by decide +kernel))) (hs _ (List.mem_of_getElem? (i := 347) (by decide +kernel))) (by rw [hn]; exact (hs _ (List.mem_of_getElem? (i := 348) (by decide +kernel)))) (fun j hj => hs _ (List.mem_of_getElem? (sx_4 j (by rw [hn] at hj; exact hj)))) hr hA
theorem sy_5 (hs : ∀ w ∈ flatC (Jvm.Cond.and given_1 narrow_1), w.before args s = true) (hr : (Cond.stringRef (sT 5).1 (sT 5).2.1 (sT 5).2.2.1).before args s = true) (hA : ∀ a : Nat, a < s.heap.size → ¬ A a) : ∃ q : Nat × Nat, vk_R (sT 5).1 (sT 5).2.1 (sT 5).2.2.1 q.1 s ∧ bt_T (sT 5).2.2.2 q.1 q.2 A s s.heap := by
  have hn : (sT 5).2.2.2.length = 1 := sx_len 5 (by decide)
  exact bt_str (by rw [hn]; decide) (hs _ (List.mem_of_getElem? (i := 355) (by decide +kernel))) (hs _ (List.mem_of_getElem? (i := 356) (by decide +kernel))) (hs _ (List.mem_of_getElem? (i := 357) (by decide +kernel))) (by rw [hn]; exact (hs _ (List.mem_of_getElem? (i := 358) (by decide +kernel)))) (fun j hj => hs _ (List.mem_of_getElem? (sx_5 j (by rw [hn] at hj; exact hj)))) hr hA
theorem sy_6 (hs : ∀ w ∈ flatC (Jvm.Cond.and given_1 narrow_1), w.before args s = true) (hr : (Cond.stringRef (sT 6).1 (sT 6).2.1 (sT 6).2.2.1).before args s = true) (hA : ∀ a : Nat, a < s.heap.size → ¬ A a) : ∃ q : Nat × Nat, vk_R (sT 6).1 (sT 6).2.1 (sT 6).2.2.1 q.1 s ∧ bt_T (sT 6).2.2.2 q.1 q.2 A s s.heap := by
  have hn : (sT 6).2.2.2.length = 1 := sx_len 6 (by decide)
  exact bt_str (by rw [hn]; decide) (hs _ (List.mem_of_getElem? (i := 365) (by decide +kernel))) (hs _ (List.mem_of_getElem? (i := 366) (by decide +kernel))) (hs _ (List.mem_of_getElem? (i := 367) (by decide +kernel))) (by rw [hn]; exact (hs _ (List.mem_of_getElem? (i := 368) (by decide +kernel)))) (fun j hj => hs _ (List.mem_of_getElem? (sx_6 j (by rw [hn] at hj; exact hj)))) hr hA
theorem sy_7 (hs : ∀ w ∈ flatC (Jvm.Cond.and given_1 narrow_1), w.before args s = true) (hr : (Cond.stringRef (sT 7).1 (sT 7).2.1 (sT 7).2.2.1).before args s = true) (hA : ∀ a : Nat, a < s.heap.size → ¬ A a) : ∃ q : Nat × Nat, vk_R (sT 7).1 (sT 7).2.1 (sT 7).2.2.1 q.1 s ∧ bt_T (sT 7).2.2.2 q.1 q.2 A s s.heap := by
  have hn : (sT 7).2.2.2.length = 5 := sx_len 7 (by decide)
  exact bt_str (by rw [hn]; decide) (hs _ (List.mem_of_getElem? (i := 376) (by decide +kernel))) (hs _ (List.mem_of_getElem? (i := 377) (by decide +kernel))) (hs _ (List.mem_of_getElem? (i := 378) (by decide +kernel))) (by rw [hn]; exact (hs _ (List.mem_of_getElem? (i := 379) (by decide +kernel)))) (fun j hj => hs _ (List.mem_of_getElem? (sx_7 j (by rw [hn] at hj; exact hj)))) hr hA
theorem sy_8 (hs : ∀ w ∈ flatC (Jvm.Cond.and given_1 narrow_1), w.before args s = true) (hr : (Cond.stringRef (sT 8).1 (sT 8).2.1 (sT 8).2.2.1).before args s = true) (hA : ∀ a : Nat, a < s.heap.size → ¬ A a) : ∃ q : Nat × Nat, vk_R (sT 8).1 (sT 8).2.1 (sT 8).2.2.1 q.1 s ∧ bt_T (sT 8).2.2.2 q.1 q.2 A s s.heap := by
  have hn : (sT 8).2.2.2.length = 6 := sx_len 8 (by decide)
  exact bt_str (by rw [hn]; decide) (hs _ (List.mem_of_getElem? (i := 392) (by decide +kernel))) (hs _ (List.mem_of_getElem? (i := 393) (by decide +kernel))) (hs _ (List.mem_of_getElem? (i := 394) (by decide +kernel))) (by rw [hn]; exact (hs _ (List.mem_of_getElem? (i := 395) (by decide +kernel)))) (fun j hj => hs _ (List.mem_of_getElem? (sx_8 j (by rw [hn] at hj; exact hj)))) hr hA
theorem sy_9 (hs : ∀ w ∈ flatC (Jvm.Cond.and given_1 narrow_1), w.before args s = true) (hr : (Cond.stringRef (sT 9).1 (sT 9).2.1 (sT 9).2.2.1).before args s = true) (hA : ∀ a : Nat, a < s.heap.size → ¬ A a) : ∃ q : Nat × Nat, vk_R (sT 9).1 (sT 9).2.1 (sT 9).2.2.1 q.1 s ∧ bt_T (sT 9).2.2.2 q.1 q.2 A s s.heap := by
  have hn : (sT 9).2.2.2.length = 6 := sx_len 9 (by decide)
  exact bt_str (by rw [hn]; decide) (hs _ (List.mem_of_getElem? (i := 410) (by decide +kernel))) (hs _ (List.mem_of_getElem? (i := 411) (by decide +kernel))) (hs _ (List.mem_of_getElem? (i := 412) (by decide +kernel))) (by rw [hn]; exact (hs _ (List.mem_of_getElem? (i := 413) (by decide +kernel)))) (fun j hj => hs _ (List.mem_of_getElem? (sx_9 j (by rw [hn] at hj; exact hj)))) hr hA
theorem sy_10 (hs : ∀ w ∈ flatC (Jvm.Cond.and given_1 narrow_1), w.before args s = true) (hr : (Cond.stringRef (sT 10).1 (sT 10).2.1 (sT 10).2.2.1).before args s = true) (hA : ∀ a : Nat, a < s.heap.size → ¬ A a) : ∃ q : Nat × Nat, vk_R (sT 10).1 (sT 10).2.1 (sT 10).2.2.1 q.1 s ∧ bt_T (sT 10).2.2.2 q.1 q.2 A s s.heap := by
  have hn : (sT 10).2.2.2.length = 1 := sx_len 10 (by decide)
  exact bt_str (by rw [hn]; decide) (hs _ (List.mem_of_getElem? (i := 429) (by decide +kernel))) (hs _ (List.mem_of_getElem? (i := 430) (by decide +kernel))) (hs _ (List.mem_of_getElem? (i := 431) (by decide +kernel))) (by rw [hn]; exact (hs _ (List.mem_of_getElem? (i := 432) (by decide +kernel)))) (fun j hj => hs _ (List.mem_of_getElem? (sx_10 j (by rw [hn] at hj; exact hj)))) hr hA
theorem sy_11 (hs : ∀ w ∈ flatC (Jvm.Cond.and given_1 narrow_1), w.before args s = true) (hr : (Cond.stringRef (sT 11).1 (sT 11).2.1 (sT 11).2.2.1).before args s = true) (hA : ∀ a : Nat, a < s.heap.size → ¬ A a) : ∃ q : Nat × Nat, vk_R (sT 11).1 (sT 11).2.1 (sT 11).2.2.1 q.1 s ∧ bt_T (sT 11).2.2.2 q.1 q.2 A s s.heap := by
  have hn : (sT 11).2.2.2.length = 1 := sx_len 11 (by decide)
  exact bt_str (by rw [hn]; decide) (hs _ (List.mem_of_getElem? (i := 444) (by decide +kernel))) (hs _ (List.mem_of_getElem? (i := 445) (by decide +kernel))) (hs _ (List.mem_of_getElem? (i := 446) (by decide +kernel))) (by rw [hn]; exact (hs _ (List.mem_of_getElem? (i := 447) (by decide +kernel)))) (fun j hj => hs _ (List.mem_of_getElem? (sx_11 j (by rw [hn] at hj; exact hj)))) hr hA
theorem sy_12 (hs : ∀ w ∈ flatC (Jvm.Cond.and given_1 narrow_1), w.before args s = true) (hr : (Cond.stringRef (sT 12).1 (sT 12).2.1 (sT 12).2.2.1).before args s = true) (hA : ∀ a : Nat, a < s.heap.size → ¬ A a) : ∃ q : Nat × Nat, vk_R (sT 12).1 (sT 12).2.1 (sT 12).2.2.1 q.1 s ∧ bt_T (sT 12).2.2.2 q.1 q.2 A s s.heap := by
  have hn : (sT 12).2.2.2.length = 4 := sx_len 12 (by decide)
  exact bt_str (by rw [hn]; decide) (hs _ (List.mem_of_getElem? (i := 460) (by decide +kernel))) (hs _ (List.mem_of_getElem? (i := 461) (by decide +kernel))) (hs _ (List.mem_of_getElem? (i := 462) (by decide +kernel))) (by rw [hn]; exact (hs _ (List.mem_of_getElem? (i := 463) (by decide +kernel)))) (fun j hj => hs _ (List.mem_of_getElem? (sx_12 j (by rw [hn] at hj; exact hj)))) hr hA
theorem sy_13 (hs : ∀ w ∈ flatC (Jvm.Cond.and given_1 narrow_1), w.before args s = true) (hr : (Cond.stringRef (sT 13).1 (sT 13).2.1 (sT 13).2.2.1).before args s = true) (hA : ∀ a : Nat, a < s.heap.size → ¬ A a) : ∃ q : Nat × Nat, vk_R (sT 13).1 (sT 13).2.1 (sT 13).2.2.1 q.1 s ∧ bt_T (sT 13).2.2.2 q.1 q.2 A s s.heap := by
  have hn : (sT 13).2.2.2.length = 1 := sx_len 13 (by decide)
  exact bt_str (by rw [hn]; decide) (hs _ (List.mem_of_getElem? (i := 480) (by decide +kernel))) (hs _ (List.mem_of_getElem? (i := 481) (by decide +kernel))) (hs _ (List.mem_of_getElem? (i := 482) (by decide +kernel))) (by rw [hn]; exact (hs _ (List.mem_of_getElem? (i := 483) (by decide +kernel)))) (fun j hj => hs _ (List.mem_of_getElem? (sx_13 j (by rw [hn] at hj; exact hj)))) hr hA
theorem sy_14 (hs : ∀ w ∈ flatC (Jvm.Cond.and given_1 narrow_1), w.before args s = true) (hr : (Cond.stringRef (sT 14).1 (sT 14).2.1 (sT 14).2.2.1).before args s = true) (hA : ∀ a : Nat, a < s.heap.size → ¬ A a) : ∃ q : Nat × Nat, vk_R (sT 14).1 (sT 14).2.1 (sT 14).2.2.1 q.1 s ∧ bt_T (sT 14).2.2.2 q.1 q.2 A s s.heap := by
  have hn : (sT 14).2.2.2.length = 5 := sx_len 14 (by decide)
  exact bt_str (by rw [hn]; decide) (hs _ (List.mem_of_getElem? (i := 498) (by decide +kernel))) (hs _ (List.mem_of_getElem? (i := 499) (by decide +kernel))) (hs _ (List.mem_of_getElem? (i := 500) (by decide +kernel))) (by rw [hn]; exact (hs _ (List.mem_of_getElem? (i := 501) (by decide +kernel)))) (fun j hj => hs _ (List.mem_of_getElem? (sx_14 j (by rw [hn] at hj; exact hj)))) hr hA
theorem sy_15 (hs : ∀ w ∈ flatC (Jvm.Cond.and given_1 narrow_1), w.before args s = true) (hr : (Cond.stringRef (sT 15).1 (sT 15).2.1 (sT 15).2.2.1).before args s = true) (hA : ∀ a : Nat, a < s.heap.size → ¬ A a) : ∃ q : Nat × Nat, vk_R (sT 15).1 (sT 15).2.1 (sT 15).2.2.1 q.1 s ∧ bt_T (sT 15).2.2.2 q.1 q.2 A s s.heap := by
  have hn : (sT 15).2.2.2.length = 214 := sx_len 15 (by decide)
  exact bt_str (by rw [hn]; decide) (hs _ (List.mem_of_getElem? (i := 521) (by decide +kernel))) (hs _ (List.mem_of_getElem? (i := 522) (by decide +kernel))) (hs _ (List.mem_of_getElem? (i := 523) (by decide +kernel))) (by rw [hn]; exact (hs _ (List.mem_of_getElem? (i := 524) (by decide +kernel)))) (fun j hj => hs _ (List.mem_of_getElem? (sx_15 j (by rw [hn] at hj; exact hj)))) hr hA
theorem sy_16 (hs : ∀ w ∈ flatC (Jvm.Cond.and given_1 narrow_1), w.before args s = true) (hr : (Cond.stringRef (sT 16).1 (sT 16).2.1 (sT 16).2.2.1).before args s = true) (hA : ∀ a : Nat, a < s.heap.size → ¬ A a) : ∃ q : Nat × Nat, vk_R (sT 16).1 (sT 16).2.1 (sT 16).2.2.1 q.1 s ∧ bt_T (sT 16).2.2.2 q.1 q.2 A s s.heap := by
  have hn : (sT 16).2.2.2.length = 46 := sx_len 16 (by decide)
  exact bt_str (by rw [hn]; decide) (hs _ (List.mem_of_getElem? (i := 754) (by decide +kernel))) (hs _ (List.mem_of_getElem? (i := 755) (by decide +kernel))) (hs _ (List.mem_of_getElem? (i := 756) (by decide +kernel))) (by rw [hn]; exact (hs _ (List.mem_of_getElem? (i := 757) (by decide +kernel)))) (fun j hj => hs _ (List.mem_of_getElem? (sx_16 j (by rw [hn] at hj; exact hj)))) hr hA
theorem sy_17 (hs : ∀ w ∈ flatC (Jvm.Cond.and given_1 narrow_1), w.before args s = true) (hr : (Cond.stringRef (sT 17).1 (sT 17).2.1 (sT 17).2.2.1).before args s = true) (hA : ∀ a : Nat, a < s.heap.size → ¬ A a) : ∃ q : Nat × Nat, vk_R (sT 17).1 (sT 17).2.1 (sT 17).2.2.1 q.1 s ∧ bt_T (sT 17).2.2.2 q.1 q.2 A s s.heap := by
  have hn : (sT 17).2.2.2.length = 3 := sx_len 17 (by decide)
  exact bt_str (by rw [hn]; decide) (hs _ (List.mem_of_getElem? (i := 820) (by decide +kernel))) (hs _ (List.mem_of_getElem? (i := 821) (by decide +kernel))) (hs _ (List.mem_of_getElem? (i := 822) (by decide +kernel))) (by rw [hn]; exact (hs _ (List.mem_of_getElem? (i := 823) (by decide +kernel)))) (fun j hj => hs _ (List.mem_of_getElem? (sx_17 j (by rw [hn] at hj; exact hj)))) hr hA
end TX
theorem st_in : ∀ i, i < 18 → Cond.stringRef (sT i).1 (sT i).2.1 (sT i).2.2.1 ∈ lw_tbl := by decide +kernel
theorem so_el : ∀ j : Nat, j < 46 → (flatC (Jvm.Cond.and given_1 narrow_1))[12 + j]? = some (Cond.eq (.elem (.static "BodyText$Program" "OPERANDS" "[I") (.int (Int32.ofNat j))) (.int (nI (opsI.getD j 0)))) := by decide +kernel
/-- what the premises give -/
theorem bt_given {A : Nat → Prop} {args : Array Value} {s : State} (hts : ∀ w ∈ lw_tbl, w.before args s = true) (hgv : (Jvm.Cond.and given_1 narrow_1).before args s = true) (hA : ∀ a : Nat, a < s.heap.size → ¬ A a) : ∃ (aK aV : Nat → Nat) (tO : Nat), bt_G aK aV A s s.heap ∧ bt_O tO A s s.heap := by
  have hs := flat_of_before _ hgv
  have h0 : ∀ i : Nat, ∃ q : Nat × Nat, i < 18 → vk_R (sT i).1 (sT i).2.1 (sT i).2.2.1 q.1 s ∧ bt_T (sT i).2.2.2 q.1 q.2 A s s.heap := by
    intro i
    by_cases hi : i < 18
    · have hr := hts _ (st_in i hi)
      have h1 : ∃ q : Nat × Nat, vk_R (sT i).1 (sT i).2.1 (sT i).2.2.1 q.1 s ∧ bt_T (sT i).2.2.2 q.1 q.2 A s s.heap := by
        rcases (show i = 0 ∨ i = 1 ∨ i = 2 ∨ i = 3 ∨ i = 4 ∨ i = 5 ∨ i = 6 ∨ i = 7 ∨ i = 8 ∨ i = 9 ∨ i = 10 ∨ i = 11 ∨ i = 12 ∨ i = 13 ∨ i = 14 ∨ i = 15 ∨ i = 16 ∨ i = 17 by omega) with rfl | rfl | rfl | rfl | rfl | rfl | rfl | rfl | rfl | rfl | rfl | rfl | rfl | rfl | rfl | rfl | rfl | rfl
        · exact sy_0 hs hr hA
        · exact sy_1 hs hr hA
        · exact sy_2 hs hr hA
        · exact sy_3 hs hr hA
        · exact sy_4 hs hr hA
        · exact sy_5 hs hr hA
        · exact sy_6 hs hr hA
        · exact sy_7 hs hr hA
        · exact sy_8 hs hr hA
        · exact sy_9 hs hr hA
        · exact sy_10 hs hr hA
        · exact sy_11 hs hr hA
        · exact sy_12 hs hr hA
        · exact sy_13 hs hr hA
        · exact sy_14 hs hr hA
        · exact sy_15 hs hr hA
        · exact sy_16 hs hr hA
        · exact sy_17 hs hr hA
      obtain ⟨q, hq⟩ := h1
      exact ⟨q, fun _ => hq⟩
    · exact ⟨(0, 0), fun h => absurd h hi⟩
  obtain ⟨ad, had⟩ := Classical.axiomOfChoice h0
  obtain ⟨tO, ht, hT⟩ := va_Tof (tm := .static "BodyText$Program" "OPERANDS" "[I") (ty := .int) (N := 46) (f := fun j => .int (nI (opsI.getD j 0))) (A := A) (by decide) (hs _ (List.mem_of_getElem? (i := 10) (by decide +kernel))) (va_eqt (hs _ (List.mem_of_getElem? (i := 11) (by decide +kernel)))) (fun j hj => va_eqt (hs _ (List.mem_of_getElem? (so_el j hj)))) hA
  refine ⟨fun i => (ad i).1, fun i => (ad i).2, tO, ⟨⟨va_Zof (hts (.laysStatic "java/lang/String" "COMPACT_STRINGS" "Z") (by decide +kernel)) (hts (.initialized "java/lang/String") (by decide +kernel)) (va_eqt (hs _ (List.mem_of_getElem? (i := 4) (by decide +kernel)))) hA, va_Zqof (hts (.laysStatic "jdk/internal/util/Preconditions" "SIOOBE_FORMATTER" "Ljava/util/function/BiFunction;") (by decide +kernel)) (hts (.initialized "jdk/internal/util/Preconditions") (by decide +kernel)) (hs _ (List.mem_of_getElem? (i := 5) (by decide +kernel))) hA⟩, fun i hi => had i hi⟩, va_Zref (hts (.laysStatic "BodyText$Program" "OPERANDS" "[I") (by decide +kernel)) (hts (.initialized "BodyText$Program") (by decide +kernel)) ht hA, hT⟩
