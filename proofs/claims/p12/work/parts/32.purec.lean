theorem stepC_same {kd : Nat → Int32} {T : Nat} {id id2 : Nat → Int32} (h : ∀ j, j < T → id j = id2 j) (a lv : Nat) (C : List Nat) (M : List (Nat × Nat)) (L : List (Nat × Int32)) : stepC (XP kd T) T id a lv C M L = stepC (XP kd T) T id2 a lv C M L := by
  have hl : linC (XP kd T) T id a C M L = linC (XP kd T) T id2 a C M L := by
    unfold linC
    by_cases q : XP kd T 32 a
    · rw [if_pos q, if_pos q, h a q.1]
    · rw [if_neg q, if_neg q]
  unfold stepC
  rw [hl]
theorem runC_same {kd : Nat → Int32} {T : Nat} {id id2 : Nat → Int32} (h : ∀ j, j < T → id j = id2 j) : ∀ (n : Nat) (x : PSt), runC (XP kd T) T id n x = runC (XP kd T) T id2 n x := by
  intro n
  induction n with
  | zero => intro x; rfl
  | succ n ih =>
    intro x
    obtain ⟨a, lv, C, M, L⟩ := x
    have hst := stepC_same (kd := kd) h a lv C M L
    by_cases he : lv = 0 ∧ T ≤ a
    · rw [runC_end he.1 he.2, runC_end he.1 he.2]
    · by_cases hs : (stepC (XP kd T) T id a lv C M L).1 = true
      · rw [runC_go he hs, runC_go he (by rw [← hst]; exact hs), ih, hst]
      · rw [runC_no he hs, runC_no he (by rw [← hst]; exact hs), hst]
/-- two states that are alike but for the kinds of lines -/
def tieP (x y : PSt) : Prop := x.1 = y.1 ∧ x.2.1 = y.2.1 ∧ x.2.2.1 = y.2.2.1 ∧ x.2.2.2.1 = y.2.2.2.1 ∧ x.2.2.2.2.map Prod.fst = y.2.2.2.2.map Prod.fst
theorem map1 {L L2 : List (Nat × Int32)} {a : Nat} {c c2 : Int32} (h : L.map Prod.fst = L2.map Prod.fst) : (L ++ [(a, c)]).map Prod.fst = (L2 ++ [(a, c2)]).map Prod.fst := by
  rw [List.map_append, List.map_append, h] <;> rfl
theorem cls_L (X : Int32 → Nat → Prop) (a : Nat) (C : List Nat) (M : List (Nat × Nat)) : ∃ (b : Bool) (a2 lv2 : Nat) (C2 : List Nat), ∀ L, clsF X a C M L = (b, a2, lv2, C2, M, L) := by
  by_cases hc : (seqT X [1024, 64] a).1 = false
  · exact ⟨false, (seqT X [1024, 64] a).2, 0, C, fun L => by unfold clsF; rw [if_pos hc]⟩
  · exact ⟨(seqT X [2048, 64, 4] (a + 2)).1, (seqT X [2048, 64, 4] (a + 2)).2, (if (seqT X [2048, 64, 4] (a + 2)).1 then 1 else 0), C ++ [a + 1], fun L => by unfold clsF; rw [if_neg hc]⟩
theorem mem_L (X : Int32 → Nat → Prop) (T a : Nat) (C : List Nat) (M : List (Nat × Nat)) : ∃ (b : Bool) (a2 lv2 : Nat) (M2 : List (Nat × Nat)), ∀ L, memF X T a C M L = (b, a2, lv2, C, M2, L) := by
  by_cases hc : (seqT X [28672, 32] a).1 = false
  · exact ⟨false, (seqT X [28672, 32] a).2, 1, M, fun L => by unfold memF; rw [if_pos hc]⟩
  · by_cases hk : mkF X a = 0
    · exact ⟨(seqT X [65856] (a + 2)).1, (seqT X [65856] (a + 2)).2, 1, M ++ [(mkF X a, a + 1)], fun L => by unfold memF; rw [if_neg hc, if_pos hk]⟩
    · exact ⟨(rouF X T (a + 2)).1, (rouF X T (a + 2)).2, (if (rouF X T (a + 2)).1 then 2 else 1), M ++ [(mkF X a, a + 1)], fun L => by unfold memF; rw [if_neg hc, if_neg hk]⟩
theorem lin_tie {kd : Nat → Int32} {T a : Nat} {id : Nat → Int32} {C : List Nat} {M : List (Nat × Nat)} {L L2 : List (Nat × Int32)} (h : L.map Prod.fst = L2.map Prod.fst) : ((linC (XP kd T) T id a C M L).1 = (linF (XP kd T) id a C M L2).1 ∧ tieP (linC (XP kd T) T id a C M L).2 (linF (XP kd T) id a C M L2).2) ∨ (a < T ∧ T ≤ a + 1 ∧ linC (XP kd T) T id a C M L = (false, a + 1, 2, C, M, L ++ [(a, -1)]) ∧ ∃ c, (linF (XP kd T) id a C M L2).2 = (a + 1, 2, C, M, L2 ++ [(a, c)])) := by
  by_cases h32 : XP kd T 32 a
  · by_cases h16 : XP kd T 16 (a + 1)
    · have e1 : linC (XP kd T) T id a C M L = (true, a + 2, 2, C, M, L ++ [(a, 0)]) := by unfold linC; rw [if_pos h32, if_pos h16]
      have e2 : linF (XP kd T) id a C M L2 = (true, a + 2, 2, C, M, L2 ++ [(a, 0)]) := by unfold linF; rw [if_pos h32, if_pos h16]
      rw [e1, e2]
      exact Or.inl ⟨rfl, rfl, rfl, rfl, rfl, map1 h⟩
    · by_cases he : T ≤ a + 1
      · refine Or.inr ⟨h32.1, he, (by unfold linC; rw [if_pos h32, if_neg h16, if_pos he]), ?_⟩
        have hx : ∀ (b : Int32) (r : List Int32), seqT (XP kd T) (b :: r) (a + 1) = (false, a + 1) := fun b r => seqT_f (fun q => absurd q.1 (by omega))
        by_cases hc : XP kd T 32768 a
        · exact ⟨1, by unfold linF; rw [if_pos h32, if_neg h16, if_pos hc, hx] <;> rfl⟩
        · refine ⟨lcF (id a), ?_⟩
          have ho : (oprF (XP kd T) (id a) (a + 1)).2 = a + 1 := by
            unfold oprF
            split
            · rfl
            · cases hq : opsL (id a).toNatClampNeg with
              | nil => rw [seqT] <;> rfl
              | cons b r => rw [hx] <;> rfl
          unfold linF
          rw [if_pos h32, if_neg h16, if_neg hc, ho] <;> rfl
      · by_cases hc : XP kd T 32768 a
        · have e1 : linC (XP kd T) T id a C M L = ((seqT (XP kd T) [32, 32, 32, 64] (a + 1)).1, (seqT (XP kd T) [32, 32, 32, 64] (a + 1)).2, 2, C, M, L ++ [(a, 1)]) := by unfold linC; rw [if_pos h32, if_neg h16, if_neg he, if_pos hc]
          have e2 : linF (XP kd T) id a C M L2 = ((seqT (XP kd T) [32, 32, 32, 64] (a + 1)).1, (seqT (XP kd T) [32, 32, 32, 64] (a + 1)).2, 2, C, M, L2 ++ [(a, 1)]) := by unfold linF; rw [if_pos h32, if_neg h16, if_pos hc]
          rw [e1, e2]
          exact Or.inl ⟨rfl, rfl, rfl, rfl, rfl, map1 h⟩
        · have e1 : linC (XP kd T) T id a C M L = ((oprF (XP kd T) (id a) (a + 1)).1, (oprF (XP kd T) (id a) (a + 1)).2, 2, C, M, L ++ [(a, lcF (id a))]) := by unfold linC; rw [if_pos h32, if_neg h16, if_neg he, if_neg hc]
          have e2 : linF (XP kd T) id a C M L2 = ((oprF (XP kd T) (id a) (a + 1)).1, (oprF (XP kd T) (id a) (a + 1)).2, 2, C, M, L2 ++ [(a, lcF (id a))]) := by unfold linF; rw [if_pos h32, if_neg h16, if_neg hc]
          rw [e1, e2]
          exact Or.inl ⟨rfl, rfl, rfl, rfl, rfl, map1 h⟩
  · have e1 : linC (XP kd T) T id a C M L = (false, a, 2, C, M, L) := by unfold linC; rw [if_neg h32]
    have e2 : linF (XP kd T) id a C M L2 = (false, a, 2, C, M, L2) := by unfold linF; rw [if_neg h32]
    rw [e1, e2]
    exact Or.inl ⟨rfl, rfl, rfl, rfl, rfl, h⟩
theorem step_tie {kd : Nat → Int32} {T a lv : Nat} {id : Nat → Int32} {C : List Nat} {M : List (Nat × Nat)} {L L2 : List (Nat × Int32)} (h : L.map Prod.fst = L2.map Prod.fst) : ((stepC (XP kd T) T id a lv C M L).1 = (stepF (XP kd T) T id a lv C M L2).1 ∧ tieP (stepC (XP kd T) T id a lv C M L).2 (stepF (XP kd T) T id a lv C M L2).2) ∨ (a < T ∧ T ≤ a + 1 ∧ stepC (XP kd T) T id a lv C M L = (false, a + 1, 2, C, M, L ++ [(a, -1)]) ∧ ∃ c, (stepF (XP kd T) T id a lv C M L2).2 = (a + 1, 2, C, M, L2 ++ [(a, c)])) := by
  by_cases h0 : lv = 0
  · obtain ⟨b, a2, lv2, C2, hq⟩ := cls_L (XP kd T) a C M
    have e1 : stepC (XP kd T) T id a lv C M L = clsF (XP kd T) a C M L := by unfold stepC; rw [if_pos h0]
    have e2 : stepF (XP kd T) T id a lv C M L2 = clsF (XP kd T) a C M L2 := by unfold stepF; rw [if_pos h0]
    rw [e1, e2, hq L, hq L2]
    exact Or.inl ⟨rfl, rfl, rfl, rfl, rfl, h⟩
  · by_cases h8 : XP kd T 8 a
    · have e1 : stepC (XP kd T) T id a lv C M L = (true, a + 1, lv - 1, C, M, L) := by unfold stepC; rw [if_neg h0, if_pos h8]
      have e2 : stepF (XP kd T) T id a lv C M L2 = (true, a + 1, lv - 1, C, M, L2) := by unfold stepF; rw [if_neg h0, if_pos h8]
      rw [e1, e2]
      exact Or.inl ⟨rfl, rfl, rfl, rfl, rfl, h⟩
    · by_cases h1 : lv = 1
      · obtain ⟨b, a2, lv2, M2, hq⟩ := mem_L (XP kd T) T a C M
        have e1 : stepC (XP kd T) T id a lv C M L = memF (XP kd T) T a C M L := by unfold stepC; rw [if_neg h0, if_neg h8, if_pos h1]
        have e2 : stepF (XP kd T) T id a lv C M L2 = memF (XP kd T) T a C M L2 := by unfold stepF; rw [if_neg h0, if_neg h8, if_pos h1]
        rw [e1, e2, hq L, hq L2]
        exact Or.inl ⟨rfl, rfl, rfl, rfl, rfl, h⟩
      · have e1 : stepC (XP kd T) T id a lv C M L = linC (XP kd T) T id a C M L := by unfold stepC; rw [if_neg h0, if_neg h8, if_neg h1]
        have e2 : stepF (XP kd T) T id a lv C M L2 = linF (XP kd T) id a C M L2 := by unfold stepF; rw [if_neg h0, if_neg h8, if_neg h1]
        rw [e1, e2]
        exact lin_tie h
/-- both sides come to the same end, but for the kinds of lines -/
theorem run_tie {kd : Nat → Int32} {T : Nat} {id : Nat → Int32} : ∀ (n a lv : Nat) (C : List Nat) (M : List (Nat × Nat)) (L L2 : List (Nat × Int32)), a ≤ T → lv ≤ 2 → T + 1 - a ≤ n → L.map Prod.fst = L2.map Prod.fst → (runC (XP kd T) T id n (a, lv, C, M, L)).1 = (runF (XP kd T) T id n (a, lv, C, M, L2)).1 ∧ tieP (runC (XP kd T) T id n (a, lv, C, M, L)).2 (runF (XP kd T) T id n (a, lv, C, M, L2)).2 := by
  intro n
  induction n with
  | zero => intro a lv C M L L2 h1 h2 h3 h; omega
  | succ n ih =>
    intro a lv C M L L2 h1 h2 h3 h
    by_cases he : lv = 0 ∧ T ≤ a
    · rw [runC_end he.1 he.2, run_end he.1 he.2]
      exact ⟨rfl, rfl, rfl, rfl, rfl, h⟩
    · rcases step_tie (kd := kd) (T := T) (a := a) (lv := lv) (id := id) (C := C) (M := M) h with ⟨q1, q2⟩ | ⟨q1, q2, q3, c, q4⟩
      · by_cases hs : (stepF (XP kd T) T id a lv C M L2).1 = true
        · have hb := step_b (kd := kd) (id := id) (C := C) (M := M) (L := L2) h1 h2
          have h4 := hb.2.2.1 hs
          have h5 := hb.2.1
          have h6 := hb.2.2.2.1
          rw [runC_go he (q1.trans hs), run_go he hs]
          generalize (stepC (XP kd T) T id a lv C M L).2 = x at q2 ⊢
          generalize (stepF (XP kd T) T id a lv C M L2).2 = y at q2 h4 h5 h6 ⊢
          obtain ⟨xa, xl, xC, xM, xL⟩ := x
          obtain ⟨ya, yl, yC, yM, yL⟩ := y
          simp only [tieP] at q2
          obtain ⟨g1, g2, g3, g4, g5⟩ := q2
          simp only at h4 h5 h6
          rw [g1, g2, g3, g4]
          exact ih ya yl yC yM xL yL h5 h6 (by omega) g5
        · rw [runC_no he (by rw [q1]; exact hs), run_no he hs]
          exact ⟨q1, q2⟩
      · have hsC : ¬ (stepC (XP kd T) T id a lv C M L).1 = true := by rw [q3]; exact Bool.false_ne_true
        rw [runC_no he hsC, q3]
        by_cases hs : (stepF (XP kd T) T id a lv C M L2).1 = true
        · rw [run_go he hs, q4]
          obtain ⟨k, hk⟩ : ∃ k, n = k + 1 := ⟨n - 1, by omega⟩
          rw [hk]
          have he2 : ¬ (2 = 0 ∧ T ≤ a + 1) := fun z => absurd z.1 (by decide)
          have n8 : ¬ XP kd T 8 (a + 1) := fun z => absurd z.1 (by omega)
          have n32 : ¬ XP kd T 32 (a + 1) := fun z => absurd z.1 (by omega)
          have hst : stepF (XP kd T) T id (a + 1) 2 C M (L2 ++ [(a, c)]) = (false, a + 1, 2, C, M, L2 ++ [(a, c)]) := by
            unfold stepF
            rw [if_neg (show ¬ 2 = 0 by decide), if_neg n8, if_neg (show ¬ 2 = 1 by decide)]
            unfold linF
            rw [if_neg n32]
          rw [run_no he2 (by rw [hst]; exact Bool.false_ne_true), hst]
          exact ⟨rfl, rfl, rfl, rfl, rfl, map1 h⟩
        · rw [run_no he hs]
          refine ⟨?_, ?_⟩
          · cases hq : (stepF (XP kd T) T id a lv C M L2).1 with
            | true => exact absurd hq hs
            | false => rfl
          · rw [q4]
            exact ⟨rfl, rfl, rfl, rfl, map1 h⟩
