theorem mem_close {ts : List (Nat × Nat)} {w : Option Nat} {i : Nat} {p : Nat × Nat} (h : p ∈ closeT ts w i) : p ∈ ts ∨ ∃ b, w = some b ∧ p = (b, i) := by
  cases w with
  | none => exact Or.inl h
  | some b =>
    rcases List.mem_append.mp h with q | q
    · exact Or.inl q
    · exact Or.inr ⟨b, rfl, List.mem_singleton.mp q⟩
/-- every token that is cut is one word or one sign -/
theorem scan_v (B : Nat → Nat) : ∀ i, (∀ p, p ∈ (scanT B i).1 → tokV B p.1 p.2 ∧ p.2 ≤ i) ∧ (∀ b, (scanT B i).2.1 = some b → b < i ∧ sgF (B b) = 0) := by
  intro i
  induction i with
  | zero => exact ⟨fun p h => by simp [scanT] at h, fun b h => by simp [scanT] at h⟩
  | succ i ih =>
    obtain ⟨h1, h2⟩ := ih
    have hc : ∀ p, p ∈ closeT (scanT B i).1 (scanT B i).2.1 i → tokV B p.1 p.2 ∧ p.2 ≤ i + 1 := by
      intro p hp
      rcases mem_close hp with q | ⟨b, q, rfl⟩
      · exact ⟨(h1 p q).1, by have := (h1 p q).2; omega⟩
      · exact ⟨⟨(h2 b q).1, Or.inl (h2 b q).2⟩, Nat.le_succ i⟩
    rw [scanT, stepT]
    split
    · exact ⟨hc, fun b h => by cases h⟩
    · split
      · rename_i hb hs
        refine ⟨fun p hp => ⟨(h1 p hp).1, by have := (h1 p hp).2; omega⟩, fun b h => ?_⟩
        cases hw : (scanT B i).2.1 with
        | none =>
          rw [hw] at h
          cases h
          exact ⟨Nat.lt_succ_self i, hs⟩
        | some b0 =>
          rw [hw] at h
          have hb2 : b0 = b := by simpa using h
          rw [← hb2]
          exact ⟨by have := (h2 b0 hw).1; omega, (h2 b0 hw).2⟩
      · rename_i hb hs
        refine ⟨fun p hp => ?_, fun b h => by cases h⟩
        rcases List.mem_append.mp hp with q | q
        · exact hc p q
        · rw [List.mem_singleton.mp q]
          exact ⟨⟨Nat.lt_succ_self i, Or.inr ⟨hs, rfl⟩⟩, Nat.le_refl _⟩
theorem cutD_v {B : Nat → Nat} {len : Nat} {p : Nat × Nat} (h : p ∈ cutD B len) : tokV B p.1 p.2 ∧ p.2 ≤ len := by
  have hl := cutI_le B len
  rcases mem_close h with q | ⟨b, q, rfl⟩
  · have := (scan_v B (cutI B len)).1 p q
    exact ⟨this.1, by omega⟩
  · have := (scan_v B (cutI B len)).2 b q
    exact ⟨⟨this.1, Or.inl this.2⟩, hl⟩
theorem run_more {kd : Nat → Int32} {T : Nat} {id : Nat → Int32} : ∀ (n : Nat) (x : PSt), x.1 ≤ T → x.2.1 ≤ 2 → T + 1 - x.1 ≤ n → runF (XP kd T) T id (n + 1) x = runF (XP kd T) T id n x := by
  intro n
  induction n with
  | zero => intro x h1 h2 h3; omega
  | succ n ih =>
    intro x h1 h2 h3
    obtain ⟨a, lv, C, M, L⟩ := x
    have h1 : a ≤ T := h1
    have h2 : lv ≤ 2 := h2
    have h3 : T + 1 - a ≤ n + 1 := h3
    by_cases he : lv = 0 ∧ T ≤ a
    · rw [run_end he.1 he.2, run_end he.1 he.2]
    · by_cases hs : (stepF (XP kd T) T id a lv C M L).1 = true
      · have hb := step_b (kd := kd) (id := id) (C := C) (M := M) (L := L) h1 h2
        have h4 := hb.2.2.1 hs
        rw [run_go he hs, run_go he hs]
        exact ih _ hb.2.1 hb.2.2.2.1 (by omega)
      · rw [run_no he hs, run_no he hs]
theorem run_far {kd : Nat → Int32} {T : Nat} {id : Nat → Int32} {x : PSt} (h1 : x.1 ≤ T) (h2 : x.2.1 ≤ 2) {n : Nat} (h3 : T + 1 - x.1 ≤ n) : ∀ k, runF (XP kd T) T id (n + k) x = runF (XP kd T) T id n x := by
  intro k
  induction k with
  | zero => rfl
  | succ k ih => rw [← Nat.add_assoc, run_more (n + k) x h1 h2 (by omega), ih]
theorem fin_run {kd : Nat → Int32} {T : Nat} {id : Nat → Int32} {x : PSt} {r : Bool × PSt} (h1 : x.1 ≤ T) (h2 : x.2.1 ≤ 2) (h : finF (XP kd T) T id x r) : runF (XP kd T) T id (T + 1) x = r := by
  obtain ⟨n, hn⟩ := h
  rw [← run_far h1 h2 (show T + 1 - x.1 ≤ T + 1 by omega) n]
  exact hn _ (by omega)
theorem XP_same {kd kd2 : Nat → Int32} {T : Nat} (h : ∀ j, j < T → kd j = kd2 j) : XP kd T = XP kd2 T := by
  funext b t
  apply propext
  constructor
  · intro q; exact ⟨q.1, by rw [← h t q.1]; exact q.2⟩
  · intro q; exact ⟨q.1, by rw [h t q.1]; exact q.2⟩
theorem step_same {kd : Nat → Int32} {T : Nat} {id id2 : Nat → Int32} (h : ∀ j, j < T → id j = id2 j) (a lv : Nat) (C : List Nat) (M : List (Nat × Nat)) (L : List (Nat × Int32)) : stepF (XP kd T) T id a lv C M L = stepF (XP kd T) T id2 a lv C M L := by
  have hl : linF (XP kd T) id a C M L = linF (XP kd T) id2 a C M L := by
    unfold linF
    by_cases q : XP kd T 32 a
    · rw [if_pos q, if_pos q, h a q.1]
    · rw [if_neg q, if_neg q]
  unfold stepF
  rw [hl]
theorem run_same {kd : Nat → Int32} {T : Nat} {id id2 : Nat → Int32} (h : ∀ j, j < T → id j = id2 j) : ∀ (n : Nat) (x : PSt), runF (XP kd T) T id n x = runF (XP kd T) T id2 n x := by
  intro n
  induction n with
  | zero => intro x; rfl
  | succ n ih =>
    intro x
    obtain ⟨a, lv, C, M, L⟩ := x
    have hst := step_same (kd := kd) h a lv C M L
    by_cases he : lv = 0 ∧ T ≤ a
    · rw [run_end he.1 he.2, run_end he.1 he.2]
    · by_cases hs : (stepF (XP kd T) T id a lv C M L).1 = true
      · rw [run_go he hs, run_go he (by rw [← hst]; exact hs), ih, hst]
      · rw [run_no he hs, run_no he (by rw [← hst]; exact hs), hst]
theorem lk_same (c : Int32) : (if nI 2 < c then nI 2 else c) = lkF c := by
  unfold lkF
  rw [show (nI 2 : Int32) = 2 from rfl]
  by_cases h : c < 2
  · rw [if_pos h, if_neg (fun q => by have a1 := Int32.lt_iff_toInt_lt.mp h; have a2 := Int32.lt_iff_toInt_lt.mp q; omega)]
  · rw [if_neg h]
    by_cases q : (2 : Int32) < c
    · rw [if_pos q]
    · rw [if_neg q]
      apply Int32.toInt_inj.mp
      have a1 : ¬ c.toInt < (2 : Int32).toInt := fun z => h (Int32.lt_iff_toInt_lt.mpr z)
      have a2 : ¬ (2 : Int32).toInt < c.toInt := fun z => q (Int32.lt_iff_toInt_lt.mpr z)
      omega
theorem li_same (c : Int32) : (if nI 2 ≤ c then c - nI 2 else -1) = liF c := by
  unfold liF
  rw [show (nI 2 : Int32) = 2 from rfl]
  by_cases h : c < 2
  · rw [if_pos h, if_neg (fun q => by have a1 := Int32.lt_iff_toInt_lt.mp h; have a2 := Int32.le_iff_toInt_le.mp q; omega)]
  · rw [if_neg h, if_pos (Int32.not_lt.mp h)]
theorem idF_b (B : Nat → Nat) (p : Nat × Nat) : idF B p = -1 ∨ ∃ j, j < 46 ∧ idF B p = nI j := by
  unfold idF
  split
  · unfold wiF
    split
    · exact ins_b B p.1 p.2
    · exact Or.inl rfl
  · exact Or.inl rfl
theorem badI_all (B : Nat → Nat) : ∀ n i j, i ≤ j → j < badI B n i → alP (B j) := by
  intro n
  induction n with
  | zero => intro i j h1 h2; rw [badI] at h2; omega
  | succ n ih =>
    intro i j h1 h2
    rw [badI] at h2
    by_cases h : alP (B i)
    · rw [if_pos h] at h2
      rcases Nat.lt_or_ge i j with q | q
      · exact ih (i + 1) j q h2
      · rw [show j = i by omega]; exact h
    · rw [if_neg h] at h2
      omega
theorem cutI_all {B : Nat → Nat} {len : Nat} (h : cutI B len = len) : ∀ j, j < len → alP (B j) := fun j hj => badI_all B len 0 j (Nat.zero_le j) (by unfold cutI at h; omega)
theorem scan_len (B : Nat → Nat) : ∀ i, (scanT B i).1.length + opn (scanT B i).2.1 ≤ i := by
  intro i
  induction i with
  | zero => exact Nat.le_refl 0
  | succ i ih =>
    have hc := cl_len (scanT B i).1 (scanT B i).2.1 i
    rw [scanT, stepT]
    split
    · show (closeT (scanT B i).1 (scanT B i).2.1 i).length + 0 ≤ i + 1
      omega
    · split
      · show (scanT B i).1.length + 1 ≤ i + 1
        omega
      · show (closeT (scanT B i).1 (scanT B i).2.1 i ++ [(i, i + 1)]).length + 0 ≤ i + 1
        rw [len1]
        omega
theorem cutD_length (B : Nat → Nat) (len : Nat) : (cutD B len).length ≤ len := by
  have h1 := scan_len B (cutI B len)
  have h2 := cutI_le B len
  unfold cutD
  rw [cl_len]
  omega
theorem al_lt {c : Nat} (h : alP c) : c < 128 := by unfold alP at h; omega
