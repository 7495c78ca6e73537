def closeT (ts : List (Nat × Nat)) (w : Option Nat) (i : Nat) : List (Nat × Nat) := match w with
  | none => ts
  | some b => ts ++ [(b, i)]
def remT (c : Nat) (r : Bool) : Bool := decide (¬ c = 10) && (r || decide (c = 59))
def stepT (B : Nat → Nat) (i : Nat) (ts : List (Nat × Nat)) (w : Option Nat) (r : Bool) : List (Nat × Nat) × Option Nat × Bool :=
  if remT (B i) r = true ∨ B i ≤ 32 then (closeT ts w i, none, remT (B i) r)
  else if sgF (B i) = 0 then (ts, some (w.getD i), remT (B i) r)
  else (closeT ts w i ++ [(i, i + 1)], none, remT (B i) r)
/-- what is cut behind i bytes: the tokens that are closed, the word that is open, whether a remark is open -/
def scanT (B : Nat → Nat) : Nat → List (Nat × Nat) × Option Nat × Bool
  | 0 => ([], none, false)
  | i + 1 => stepT B i (scanT B i).1 (scanT B i).2.1 (scanT B i).2.2
theorem scan_s {B : Nat → Nat} {i : Nat} {ts : List (Nat × Nat)} {w : Option Nat} {r : Bool} (h : scanT B i = (ts, w, r)) : scanT B (i + 1) = stepT B i ts w r := by rw [scanT, h]
theorem scan_b {B : Nat → Nat} {i : Nat} {ts : List (Nat × Nat)} {w : Option Nat} {r rv : Bool} (h : scanT B i = (ts, w, r)) (hr : rv = remT (B i) r) (hb : rv = true ∨ B i ≤ 32) : scanT B (i + 1) = (closeT ts w i, none, rv) := by
  subst hr
  rw [scan_s h, stepT, if_pos hb]
theorem scan_w {B : Nat → Nat} {i : Nat} {ts : List (Nat × Nat)} {w : Option Nat} {r rv : Bool} (h : scanT B i = (ts, w, r)) (hr : rv = remT (B i) r) (hb : ¬ (rv = true ∨ B i ≤ 32)) (hs : sgF (B i) = 0) : scanT B (i + 1) = (ts, some (w.getD i), rv) := by
  subst hr
  rw [scan_s h, stepT, if_neg hb, if_pos hs]
theorem scan_g {B : Nat → Nat} {i : Nat} {ts : List (Nat × Nat)} {w : Option Nat} {r rv : Bool} (h : scanT B i = (ts, w, r)) (hr : rv = remT (B i) r) (hb : ¬ (rv = true ∨ B i ≤ 32)) (hs : ¬ sgF (B i) = 0) : scanT B (i + 1) = (closeT ts w i ++ [(i, i + 1)], none, rv) := by
  subst hr
  rw [scan_s h, stepT, if_neg hb, if_neg hs]
theorem closeT_len (ts : List (Nat × Nat)) (w : Option Nat) (i : Nat) : ts.length ≤ (closeT ts w i).length := by
  cases w with
  | none => exact Nat.le_refl _
  | some b => simp [closeT]
theorem scan_mono1 (B : Nat → Nat) (i : Nat) : (scanT B i).1.length ≤ (scanT B (i + 1)).1.length := by
  rw [scanT, stepT]
  have h := closeT_len (scanT B i).1 (scanT B i).2.1 i
  split
  · exact h
  · split
    · exact Nat.le_refl _
    · simp only [List.length_append]; omega
theorem scan_mono (B : Nat → Nat) {i j : Nat} (h : i ≤ j) : (scanT B i).1.length ≤ (scanT B j).1.length := by
  induction j with
  | zero => rw [show i = 0 by omega]; exact Nat.le_refl _
  | succ j ih =>
    rcases Nat.lt_or_ge i (j + 1) with q | q
    · exact Nat.le_trans (ih (by omega)) (scan_mono1 B j)
    · rw [show i = j + 1 by omega]; exact Nat.le_refl _
/-- the first byte that no text may have -/
noncomputable def badI (B : Nat → Nat) : Nat → Nat → Nat
  | 0, i => i
  | n + 1, i => @ite _ (alP (B i)) (Classical.propDecidable _) (badI B n (i + 1)) i
noncomputable def cutI (B : Nat → Nat) (len : Nat) : Nat := badI B len 0
theorem badI_le (B : Nat → Nat) : ∀ n i, badI B n i ≤ i + n := by
  intro n
  induction n with
  | zero => intro i; exact Nat.le_refl _
  | succ n ih =>
    intro i
    rw [badI]
    split
    · have := ih (i + 1); omega
    · omega
theorem badI_lo (B : Nat → Nat) : ∀ n i, i ≤ badI B n i := by
  intro n
  induction n with
  | zero => intro i; exact Nat.le_refl _
  | succ n ih =>
    intro i
    rw [badI]
    split
    · have := ih (i + 1); omega
    · omega
theorem badI_ge (B : Nat → Nat) : ∀ n i k, i ≤ k → k ≤ i + n → (∀ j, i ≤ j → j < k → alP (B j)) → k ≤ badI B n i := by
  intro n
  induction n with
  | zero => intro i k h1 h2 _; rw [badI]; omega
  | succ n ih =>
    intro i k h1 h2 h
    rw [badI]
    rcases Nat.lt_or_ge i k with q | q
    · rw [if_pos (h i (by omega) q)]
      exact ih (i + 1) k (by omega) (by omega) (fun j a b => h j (by omega) b)
    · split
      · have := badI_lo B n (i + 1)
        omega
      · omega
theorem badI_at (B : Nat → Nat) : ∀ n i k, i ≤ k → k < i + n → (∀ j, i ≤ j → j < k → alP (B j)) → ¬ alP (B k) → badI B n i = k := by
  intro n
  induction n with
  | zero => intro i k h1 h2; omega
  | succ n ih =>
    intro i k h1 h2 h hk
    rw [badI]
    rcases Nat.lt_or_ge i k with q | q
    · rw [if_pos (h i (by omega) q)]
      exact ih (i + 1) k (by omega) (by omega) (fun j a b => h j (by omega) b) hk
    · have e : i = k := by omega
      subst e
      rw [if_neg hk]
theorem cutI_le (B : Nat → Nat) (len : Nat) : cutI B len ≤ len := by have := badI_le B len 0; unfold cutI; omega
theorem cutI_ge {B : Nat → Nat} {len i : Nat} (h : i ≤ len) (ha : ∀ j, j < i → alP (B j)) : i ≤ cutI B len := badI_ge B len 0 i (Nat.zero_le i) (by omega) (fun j _ b => ha j b)
theorem cutI_end {B : Nat → Nat} {len : Nat} (ha : ∀ j, j < len → alP (B j)) : cutI B len = len := Nat.le_antisymm (cutI_le B len) (cutI_ge (Nat.le_refl len) ha)
theorem cutI_bad {B : Nat → Nat} {len i : Nat} (h : i < len) (ha : ∀ j, j < i → alP (B j)) (hb : ¬ alP (B i)) : cutI B len = i := badI_at B len 0 i (Nat.zero_le i) (by omega) (fun j _ b => ha j b) hb
/-- the tokens of a text, those before such a byte -/
noncomputable def cutD (B : Nat → Nat) (len : Nat) : List (Nat × Nat) := closeT (scanT B (cutI B len)).1 (scanT B (cutI B len)).2.1 (cutI B len)
theorem cutD_at {B : Nat → Nat} {len i : Nat} {ts : List (Nat × Nat)} {w : Option Nat} {r : Bool} (h : scanT B i = (ts, w, r)) (hi : cutI B len = i) : cutD B len = closeT ts w i := by
  unfold cutD
  rw [hi, h]
theorem cutD_len {B : Nat → Nat} {len i : Nat} {ts : List (Nat × Nat)} {w : Option Nat} {r : Bool} (h : scanT B i = (ts, w, r)) (hi : i ≤ cutI B len) : ts.length ≤ (cutD B len).length := by
  have h1 := scan_mono B hi
  rw [h] at h1
  exact Nat.le_trans h1 (closeT_len _ _ _)
def opn : Option Nat → Nat
  | none => 0
  | some _ => 1
def wI : Option Nat → Int32
  | none => -1
  | some b => nI b
def bI (b : Bool) : Int32 := match b with
  | false => nI 0
  | true => nI 1
theorem bI_0 {b : Bool} (h : bI b = 0) : b = false := by
  cases b with
  | false => rfl
  | true => exact absurd h (by decide)
theorem bI_1 {b : Bool} (h : ¬ bI b = 0) : b = true := by
  cases b with
  | false => exact absurd (by decide) h
  | true => rfl
noncomputable def kdF (B : Nat → Nat) (p : Nat × Nat) : Int32 := if sgF (B p.1) = 0 then wkF B p.1 p.2 else sgF (B p.1)
noncomputable def idF (B : Nat → Nat) (p : Nat × Nat) : Int32 := if sgF (B p.1) = 0 then wiF B p.1 p.2 else -1
/-- what the token rows hold -/
def rwT (B : Nat → Nat) (ts : List (Nat × Nat)) (f : Nat → Nat → Int32) : Prop := ∀ j p, ts[j]? = some p → f 0 j = nI p.1 ∧ f 1 j = nI p.2 ∧ f 2 j = kdF B p ∧ f 3 j = idF B p
theorem rwT_nil {B : Nat → Nat} {f : Nat → Nat → Int32} : rwT B [] f := fun j p h => by simp at h
theorem rwT_add {B : Nat → Nat} {ts : List (Nat × Nat)} {f f2 : Nat → Nat → Int32} {p : Nat × Nat} (h : rwT B ts f) (hk : ∀ i j, i < 4 → j < ts.length → f2 i j = f i j) (h0 : f2 0 ts.length = nI p.1) (h1 : f2 1 ts.length = nI p.2) (h2 : f2 2 ts.length = kdF B p) (h3 : f2 3 ts.length = idF B p) : rwT B (ts ++ [p]) f2 := by
  intro j x hx
  rcases Nat.lt_or_ge j ts.length with q | q
  · rw [List.getElem?_append_left q] at hx
    obtain ⟨a, b, c, d⟩ := h j x hx
    exact ⟨(hk 0 j (by decide) q).trans a, (hk 1 j (by decide) q).trans b, (hk 2 j (by decide) q).trans c, (hk 3 j (by decide) q).trans d⟩
  · rw [List.getElem?_append_right q] at hx
    have hj : j = ts.length := by
      have := (List.getElem?_eq_some_iff.mp hx).1
      simp at this
      omega
    subst hj
    rw [Nat.sub_self] at hx
    cases hx
    exact ⟨h0, h1, h2, h3⟩
theorem len1 (ts : List (Nat × Nat)) (p : Nat × Nat) : (ts ++ [p]).length = ts.length + 1 := by simp
theorem kdF_w {B : Nat → Nat} {b e : Nat} (h : sgF (B b) = 0) : kdF B (b, e) = wkF B b e := if_pos h
theorem idF_w {B : Nat → Nat} {b e : Nat} (h : sgF (B b) = 0) : idF B (b, e) = wiF B b e := if_pos h
theorem kdF_g {B : Nat → Nat} {b e : Nat} (h : ¬ sgF (B b) = 0) : kdF B (b, e) = sgF (B b) := if_neg h
theorem idF_g {B : Nat → Nat} {b e : Nat} (h : ¬ sgF (B b) = 0) : idF B (b, e) = -1 := if_neg h
