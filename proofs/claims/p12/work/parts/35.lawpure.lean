/-- a byte as the class has it, and as the reference's rows keep it -/
def tieB (b : Nat) (g : Int32) : Prop := (b < 128 → g = nI b) ∧ (128 ≤ b → g < 0)
theorem wB_int (x : Int32) {k : Nat} (h : k < 4) : (wB x k).toInt = (x.toInt / ((2 ^ (8 * k) : Nat) : Int)).bmod 256 := by
  unfold wB
  rw [Int8.toInt_toInt32, Int32.toInt_toInt8, pk_shr x _ (8 * k) (by rcases (show k = 0 ∨ k = 1 ∨ k = 2 ∨ k = 3 by omega) with rfl | rfl | rfl | rfl <;> decide), Int.shiftRight_eq_div_pow] <;> rfl
theorem wB_key (x : Int32) {k : Nat} (h : k < 4) : (wB x k).toInt = if x.toBitVec.toNat / 2 ^ (8 * k) % 256 < 128 then ((x.toBitVec.toNat / 2 ^ (8 * k) % 256 : Nat) : Int) else ((x.toBitVec.toNat / 2 ^ (8 * k) % 256 : Nat) : Int) - 256 := by
  rw [wB_int x h, Int.bmod_def]
  have hx : x.toInt = if 2 * x.toBitVec.toNat < 2 ^ 32 then (x.toBitVec.toNat : Int) else (x.toBitVec.toNat : Int) - ((2 ^ 32 : Nat) : Int) := BitVec.toInt_eq_toNat_cond x.toBitVec
  have hn := x.toBitVec.isLt
  generalize x.toBitVec.toNat = n at *
  generalize x.toInt = y at *
  rcases (show k = 0 ∨ k = 1 ∨ k = 2 ∨ k = 3 by omega) with rfl | rfl | rfl | rfl
  · simp only [show (2 : Nat) ^ (8 * 0) = 1 from rfl]
    split at hx <;> split <;> split <;> omega
  · simp only [show (2 : Nat) ^ (8 * 1) = 256 from rfl]
    split at hx <;> split <;> split <;> omega
  · simp only [show (2 : Nat) ^ (8 * 2) = 65536 from rfl]
    split at hx <;> split <;> split <;> omega
  · simp only [show (2 : Nat) ^ (8 * 3) = 16777216 from rfl]
    split at hx <;> split <;> split <;> omega
theorem wB_tie (x : Int32) {k : Nat} (h : k < 4) : tieB (x.toBitVec.toNat / 2 ^ (8 * k) % 256) (wB x k) := by
  have e := wB_key x h
  have hb6 : x.toBitVec.toNat / 2 ^ (8 * k) % 256 < 256 := Nat.mod_lt _ (by decide)
  generalize x.toBitVec.toNat / 2 ^ (8 * k) % 256 = b at *
  constructor
  · intro hb
    rw [if_pos hb] at e
    apply Int32.toInt_inj.mp
    rw [e, nI_toInt (by omega)]
  · intro hb
    rw [if_neg (by omega)] at e
    apply Int32.lt_iff_toInt_lt.mpr
    rw [e]
    show _ < (0 : Int)
    omega
theorem tie_at {f : Nat → Int32} {j k : Nat} (hk : k < 4) : tieB (bY f (4 * j + k)) (wB (f j) (3 - k)) := by
  have e : bY f (4 * j + k) = (f j).toBitVec.toNat / 2 ^ (8 * (3 - k)) % 256 := by
    unfold bY
    rw [show (4 * j + k) / 4 = j by omega, show (4 * j + k) % 4 = k by omega, show 24 - 8 * k = 8 * (3 - k) by omega]
  rw [e]
  exact wB_tie (f j) (by omega)
theorem bY_same {f f2 : Nat → Int32} {k j : Nat} (h : ∀ i, i < k → f2 i = f i) (hj : j < 4 * k) : bY f2 j = bY f j := by
  unfold bY
  rw [h (j / 4) (by omega)]
/-- the bytes that are fed, of both sides -/
def fedB (k : Nat) (f gb : Nat → Int32) : Prop := ∀ j, j < 4 * k → tieB (bY f j) (gb j) ∧ vp_nar .byte (gb j) = gb j
theorem fed_add {k : Nat} {f f2 gb g2 : Nat → Int32} {x1 x2 x3 x4 x5 : Int32} (h : fedB k f gb) (hf : ∀ j, j < k → f2 j = f j) (e1 : f2 k = x1) (e2 : f2 (k + 1) = x2) (e3 : f2 (k + 2) = x3) (e4 : f2 (k + 3) = x4) (e5 : f2 (k + 4) = x5) (hg : ∀ j, j < 4 * k → g2 j = gb j) (h00 : g2 (4 * k) = wB x1 3) (h01 : g2 (4 * k + 1) = wB x1 2) (h02 : g2 (4 * k + 1 + 1) = wB x1 1) (h03 : g2 (4 * k + 1 + 1 + 1) = wB x1 0) (h10 : g2 (4 * k + 4) = wB x2 3) (h11 : g2 (4 * k + 4 + 1) = wB x2 2) (h12 : g2 (4 * k + 4 + 1 + 1) = wB x2 1) (h13 : g2 (4 * k + 4 + 1 + 1 + 1) = wB x2 0) (h20 : g2 (4 * k + 8) = wB x3 3) (h21 : g2 (4 * k + 8 + 1) = wB x3 2) (h22 : g2 (4 * k + 8 + 1 + 1) = wB x3 1) (h23 : g2 (4 * k + 8 + 1 + 1 + 1) = wB x3 0) (h30 : g2 (4 * k + 12) = wB x4 3) (h31 : g2 (4 * k + 12 + 1) = wB x4 2) (h32 : g2 (4 * k + 12 + 1 + 1) = wB x4 1) (h33 : g2 (4 * k + 12 + 1 + 1 + 1) = wB x4 0) (h40 : g2 (4 * k + 16) = wB x5 3) (h41 : g2 (4 * k + 16 + 1) = wB x5 2) (h42 : g2 (4 * k + 16 + 1 + 1) = wB x5 1) (h43 : g2 (4 * k + 16 + 1 + 1 + 1) = wB x5 0) : fedB (k + 5) f2 g2 := by
  intro j hj
  rcases Nat.lt_or_ge j (4 * k) with q | q
  · rw [hg j q, bY_same hf q]
    exact h j q
  · obtain ⟨a, r, ha, hr, rfl⟩ : ∃ a r, a < 5 ∧ r < 4 ∧ j = 4 * (k + a) + r := ⟨(j - 4 * k) / 4, (j - 4 * k) % 4, by omega, by omega, by omega⟩
    have key : g2 (4 * (k + a) + r) = wB (f2 (k + a)) (3 - r) := by
      rcases (show a = 0 ∨ a = 1 ∨ a = 2 ∨ a = 3 ∨ a = 4 by omega) with rfl | rfl | rfl | rfl | rfl <;> rcases (show r = 0 ∨ r = 1 ∨ r = 2 ∨ r = 3 by omega) with rfl | rfl | rfl | rfl
      · rw [show 4 * (k + 0) + 0 = (4 * k) by omega, h00, show k + 0 = k by omega, e1]
      · rw [show 4 * (k + 0) + 1 = (4 * k + 1) by omega, h01, show k + 0 = k by omega, e1]
      · rw [show 4 * (k + 0) + 2 = (4 * k + 1 + 1) by omega, h02, show k + 0 = k by omega, e1]
      · rw [show 4 * (k + 0) + 3 = (4 * k + 1 + 1 + 1) by omega, h03, show k + 0 = k by omega, e1]
      · rw [show 4 * (k + 1) + 0 = (4 * k + 4) by omega, h10, show k + 1 = k + 1 by omega, e2]
      · rw [show 4 * (k + 1) + 1 = (4 * k + 4 + 1) by omega, h11, show k + 1 = k + 1 by omega, e2]
      · rw [show 4 * (k + 1) + 2 = (4 * k + 4 + 1 + 1) by omega, h12, show k + 1 = k + 1 by omega, e2]
      · rw [show 4 * (k + 1) + 3 = (4 * k + 4 + 1 + 1 + 1) by omega, h13, show k + 1 = k + 1 by omega, e2]
      · rw [show 4 * (k + 2) + 0 = (4 * k + 8) by omega, h20, show k + 2 = k + 2 by omega, e3]
      · rw [show 4 * (k + 2) + 1 = (4 * k + 8 + 1) by omega, h21, show k + 2 = k + 2 by omega, e3]
      · rw [show 4 * (k + 2) + 2 = (4 * k + 8 + 1 + 1) by omega, h22, show k + 2 = k + 2 by omega, e3]
      · rw [show 4 * (k + 2) + 3 = (4 * k + 8 + 1 + 1 + 1) by omega, h23, show k + 2 = k + 2 by omega, e3]
      · rw [show 4 * (k + 3) + 0 = (4 * k + 12) by omega, h30, show k + 3 = k + 3 by omega, e4]
      · rw [show 4 * (k + 3) + 1 = (4 * k + 12 + 1) by omega, h31, show k + 3 = k + 3 by omega, e4]
      · rw [show 4 * (k + 3) + 2 = (4 * k + 12 + 1 + 1) by omega, h32, show k + 3 = k + 3 by omega, e4]
      · rw [show 4 * (k + 3) + 3 = (4 * k + 12 + 1 + 1 + 1) by omega, h33, show k + 3 = k + 3 by omega, e4]
      · rw [show 4 * (k + 4) + 0 = (4 * k + 16) by omega, h40, show k + 4 = k + 4 by omega, e5]
      · rw [show 4 * (k + 4) + 1 = (4 * k + 16 + 1) by omega, h41, show k + 4 = k + 4 by omega, e5]
      · rw [show 4 * (k + 4) + 2 = (4 * k + 16 + 1 + 1) by omega, h42, show k + 4 = k + 4 by omega, e5]
      · rw [show 4 * (k + 4) + 3 = (4 * k + 16 + 1 + 1 + 1) by omega, h43, show k + 4 = k + 4 by omega, e5]
    rw [key]
    exact ⟨tie_at hr, wB_n _ _⟩
theorem rw_same {f g : Nat → Int32} {k : Nat} (h : ∀ j, j < k → f j = g j) (i : Int32) : rw_get f k i = rw_get g k i := by
  unfold rw_get
  split
  · rename_i q
    exact h _ (by omega)
  · rfl
/-- what the reference's rows hold of a program -/
def rwG (C : List Nat) (M : List (Nat × Nat)) (L : List (Nat × Int32)) (g : Nat → Nat → Int32) : Prop := (∀ j x, C[j]? = some x → g 0 j = nI x) ∧ (∀ j x, M[j]? = some x → g 2 j = nI x.1 ∧ g 1 j = nI x.2) ∧ (∀ j x, L[j]? = some x → g 3 j = nI x.1 ∧ g 4 j = x.2)
theorem rwG_nil {g : Nat → Nat → Int32} : rwG [] [] [] g := ⟨fun j x h => by simp at h, fun j x h => by simp at h, fun j x h => by simp at h⟩
section AN
variable {C : List Nat} {M : List (Nat × Nat)} {L L2 : List (Nat × Int32)} {F g : Nat → Nat → Int32}
theorem an_0 (h : rwP C M L F) (h2 : rwG C M L2 g) (i : Int32) : rw_get (F 0) C.length i = rw_get (g 0) C.length i := rw_same (fun j hj => (h.1 j _ (List.getElem?_eq_getElem hj)).trans (h2.1 j _ (List.getElem?_eq_getElem hj)).symm) i
theorem an_1 (h : rwP C M L F) (h2 : rwG C M L2 g) (i : Int32) : rw_get (F 1) M.length i = rw_get (g 2) M.length i := rw_same (fun j hj => (h.2.1 j _ (List.getElem?_eq_getElem hj)).1.trans (h2.2.1 j _ (List.getElem?_eq_getElem hj)).1.symm) i
theorem an_2 (h : rwP C M L F) (h2 : rwG C M L2 g) (i : Int32) : rw_get (F 2) M.length i = rw_get (g 1) M.length i := rw_same (fun j hj => (h.2.1 j _ (List.getElem?_eq_getElem hj)).2.trans (h2.2.1 j _ (List.getElem?_eq_getElem hj)).2.symm) i
theorem an_3 (h : rwP C M L F) (h2 : rwG C M L2 g) (e : L = L2) (i : Int32) : rw_get (F 3) L.length i = rw_get (fun j => if nI 2 < g 4 j then nI 2 else g 4 j) L2.length i := by
  rw [← e] at h2 ⊢
  exact rw_same (fun j hj => by
    rw [(h.2.2 j _ (List.getElem?_eq_getElem hj)).1, (h2.2.2 j _ (List.getElem?_eq_getElem hj)).2]
    exact (lk_same _).symm) i
theorem fst_len (e : L.map Prod.fst = L2.map Prod.fst) : L.length = L2.length := by
  have h := congrArg List.length e
  rw [List.length_map, List.length_map] at h
  exact h
theorem an_4 (h : rwP C M L F) (h2 : rwG C M L2 g) (e : L.map Prod.fst = L2.map Prod.fst) (i : Int32) : rw_get (F 4) L.length i = rw_get (g 3) L2.length i := by
  rw [← fst_len e]
  exact rw_same (fun j hj => by
    have hj2 : j < L2.length := by rw [← fst_len e]; exact hj
    have e2 : (L.map Prod.fst)[j]? = (L2.map Prod.fst)[j]? := by rw [e]
    rw [List.getElem?_map, List.getElem?_map, List.getElem?_eq_getElem hj, List.getElem?_eq_getElem hj2] at e2
    have e3 : (L[j]).1 = (L2[j]).1 := Option.some.inj e2
    rw [(h.2.2 j _ (List.getElem?_eq_getElem hj)).2.1, (h2.2.2 j _ (List.getElem?_eq_getElem hj2)).1, e3]) i
theorem an_5 (h : rwP C M L F) (h2 : rwG C M L2 g) (e : L = L2) (i : Int32) : rw_get (F 5) L.length i = rw_get (fun j => if nI 2 ≤ g 4 j then g 4 j - nI 2 else -1) L2.length i := by
  rw [← e] at h2 ⊢
  exact rw_same (fun j hj => by
    rw [(h.2.2 j _ (List.getElem?_eq_getElem hj)).2.2, (h2.2.2 j _ (List.getElem?_eq_getElem hj)).2]
    exact (li_same _).symm) i
end AN
/-- what the class's token rows hold -/
def rwQ (ts : List (Nat × Nat)) (f : Nat → Nat → Int32) : Prop := ∀ j p, ts[j]? = some p → f 0 j = nI p.1 ∧ f 1 j = nI p.2
theorem tk_0 {ts : List (Nat × Nat)} {f : Nat → Nat → Int32} {gf go : Nat → Int32} (h : rwQ ts f) (h2 : rwR ts gf go) (i : Int32) : rw_get (f 0) ts.length i = rw_get gf ts.length i := rw_same (fun j hj => (h j _ (List.getElem?_eq_getElem hj)).1.trans (h2 j _ (List.getElem?_eq_getElem hj)).1.symm) i
theorem tk_1 {ts : List (Nat × Nat)} {f : Nat → Nat → Int32} {gf go : Nat → Int32} (h : rwQ ts f) (h2 : rwR ts gf go) (i : Int32) : rw_get (f 1) ts.length i = rw_get go ts.length i := rw_same (fun j hj => (h j _ (List.getElem?_eq_getElem hj)).2.trans (h2 j _ (List.getElem?_eq_getElem hj)).2.symm) i
theorem run_len {kd : Nat → Int32} {T : Nat} {id : Nat → Int32} : ∀ (n : Nat) (x : PSt), x.1 ≤ T → x.2.1 ≤ 2 → x.2.2.1.length ≤ x.1 → x.2.2.2.1.length ≤ x.1 → x.2.2.2.2.length ≤ x.1 → (runF (XP kd T) T id n x).2.2.2.1.length ≤ T ∧ (runF (XP kd T) T id n x).2.2.2.2.1.length ≤ T ∧ (runF (XP kd T) T id n x).2.2.2.2.2.length ≤ T := by
  intro n
  induction n with
  | zero => intro x h1 _ h3 h4 h5; exact ⟨Nat.le_trans h3 h1, Nat.le_trans h4 h1, Nat.le_trans h5 h1⟩
  | succ n ih =>
    intro x h1 h2 h3 h4 h5
    rw [runF]
    split
    · exact ⟨Nat.le_trans h3 h1, Nat.le_trans h4 h1, Nat.le_trans h5 h1⟩
    · have hs := step_b (kd := kd) (id := id) (C := x.2.2.1) (M := x.2.2.2.1) (L := x.2.2.2.2) h1 h2
      split
      · exact ih _ hs.2.1 hs.2.2.2.1 (hs.2.2.2.2.1.2 h3) (hs.2.2.2.2.2.1.2 h4) (hs.2.2.2.2.2.2.2 h5)
      · exact ⟨Nat.le_trans (hs.2.2.2.2.1.2 h3) hs.2.1, Nat.le_trans (hs.2.2.2.2.2.1.2 h4) hs.2.1, Nat.le_trans (hs.2.2.2.2.2.2.2 h5) hs.2.1⟩
theorem rdR_len (B : Nat → Nat) (len : Nat) : (rdR B len).2.2.2.1.length ≤ (cutD B len).length ∧ (rdR B len).2.2.2.2.1.length ≤ (cutD B len).length ∧ (rdR B len).2.2.2.2.2.length ≤ (cutD B len).length := run_len _ _ (Nat.zero_le _) (Nat.zero_le _) (Nat.zero_le _) (Nat.zero_le _) (Nat.zero_le _)
theorem rdF_len (B : Nat → Nat) (len : Nat) : (rdF B len).2.2.1.length ≤ (cutD B len).length ∧ (rdF B len).2.2.2.1.length ≤ (cutD B len).length ∧ (rdF B len).2.2.2.2.length ≤ (cutD B len).length := by
  by_cases h : cutI B len = len
  · rw [rdF_l h]
    exact rdR_len B len
  · rw [rdF_bad h]
    exact ⟨Nat.zero_le _, Nat.zero_le _, Nat.zero_le _⟩
theorem rdC_len (B : Nat → Nat) (len : Nat) : (rdC B len).2.2.1.length ≤ (cutD B len).length ∧ (rdC B len).2.2.2.1.length ≤ (cutD B len).length ∧ (rdC B len).2.2.2.2.length ≤ (cutD B len).length := by
  obtain ⟨h1, h2, h3, h4, h5⟩ := rd_tie B len
  rw [h3, h4, fst_len h5]
  exact rdF_len B len
theorem law_hd {i L : Nat} (hL : L ≤ 3072) (hi : i ≤ L) (h : ¬ nI L - nI 6 < nI i) : i + 6 ≤ L := by
  have h1 : (nI L - nI 6).toInt = (L : Int) - 6 := pk_sub_toInt (by omega) (by decide)
  have h2 : (nI i).toInt = i := nI_toInt (by omega)
  have h3 : ¬ (nI L - nI 6).toInt < (nI i).toInt := fun q => h (Int32.lt_iff_toInt_lt.mpr q)
  omega
theorem and15 (x : Int32) : ∃ v : Nat, v < 16 ∧ x &&& nI 15 = nI v := ⟨_, Nat.mod_lt _ (by decide), pk_and x 4 (by decide)⟩
theorem end_way (x : Int32) {k : Nat} (hk : k < 2 ^ 31) : (∃ n1 : Nat, n1 ≤ k ∧ x = nI n1) ∨ (x < 0 ∨ ¬ x ≤ nI k) := by
  by_cases h : x < 0
  · exact Or.inr (Or.inl h)
  · by_cases h2 : x ≤ nI k
    · exact Or.inl (nI_of2 (nI_toInt hk) h h2)
    · exact Or.inr (Or.inr h2)
theorem size_way (x : Int32) : x = nI 0 ∨ x = nI 1 ∨ x = nI 2 ∨ x = nI 3 ∨ ((¬ x = 0 ∧ ¬ x = nI 1 ∧ ¬ x = nI 2 ∧ ¬ x = nI 3) ∧ (x.toInt < 0 ∨ 3 < x.toInt)) := by
  by_cases h0 : x = nI 0
  · exact Or.inl h0
  by_cases h1 : x = nI 1
  · exact Or.inr (Or.inl h1)
  by_cases h2 : x = nI 2
  · exact Or.inr (Or.inr (Or.inl h2))
  by_cases h3 : x = nI 3
  · exact Or.inr (Or.inr (Or.inr (Or.inl h3)))
  refine Or.inr (Or.inr (Or.inr (Or.inr ⟨⟨h0, h1, h2, h3⟩, ?_⟩)))
  have g0 : ¬ x.toInt = 0 := fun q => h0 (Int32.toInt_inj.mp q)
  have g1 : ¬ x.toInt = 1 := fun q => h1 (Int32.toInt_inj.mp q)
  have g2 : ¬ x.toInt = 2 := fun q => h2 (Int32.toInt_inj.mp q)
  have g3 : ¬ x.toInt = 3 := fun q => h3 (Int32.toInt_inj.mp q)
  omega
