/-- a token that cutting gives -/
def tokV (B : Nat → Nat) (b e : Nat) : Prop := b < e ∧ (sgF (B b) = 0 ∨ (¬ sgF (B b) = 0 ∧ e = b + 1))
theorem WdP_inj {B : Nat → Nat} {b e : Nat} {w w2 : List Nat} (h : WdP B b e w) (h2 : WdP B b e w2) : w = w2 := by
  have hl : w.length = w2.length := by have := h.1; have := h2.1; omega
  apply List.ext_getElem hl
  intro i h3 h4
  have a1 := h.2 i h3
  have a2 := h2.2 i h4
  rw [a1] at a2
  rw [List.getD_eq_getElem?_getD, List.getD_eq_getElem?_getD, List.getElem?_eq_getElem h3, List.getElem?_eq_getElem h4] at a2
  exact a2
theorem WdP_np {B : Nat → Nat} {b e : Nat} {w : List Nat} (h : WdP B b e w) (hw : w.all (fun c => decide (97 ≤ c ∧ c ≤ 122)) = true) (h0 : 0 < w.length) (h24 : w.length ≤ 24) : NmP B b e 97 := by
  have hc : ∀ j, j < w.length → 97 ≤ w.getD j 0 ∧ w.getD j 0 ≤ 122 := fun j hj => by
    rw [List.getD_eq_getElem?_getD, List.getElem?_eq_getElem hj]
    exact of_decide_eq_true (List.all_eq_true.mp hw _ (List.getElem_mem hj))
  have he := h.1
  have h1 := h.2 0 h0
  have h2 := hc 0 h0
  rw [Nat.add_zero] at h1
  refine ⟨by omega, by omega, by omega, by omega, fun j j1 j2 => ?_⟩
  have h3 := h.2 (j - b) (by omega)
  have h4 := hc (j - b) (by omega)
  rw [show b + (j - b) = j by omega] at h3
  unfold npP
  omega
theorem WdP_1 {B : Nat → Nat} {b e c : Nat} : WdP B b e [c] ↔ e = b + 1 ∧ B b = c := ⟨fun h => ⟨h.1, by have := h.2 0 (by simp); simpa using this⟩, fun h => ⟨h.1, fun j hj => by
  have : j = 0 := by simp at hj; omega
  subst this
  simpa using h.2⟩⟩
theorem sg_of {c : Nat} (h : ¬ sgF c = 0) : c = 40 ∨ c = 41 ∨ c = 58 ∨ c = 123 ∨ c = 125 := by
  unfold sgF at h
  by_cases h1 : c = 40
  · exact Or.inl h1
  by_cases h2 : c = 41
  · exact Or.inr (Or.inl h2)
  by_cases h3 : c = 58
  · exact Or.inr (Or.inr (Or.inl h3))
  by_cases h4 : c = 123
  · exact Or.inr (Or.inr (Or.inr (Or.inl h4)))
  by_cases h5 : c = 125
  · exact Or.inr (Or.inr (Or.inr (Or.inr h5)))
  rw [if_neg h1, if_neg h2, if_neg h3, if_neg h4, if_neg h5] at h
  exact absurd rfl h
theorem nm_no {B : Nat → Nat} {b e lo : Nat} (h : NmP B b e lo) {i : Nat} (h1 : b ≤ i) (h2 : i < e) : npP (B i) := h.2.2.2.2 i h1 h2
theorem nm_num {B : Nat → Nat} {b e lo : Nat} (hlo : lo = 97 ∨ lo = 65) (h : NmP B b e lo) : ¬ NumP B b e := fun q => by
  obtain ⟨g1, g2, g3, g4, -⟩ := h
  rcases q with ⟨q1, -⟩ | ⟨q1, q2⟩
  · omega
  · have := q2.2.2.1 b (Nat.le_refl b) g1
    unfold dgP at this
    omega
theorem nm_row {B : Nat → Nat} {b e lo : Nat} (h : NmP B b e lo) : ¬ RowP B b e := fun q => by
  have h1 := nm_no h (i := e - 2) (by have := q.1; omega) (by have := q.1; omega)
  rw [q.2.1] at h1
  unfold npP at h1
  omega
theorem nm_ref {B : Nat → Nat} {b e lo : Nat} (h : NmP B b e lo) : ¬ RefP B b e := fun q => by
  obtain ⟨i, i1, i2, i3, -⟩ := q
  have h1 := nm_no h i1 i2
  rw [i3] at h1
  unfold npP at h1
  omega
theorem nm_nm {B : Nat → Nat} {b e : Nat} (h : NmP B b e 97) : ¬ NmP B b e 65 := fun q => by
  obtain ⟨g1, g2, g3, g4, -⟩ := h
  obtain ⟨k1, k2, k3, k4, -⟩ := q
  omega
theorem num_row {B : Nat → Nat} {b e : Nat} (h : NumP B b e) : ¬ RowP B b e := fun q => by
  have q1 := q.1
  have q2 := q.2.1
  rcases h with ⟨-, h⟩ | ⟨-, h⟩
  · have := h.2.2.1 (e - 2) (by omega) (by omega)
    unfold dgP at this
    omega
  · have := h.2.2.1 (e - 2) (by omega) (by omega)
    unfold dgP at this
    omega
theorem num_ref {B : Nat → Nat} {b e : Nat} (h : NumP B b e) : ¬ RefP B b e := fun q => by
  obtain ⟨i, i1, i2, i3, -, i5, -⟩ := q
  have hbi := i5.1
  rcases h with ⟨-, h⟩ | ⟨-, h⟩
  · have := h.2.2.1 i (by omega) (by omega)
    unfold dgP at this
    omega
  · have := h.2.2.1 i (by omega) (by omega)
    unfold dgP at this
    omega
theorem row_in {B : Nat → Nat} {b e : Nat} (h : RowP B b e) {i : Nat} (h1 : b ≤ i) (h2 : i < e - 2) : npP (B i) := by
  rcases h.2.2.2 with q | q
  · exact nm_no q h1 h2
  · have q1 := q.1
    have q2 := q.2 (i - b) (by simp only [List.length_cons, List.length_nil] at q1 ⊢; omega)
    rw [show b + (i - b) = i by omega] at q2
    simp only [List.length_cons, List.length_nil] at q1
    rcases (show i - b = 0 ∨ i - b = 1 ∨ i - b = 2 by omega) with z | z | z <;> rw [z] at q2 <;> simp at q2 <;> unfold npP <;> omega
theorem row_ref {B : Nat → Nat} {b e : Nat} (h : RowP B b e) : ¬ RefP B b e := fun q => by
  obtain ⟨i, i1, i2, i3, -⟩ := q
  have h1 := h.1
  have h2 := h.2.1
  have h3 := h.2.2.1
  rcases (show i < e - 2 ∨ i = e - 2 ∨ i = e - 1 by omega) with z | z | z
  · have := row_in h i1 z
    rw [i3] at this
    unfold npP at this
    omega
  · rw [z] at i3; omega
  · rw [z] at i3; omega
theorem num_97 {B : Nat → Nat} {b e : Nat} (h : NumP B b e) : ¬ NmP B b e 97 ∧ ¬ NmP B b e 65 := ⟨fun q => nm_num (Or.inl rfl) q h, fun q => nm_num (Or.inr rfl) q h⟩
/-- the keyword's bit -/
theorem kw_cases (B : Nat → Nat) (b e : Nat) : (WdP B b e [99, 108, 97, 115, 115] ∧ kwF B b e = 1024) ∨ (WdP B b e [111, 102] ∧ kwF B b e = 2048) ∨ (WdP B b e [102, 105, 101, 108, 100] ∧ kwF B b e = 4096) ∨ (WdP B b e [115, 116, 97, 116, 105, 99] ∧ kwF B b e = 8192) ∨ (WdP B b e [109, 101, 116, 104, 111, 100] ∧ kwF B b e = 16384) ∨ (WdP B b e [99, 97, 116, 99, 104] ∧ kwF B b e = 32768) ∨ (WdP B b e [105, 110, 116] ∧ kwF B b e = 65536) ∨ (WdP B b e [110, 111, 110, 101] ∧ kwF B b e = 131072) ∨ (kwF B b e = 0 ∧ ¬ WdP B b e [99, 108, 97, 115, 115] ∧ ¬ WdP B b e [111, 102] ∧ ¬ WdP B b e [102, 105, 101, 108, 100] ∧ ¬ WdP B b e [115, 116, 97, 116, 105, 99] ∧ ¬ WdP B b e [109, 101, 116, 104, 111, 100] ∧ ¬ WdP B b e [99, 97, 116, 99, 104] ∧ ¬ WdP B b e [105, 110, 116] ∧ ¬ WdP B b e [110, 111, 110, 101]) := by
  unfold kwF
  by_cases h0 : WdP B b e [99, 108, 97, 115, 115]
  · exact Or.inl ⟨h0, by rw [show ixW B b e kwW 0 = nI 0 from ixW_t h0]; decide⟩
  by_cases h1 : WdP B b e [111, 102]
  · exact Or.inr (Or.inl ⟨h1, by rw [show ixW B b e kwW 0 = nI 1 from (ixW_f h0).trans (ixW_t h1)]; decide⟩)
  by_cases h2 : WdP B b e [102, 105, 101, 108, 100]
  · exact Or.inr (Or.inr (Or.inl ⟨h2, by rw [show ixW B b e kwW 0 = nI 2 from (ixW_f h0).trans ((ixW_f h1).trans (ixW_t h2))]; decide⟩))
  by_cases h3 : WdP B b e [115, 116, 97, 116, 105, 99]
  · exact Or.inr (Or.inr (Or.inr (Or.inl ⟨h3, by rw [show ixW B b e kwW 0 = nI 3 from (ixW_f h0).trans ((ixW_f h1).trans ((ixW_f h2).trans (ixW_t h3)))]; decide⟩)))
  by_cases h4 : WdP B b e [109, 101, 116, 104, 111, 100]
  · exact Or.inr (Or.inr (Or.inr (Or.inr (Or.inl ⟨h4, by rw [show ixW B b e kwW 0 = nI 4 from (ixW_f h0).trans ((ixW_f h1).trans ((ixW_f h2).trans ((ixW_f h3).trans (ixW_t h4))))]; decide⟩))))
  by_cases h5 : WdP B b e [99, 97, 116, 99, 104]
  · exact Or.inr (Or.inr (Or.inr (Or.inr (Or.inr (Or.inl ⟨h5, by rw [show ixW B b e kwW 0 = nI 5 from (ixW_f h0).trans ((ixW_f h1).trans ((ixW_f h2).trans ((ixW_f h3).trans ((ixW_f h4).trans (ixW_t h5)))))]; decide⟩)))))
  by_cases h6 : WdP B b e [105, 110, 116]
  · exact Or.inr (Or.inr (Or.inr (Or.inr (Or.inr (Or.inr (Or.inl ⟨h6, by rw [show ixW B b e kwW 0 = nI 6 from (ixW_f h0).trans ((ixW_f h1).trans ((ixW_f h2).trans ((ixW_f h3).trans ((ixW_f h4).trans ((ixW_f h5).trans (ixW_t h6))))))]; decide⟩))))))
  by_cases h7 : WdP B b e [110, 111, 110, 101]
  · exact Or.inr (Or.inr (Or.inr (Or.inr (Or.inr (Or.inr (Or.inr (Or.inl ⟨h7, by rw [show ixW B b e kwW 0 = nI 7 from (ixW_f h0).trans ((ixW_f h1).trans ((ixW_f h2).trans ((ixW_f h3).trans ((ixW_f h4).trans ((ixW_f h5).trans ((ixW_f h6).trans (ixW_t h7)))))))]; decide⟩)))))))
  exact Or.inr (Or.inr (Or.inr (Or.inr (Or.inr (Or.inr (Or.inr (Or.inr (⟨by rw [show ixW B b e kwW 0 = -1 from (ixW_f h0).trans ((ixW_f h1).trans ((ixW_f h2).trans ((ixW_f h3).trans ((ixW_f h4).trans ((ixW_f h5).trans ((ixW_f h6).trans ((ixW_f h7).trans (rfl))))))))]; decide, h0, h1, h2, h3, h4, h5, h6, h7⟩))))))))
theorem ixW_none {B : Nat → Nat} {b e : Nat} : ∀ (ws : List (List Nat)) (k : Nat), (∀ w, w ∈ ws → ¬ WdP B b e w) → ixW B b e ws k = -1 := by
  intro ws
  induction ws with
  | nil => intro k _; rfl
  | cons w r ih =>
    intro k h
    rw [ixW_f (h w List.mem_cons_self)]
    exact ih (k + 1) (fun w2 h2 => h w2 (List.mem_cons_of_mem _ h2))
theorem ins_np {B : Nat → Nat} {b e : Nat} (h : ¬ NmP B b e 97) : ixW B b e insW 0 = -1 := by
  refine ixW_none insW 0 (fun w hw q => h ?_)
  have h1 := List.all_eq_true.mp (by decide +kernel : insW.all (fun w => w.all (fun c => decide (97 ≤ c ∧ c ≤ 122)) && (decide (0 < w.length) && decide (w.length ≤ 24))) = true) w hw
  simp only [Bool.and_eq_true, decide_eq_true_eq] at h1
  exact WdP_np q h1.1 h1.2.1 h1.2.2
theorem ty_row {B : Nat → Nat} {b e : Nat} : TyP B b e ↔ RowP B b e ∨ (¬ ArP B b e ∧ (WdP B b e [105, 110, 116] ∨ NmP B b e 65)) := by
  constructor
  · rintro (⟨h1, h2⟩ | h)
    · exact Or.inl ⟨h1.1, h1.2.1, h1.2.2, h2.elim Or.inr Or.inl⟩
    · exact Or.inr h
  · rintro (h | h)
    · exact Or.inl ⟨⟨h.1, h.2.1, h.2.2.1⟩, h.2.2.2.elim Or.inr Or.inl⟩
    · exact Or.inr h
theorem nm_ar {B : Nat → Nat} {b e lo : Nat} (h : NmP B b e lo) : ¬ ArP B b e := fun q => by
  have h1 := nm_no h (i := e - 2) (by have := q.1; omega) (by have := q.1; omega)
  rw [q.2.1] at h1
  unfold npP at h1
  omega
theorem wd_len {B : Nat → Nat} {b e : Nat} {w : List Nat} (h : e = b + 1) (hw : 2 ≤ w.length) : ¬ WdP B b e w := fun q => by have := q.1; omega
set_option maxHeartbeats 4000000 in
set_option maxRecDepth 100000 in
theorem brg_of {B : Nat → Nat} {b e : Nat} (hv : tokV B b e) : BRG B b e := by
  obtain ⟨hbe, hv⟩ := hv
  unfold BRG
  rcases hv with hs | ⟨hs, he⟩
  · have wd0 : ¬ WdP B b e [40] := fun q => by rw [(WdP_1.mp q).2] at hs; exact absurd hs (by decide)
    have wd1 : ¬ WdP B b e [41] := fun q => by rw [(WdP_1.mp q).2] at hs; exact absurd hs (by decide)
    have wd2 : ¬ WdP B b e [123] := fun q => by rw [(WdP_1.mp q).2] at hs; exact absurd hs (by decide)
    have wd3 : ¬ WdP B b e [125] := fun q => by rw [(WdP_1.mp q).2] at hs; exact absurd hs (by decide)
    have wd4 : ¬ WdP B b e [58] := fun q => by rw [(WdP_1.mp q).2] at hs; exact absurd hs (by decide)
    by_cases hN : NmP B b e 97
    · have hK : kdF B (b, e) = nI 32 ||| kwF B b e := (kdF_w hs).trans (wkF_t hN)
      have hi : idF B (b, e) = ixW B b e insW 0 := (idF_w hs).trans (wiF_t hN)
      have h65 := nm_nm hN
      have hnum := nm_num (Or.inl rfl) hN
      have hrow := nm_row hN
      have href := nm_ref hN
      have har := nm_ar hN
      rcases kw_cases B b e with ⟨hw, hk⟩ | ⟨hw, hk⟩ | ⟨hw, hk⟩ | ⟨hw, hk⟩ | ⟨hw, hk⟩ | ⟨hw, hk⟩ | ⟨hw, hk⟩ | ⟨hw, hk⟩ | ⟨hk, k0, k1, k2, k3, k4, k5, k6, k7⟩
      · have hK2 : kdF B (b, e) = 1056 := by rw [hK, hk]; decide
        rw [hK2]
        exact ⟨iff_of_false (by decide) wd0, iff_of_false (by decide) wd1, iff_of_false (by decide) wd2, iff_of_false (by decide) wd3, iff_of_false (by decide) wd4, iff_of_true (by decide) hN, iff_of_false (by decide) h65, iff_of_false (by decide) hnum, iff_of_false (by decide) href, iff_of_true (by decide) hw, iff_of_false (by decide) (fun q => absurd (WdP_inj q hw) (by decide)), iff_of_false (by decide) (fun q => absurd (WdP_inj q hw) (by decide)), iff_of_false (by decide) (fun q => absurd (WdP_inj q hw) (by decide)), iff_of_false (by decide) (fun q => q.elim (fun q => absurd (WdP_inj q hw) (by decide)) (fun q => q.elim (fun q => absurd (WdP_inj q hw) (by decide)) (fun q => absurd (WdP_inj q hw) (by decide)))), iff_of_false (by decide) (fun q => absurd (WdP_inj q hw) (by decide)), iff_of_false (by decide) (fun q => (ty_row.mp q).elim hrow (fun z => z.2.elim (fun q => absurd (WdP_inj q hw) (by decide)) h65)), iff_of_false (by decide) (fun q => q.elim (fun q => absurd (WdP_inj q hw) (by decide)) (fun q => (ty_row.mp q).elim hrow (fun z => z.2.elim (fun q => absurd (WdP_inj q hw) (by decide)) h65))), iff_of_false (by decide) (fun q => (fun q => (ty_row.mp q).elim hrow (fun z => z.2.elim (fun q => absurd (WdP_inj q hw) (by decide)) h65)) q.1), iff_of_false (by decide) (fun q => q.elim (fun q => absurd (WdP_inj q hw) (by decide)) h65), (fun q => absurd hN q), (fun _ => hi), (fun q => absurd hN q), (fun _ => hN)⟩
      · have hK2 : kdF B (b, e) = 2080 := by rw [hK, hk]; decide
        rw [hK2]
        exact ⟨iff_of_false (by decide) wd0, iff_of_false (by decide) wd1, iff_of_false (by decide) wd2, iff_of_false (by decide) wd3, iff_of_false (by decide) wd4, iff_of_true (by decide) hN, iff_of_false (by decide) h65, iff_of_false (by decide) hnum, iff_of_false (by decide) href, iff_of_false (by decide) (fun q => absurd (WdP_inj q hw) (by decide)), iff_of_true (by decide) hw, iff_of_false (by decide) (fun q => absurd (WdP_inj q hw) (by decide)), iff_of_false (by decide) (fun q => absurd (WdP_inj q hw) (by decide)), iff_of_false (by decide) (fun q => q.elim (fun q => absurd (WdP_inj q hw) (by decide)) (fun q => q.elim (fun q => absurd (WdP_inj q hw) (by decide)) (fun q => absurd (WdP_inj q hw) (by decide)))), iff_of_false (by decide) (fun q => absurd (WdP_inj q hw) (by decide)), iff_of_false (by decide) (fun q => (ty_row.mp q).elim hrow (fun z => z.2.elim (fun q => absurd (WdP_inj q hw) (by decide)) h65)), iff_of_false (by decide) (fun q => q.elim (fun q => absurd (WdP_inj q hw) (by decide)) (fun q => (ty_row.mp q).elim hrow (fun z => z.2.elim (fun q => absurd (WdP_inj q hw) (by decide)) h65))), iff_of_false (by decide) (fun q => (fun q => (ty_row.mp q).elim hrow (fun z => z.2.elim (fun q => absurd (WdP_inj q hw) (by decide)) h65)) q.1), iff_of_false (by decide) (fun q => q.elim (fun q => absurd (WdP_inj q hw) (by decide)) h65), (fun q => absurd hN q), (fun _ => hi), (fun q => absurd hN q), (fun _ => hN)⟩
      · have hK2 : kdF B (b, e) = 4128 := by rw [hK, hk]; decide
        rw [hK2]
        exact ⟨iff_of_false (by decide) wd0, iff_of_false (by decide) wd1, iff_of_false (by decide) wd2, iff_of_false (by decide) wd3, iff_of_false (by decide) wd4, iff_of_true (by decide) hN, iff_of_false (by decide) h65, iff_of_false (by decide) hnum, iff_of_false (by decide) href, iff_of_false (by decide) (fun q => absurd (WdP_inj q hw) (by decide)), iff_of_false (by decide) (fun q => absurd (WdP_inj q hw) (by decide)), iff_of_true (by decide) hw, iff_of_false (by decide) (fun q => absurd (WdP_inj q hw) (by decide)), iff_of_true (by decide) (Or.inl hw), iff_of_false (by decide) (fun q => absurd (WdP_inj q hw) (by decide)), iff_of_false (by decide) (fun q => (ty_row.mp q).elim hrow (fun z => z.2.elim (fun q => absurd (WdP_inj q hw) (by decide)) h65)), iff_of_false (by decide) (fun q => q.elim (fun q => absurd (WdP_inj q hw) (by decide)) (fun q => (ty_row.mp q).elim hrow (fun z => z.2.elim (fun q => absurd (WdP_inj q hw) (by decide)) h65))), iff_of_false (by decide) (fun q => (fun q => (ty_row.mp q).elim hrow (fun z => z.2.elim (fun q => absurd (WdP_inj q hw) (by decide)) h65)) q.1), iff_of_false (by decide) (fun q => q.elim (fun q => absurd (WdP_inj q hw) (by decide)) h65), (fun q => absurd hN q), (fun _ => hi), (fun q => absurd hN q), (fun _ => hN)⟩
      · have hK2 : kdF B (b, e) = 8224 := by rw [hK, hk]; decide
        rw [hK2]
        exact ⟨iff_of_false (by decide) wd0, iff_of_false (by decide) wd1, iff_of_false (by decide) wd2, iff_of_false (by decide) wd3, iff_of_false (by decide) wd4, iff_of_true (by decide) hN, iff_of_false (by decide) h65, iff_of_false (by decide) hnum, iff_of_false (by decide) href, iff_of_false (by decide) (fun q => absurd (WdP_inj q hw) (by decide)), iff_of_false (by decide) (fun q => absurd (WdP_inj q hw) (by decide)), iff_of_false (by decide) (fun q => absurd (WdP_inj q hw) (by decide)), iff_of_true (by decide) hw, iff_of_true (by decide) (Or.inr (Or.inl hw)), iff_of_false (by decide) (fun q => absurd (WdP_inj q hw) (by decide)), iff_of_false (by decide) (fun q => (ty_row.mp q).elim hrow (fun z => z.2.elim (fun q => absurd (WdP_inj q hw) (by decide)) h65)), iff_of_false (by decide) (fun q => q.elim (fun q => absurd (WdP_inj q hw) (by decide)) (fun q => (ty_row.mp q).elim hrow (fun z => z.2.elim (fun q => absurd (WdP_inj q hw) (by decide)) h65))), iff_of_false (by decide) (fun q => (fun q => (ty_row.mp q).elim hrow (fun z => z.2.elim (fun q => absurd (WdP_inj q hw) (by decide)) h65)) q.1), iff_of_false (by decide) (fun q => q.elim (fun q => absurd (WdP_inj q hw) (by decide)) h65), (fun q => absurd hN q), (fun _ => hi), (fun q => absurd hN q), (fun _ => hN)⟩
      · have hK2 : kdF B (b, e) = 16416 := by rw [hK, hk]; decide
        rw [hK2]
        exact ⟨iff_of_false (by decide) wd0, iff_of_false (by decide) wd1, iff_of_false (by decide) wd2, iff_of_false (by decide) wd3, iff_of_false (by decide) wd4, iff_of_true (by decide) hN, iff_of_false (by decide) h65, iff_of_false (by decide) hnum, iff_of_false (by decide) href, iff_of_false (by decide) (fun q => absurd (WdP_inj q hw) (by decide)), iff_of_false (by decide) (fun q => absurd (WdP_inj q hw) (by decide)), iff_of_false (by decide) (fun q => absurd (WdP_inj q hw) (by decide)), iff_of_false (by decide) (fun q => absurd (WdP_inj q hw) (by decide)), iff_of_true (by decide) (Or.inr (Or.inr hw)), iff_of_false (by decide) (fun q => absurd (WdP_inj q hw) (by decide)), iff_of_false (by decide) (fun q => (ty_row.mp q).elim hrow (fun z => z.2.elim (fun q => absurd (WdP_inj q hw) (by decide)) h65)), iff_of_false (by decide) (fun q => q.elim (fun q => absurd (WdP_inj q hw) (by decide)) (fun q => (ty_row.mp q).elim hrow (fun z => z.2.elim (fun q => absurd (WdP_inj q hw) (by decide)) h65))), iff_of_false (by decide) (fun q => (fun q => (ty_row.mp q).elim hrow (fun z => z.2.elim (fun q => absurd (WdP_inj q hw) (by decide)) h65)) q.1), iff_of_false (by decide) (fun q => q.elim (fun q => absurd (WdP_inj q hw) (by decide)) h65), (fun q => absurd hN q), (fun _ => hi), (fun q => absurd hN q), (fun _ => hN)⟩
      · have hK2 : kdF B (b, e) = 32800 := by rw [hK, hk]; decide
        rw [hK2]
        exact ⟨iff_of_false (by decide) wd0, iff_of_false (by decide) wd1, iff_of_false (by decide) wd2, iff_of_false (by decide) wd3, iff_of_false (by decide) wd4, iff_of_true (by decide) hN, iff_of_false (by decide) h65, iff_of_false (by decide) hnum, iff_of_false (by decide) href, iff_of_false (by decide) (fun q => absurd (WdP_inj q hw) (by decide)), iff_of_false (by decide) (fun q => absurd (WdP_inj q hw) (by decide)), iff_of_false (by decide) (fun q => absurd (WdP_inj q hw) (by decide)), iff_of_false (by decide) (fun q => absurd (WdP_inj q hw) (by decide)), iff_of_false (by decide) (fun q => q.elim (fun q => absurd (WdP_inj q hw) (by decide)) (fun q => q.elim (fun q => absurd (WdP_inj q hw) (by decide)) (fun q => absurd (WdP_inj q hw) (by decide)))), iff_of_true (by decide) hw, iff_of_false (by decide) (fun q => (ty_row.mp q).elim hrow (fun z => z.2.elim (fun q => absurd (WdP_inj q hw) (by decide)) h65)), iff_of_false (by decide) (fun q => q.elim (fun q => absurd (WdP_inj q hw) (by decide)) (fun q => (ty_row.mp q).elim hrow (fun z => z.2.elim (fun q => absurd (WdP_inj q hw) (by decide)) h65))), iff_of_false (by decide) (fun q => (fun q => (ty_row.mp q).elim hrow (fun z => z.2.elim (fun q => absurd (WdP_inj q hw) (by decide)) h65)) q.1), iff_of_false (by decide) (fun q => q.elim (fun q => absurd (WdP_inj q hw) (by decide)) h65), (fun q => absurd hN q), (fun _ => hi), (fun q => absurd hN q), (fun _ => hN)⟩
      · have hK2 : kdF B (b, e) = 65568 := by rw [hK, hk]; decide
        rw [hK2]
        exact ⟨iff_of_false (by decide) wd0, iff_of_false (by decide) wd1, iff_of_false (by decide) wd2, iff_of_false (by decide) wd3, iff_of_false (by decide) wd4, iff_of_true (by decide) hN, iff_of_false (by decide) h65, iff_of_false (by decide) hnum, iff_of_false (by decide) href, iff_of_false (by decide) (fun q => absurd (WdP_inj q hw) (by decide)), iff_of_false (by decide) (fun q => absurd (WdP_inj q hw) (by decide)), iff_of_false (by decide) (fun q => absurd (WdP_inj q hw) (by decide)), iff_of_false (by decide) (fun q => absurd (WdP_inj q hw) (by decide)), iff_of_false (by decide) (fun q => q.elim (fun q => absurd (WdP_inj q hw) (by decide)) (fun q => q.elim (fun q => absurd (WdP_inj q hw) (by decide)) (fun q => absurd (WdP_inj q hw) (by decide)))), iff_of_false (by decide) (fun q => absurd (WdP_inj q hw) (by decide)), iff_of_true (by decide) (ty_row.mpr (Or.inr ⟨har, Or.inl hw⟩)), iff_of_true (by decide) (Or.inr (ty_row.mpr (Or.inr ⟨har, Or.inl hw⟩))), iff_of_false (by decide) (fun q => q.2 hw), iff_of_true (by decide) (Or.inl hw), (fun q => absurd hN q), (fun _ => hi), (fun q => absurd hN q), (fun _ => hN)⟩
      · have hK2 : kdF B (b, e) = 131104 := by rw [hK, hk]; decide
        rw [hK2]
        exact ⟨iff_of_false (by decide) wd0, iff_of_false (by decide) wd1, iff_of_false (by decide) wd2, iff_of_false (by decide) wd3, iff_of_false (by decide) wd4, iff_of_true (by decide) hN, iff_of_false (by decide) h65, iff_of_false (by decide) hnum, iff_of_false (by decide) href, iff_of_false (by decide) (fun q => absurd (WdP_inj q hw) (by decide)), iff_of_false (by decide) (fun q => absurd (WdP_inj q hw) (by decide)), iff_of_false (by decide) (fun q => absurd (WdP_inj q hw) (by decide)), iff_of_false (by decide) (fun q => absurd (WdP_inj q hw) (by decide)), iff_of_false (by decide) (fun q => q.elim (fun q => absurd (WdP_inj q hw) (by decide)) (fun q => q.elim (fun q => absurd (WdP_inj q hw) (by decide)) (fun q => absurd (WdP_inj q hw) (by decide)))), iff_of_false (by decide) (fun q => absurd (WdP_inj q hw) (by decide)), iff_of_false (by decide) (fun q => (ty_row.mp q).elim hrow (fun z => z.2.elim (fun q => absurd (WdP_inj q hw) (by decide)) h65)), iff_of_true (by decide) (Or.inl hw), iff_of_false (by decide) (fun q => (fun q => (ty_row.mp q).elim hrow (fun z => z.2.elim (fun q => absurd (WdP_inj q hw) (by decide)) h65)) q.1), iff_of_false (by decide) (fun q => q.elim (fun q => absurd (WdP_inj q hw) (by decide)) h65), (fun q => absurd hN q), (fun _ => hi), (fun q => absurd hN q), (fun _ => hN)⟩
      · have hK2 : kdF B (b, e) = 32 := by rw [hK, hk]; decide
        rw [hK2]
        exact ⟨iff_of_false (by decide) wd0, iff_of_false (by decide) wd1, iff_of_false (by decide) wd2, iff_of_false (by decide) wd3, iff_of_false (by decide) wd4, iff_of_true (by decide) hN, iff_of_false (by decide) h65, iff_of_false (by decide) hnum, iff_of_false (by decide) href, iff_of_false (by decide) k0, iff_of_false (by decide) k1, iff_of_false (by decide) k2, iff_of_false (by decide) k3, iff_of_false (by decide) (fun q => q.elim k2 (fun q => q.elim k3 k4)), iff_of_false (by decide) k5, iff_of_false (by decide) (fun q => (ty_row.mp q).elim hrow (fun z => z.2.elim k6 h65)), iff_of_false (by decide) (fun q => q.elim k7 (fun q => (ty_row.mp q).elim hrow (fun z => z.2.elim k6 h65))), iff_of_false (by decide) (fun q => (fun q => (ty_row.mp q).elim hrow (fun z => z.2.elim k6 h65)) q.1), iff_of_false (by decide) (fun q => q.elim k6 h65), (fun q => absurd hN q), (fun _ => hi), (fun q => absurd hN q), (fun _ => hN)⟩
    · have hi : idF B (b, e) = -1 := (idF_w hs).trans (wiF_f hN)
      have hK : kdF B (b, e) = otF B b e := (kdF_w hs).trans (wkF_f hN)
      have k0 : ¬ WdP B b e [99, 108, 97, 115, 115] := fun q => hN (WdP_np q (by decide) (by decide) (by decide))
      have k1 : ¬ WdP B b e [111, 102] := fun q => hN (WdP_np q (by decide) (by decide) (by decide))
      have k2 : ¬ WdP B b e [102, 105, 101, 108, 100] := fun q => hN (WdP_np q (by decide) (by decide) (by decide))
      have k3 : ¬ WdP B b e [115, 116, 97, 116, 105, 99] := fun q => hN (WdP_np q (by decide) (by decide) (by decide))
      have k4 : ¬ WdP B b e [109, 101, 116, 104, 111, 100] := fun q => hN (WdP_np q (by decide) (by decide) (by decide))
      have k5 : ¬ WdP B b e [99, 97, 116, 99, 104] := fun q => hN (WdP_np q (by decide) (by decide) (by decide))
      have k6 : ¬ WdP B b e [105, 110, 116] := fun q => hN (WdP_np q (by decide) (by decide) (by decide))
      have k7 : ¬ WdP B b e [110, 111, 110, 101] := fun q => hN (WdP_np q (by decide) (by decide) (by decide))
      by_cases h65 : NmP B b e 65
      · have hnum := nm_num (Or.inr rfl) h65
        have hrow := nm_row h65
        have href := nm_ref h65
        have har := nm_ar h65
        have hK2 : kdF B (b, e) = 64 := by rw [hK]; unfold otF; rw [if_pos h65]
        rw [hK2]
        exact ⟨iff_of_false (by decide) wd0, iff_of_false (by decide) wd1, iff_of_false (by decide) wd2, iff_of_false (by decide) wd3, iff_of_false (by decide) wd4, iff_of_false (by decide) hN, iff_of_true (by decide) h65, iff_of_false (by decide) hnum, iff_of_false (by decide) href, iff_of_false (by decide) k0, iff_of_false (by decide) k1, iff_of_false (by decide) k2, iff_of_false (by decide) k3, iff_of_false (by decide) (fun q => q.elim k2 (fun q => q.elim k3 k4)), iff_of_false (by decide) k5, iff_of_true (by decide) (ty_row.mpr (Or.inr ⟨har, Or.inr h65⟩)), iff_of_true (by decide) (Or.inr (ty_row.mpr (Or.inr ⟨har, Or.inr h65⟩))), iff_of_true (by decide) ⟨(ty_row.mpr (Or.inr ⟨har, Or.inr h65⟩)), k6⟩, iff_of_true (by decide) (Or.inr h65), (fun _ => hi), (fun q => absurd q hN), (fun _ => ins_np hN), (fun q => absurd q k5)⟩
      by_cases hnum : NumP B b e
      · have hrow := num_row hnum
        have href := num_ref hnum
        have hty : ¬ TyP B b e := fun q => (ty_row.mp q).elim hrow (fun z => z.2.elim k6 h65)
        have hK2 : kdF B (b, e) = 128 := by rw [hK]; unfold otF; rw [if_neg h65, if_pos hnum]
        rw [hK2]
        exact ⟨iff_of_false (by decide) wd0, iff_of_false (by decide) wd1, iff_of_false (by decide) wd2, iff_of_false (by decide) wd3, iff_of_false (by decide) wd4, iff_of_false (by decide) hN, iff_of_false (by decide) h65, iff_of_true (by decide) hnum, iff_of_false (by decide) href, iff_of_false (by decide) k0, iff_of_false (by decide) k1, iff_of_false (by decide) k2, iff_of_false (by decide) k3, iff_of_false (by decide) (fun q => q.elim k2 (fun q => q.elim k3 k4)), iff_of_false (by decide) k5, iff_of_false (by decide) hty, iff_of_false (by decide) (fun q => q.elim k7 hty), iff_of_false (by decide) (fun q => hty q.1), iff_of_false (by decide) (fun q => q.elim k6 h65), (fun _ => hi), (fun q => absurd q hN), (fun _ => ins_np hN), (fun q => absurd q k5)⟩
      by_cases hrow : RowP B b e
      · have href := row_ref hrow
        have hty : TyP B b e := ty_row.mpr (Or.inl hrow)
        have hK2 : kdF B (b, e) = 256 := by rw [hK]; unfold otF; rw [if_neg h65, if_neg hnum, if_pos hrow]
        rw [hK2]
        exact ⟨iff_of_false (by decide) wd0, iff_of_false (by decide) wd1, iff_of_false (by decide) wd2, iff_of_false (by decide) wd3, iff_of_false (by decide) wd4, iff_of_false (by decide) hN, iff_of_false (by decide) h65, iff_of_false (by decide) hnum, iff_of_false (by decide) href, iff_of_false (by decide) k0, iff_of_false (by decide) k1, iff_of_false (by decide) k2, iff_of_false (by decide) k3, iff_of_false (by decide) (fun q => q.elim k2 (fun q => q.elim k3 k4)), iff_of_false (by decide) k5, iff_of_true (by decide) hty, iff_of_true (by decide) (Or.inr hty), iff_of_true (by decide) ⟨hty, k6⟩, iff_of_false (by decide) (fun q => q.elim k6 h65), (fun _ => hi), (fun q => absurd q hN), (fun _ => ins_np hN), (fun q => absurd q k5)⟩
      have hty : ¬ TyP B b e := fun q => (ty_row.mp q).elim hrow (fun z => z.2.elim k6 h65)
      by_cases href : RefP B b e
      · have hK2 : kdF B (b, e) = 512 := by rw [hK]; unfold otF; rw [if_neg h65, if_neg hnum, if_neg hrow, if_pos href]
        rw [hK2]
        exact ⟨iff_of_false (by decide) wd0, iff_of_false (by decide) wd1, iff_of_false (by decide) wd2, iff_of_false (by decide) wd3, iff_of_false (by decide) wd4, iff_of_false (by decide) hN, iff_of_false (by decide) h65, iff_of_false (by decide) hnum, iff_of_true (by decide) href, iff_of_false (by decide) k0, iff_of_false (by decide) k1, iff_of_false (by decide) k2, iff_of_false (by decide) k3, iff_of_false (by decide) (fun q => q.elim k2 (fun q => q.elim k3 k4)), iff_of_false (by decide) k5, iff_of_false (by decide) hty, iff_of_false (by decide) (fun q => q.elim k7 hty), iff_of_false (by decide) (fun q => hty q.1), iff_of_false (by decide) (fun q => q.elim k6 h65), (fun _ => hi), (fun q => absurd q hN), (fun _ => ins_np hN), (fun q => absurd q k5)⟩
      · have hK2 : kdF B (b, e) = 0 := by rw [hK]; unfold otF; rw [if_neg h65, if_neg hnum, if_neg hrow, if_neg href]
        rw [hK2]
        exact ⟨iff_of_false (by decide) wd0, iff_of_false (by decide) wd1, iff_of_false (by decide) wd2, iff_of_false (by decide) wd3, iff_of_false (by decide) wd4, iff_of_false (by decide) hN, iff_of_false (by decide) h65, iff_of_false (by decide) hnum, iff_of_false (by decide) href, iff_of_false (by decide) k0, iff_of_false (by decide) k1, iff_of_false (by decide) k2, iff_of_false (by decide) k3, iff_of_false (by decide) (fun q => q.elim k2 (fun q => q.elim k3 k4)), iff_of_false (by decide) k5, iff_of_false (by decide) hty, iff_of_false (by decide) (fun q => q.elim k7 hty), iff_of_false (by decide) (fun q => hty q.1), iff_of_false (by decide) (fun q => q.elim k6 h65), (fun _ => hi), (fun q => absurd q hN), (fun _ => ins_np hN), (fun q => absurd q k5)⟩
  · have hc := sg_of hs
    have hN : ¬ NmP B b e 97 := fun q => by obtain ⟨-, -, g1, g2, -⟩ := q; omega
    have h65 : ¬ NmP B b e 65 := fun q => by obtain ⟨-, -, g1, g2, -⟩ := q; omega
    have hnum : ¬ NumP B b e := fun q => by
      rcases q with ⟨q1, -⟩ | ⟨-, q2⟩
      · omega
      · have := q2.2.2.1 b (Nat.le_refl b) hbe
        unfold dgP at this
        omega
    have hrow : ¬ RowP B b e := fun q => by have := q.1; omega
    have href : ¬ RefP B b e := fun q => by obtain ⟨i, -, -, -, -, q5, -⟩ := q; obtain ⟨-, -, g1, g2, -⟩ := q5; omega
    have hi : idF B (b, e) = -1 := idF_g hs
    have k0 : ¬ WdP B b e [99, 108, 97, 115, 115] := wd_len he (by decide)
    have k1 : ¬ WdP B b e [111, 102] := wd_len he (by decide)
    have k2 : ¬ WdP B b e [102, 105, 101, 108, 100] := wd_len he (by decide)
    have k3 : ¬ WdP B b e [115, 116, 97, 116, 105, 99] := wd_len he (by decide)
    have k4 : ¬ WdP B b e [109, 101, 116, 104, 111, 100] := wd_len he (by decide)
    have k5 : ¬ WdP B b e [99, 97, 116, 99, 104] := wd_len he (by decide)
    have k6 : ¬ WdP B b e [105, 110, 116] := wd_len he (by decide)
    have k7 : ¬ WdP B b e [110, 111, 110, 101] := wd_len he (by decide)
    have hty : ¬ TyP B b e := fun q => (ty_row.mp q).elim hrow (fun z => z.2.elim k6 h65)
    have hK : kdF B (b, e) = sgF (B b) := kdF_g hs
    have hw : ∀ c, ¬ B b = c → ¬ WdP B b e [c] := fun c h q => h (WdP_1.mp q).2
    have hy : ∀ c, B b = c → WdP B b e [c] := fun c h => WdP_1.mpr ⟨he, h⟩
    rcases hc with hc | hc | hc | hc | hc
    · have hK2 : kdF B (b, e) = 1 := by rw [hK, hc]; decide
      rw [hK2]
      exact ⟨iff_of_true (by decide) (hy 40 hc), iff_of_false (by decide) (hw 41 (by omega)), iff_of_false (by decide) (hw 123 (by omega)), iff_of_false (by decide) (hw 125 (by omega)), iff_of_false (by decide) (hw 58 (by omega)), iff_of_false (by decide) hN, iff_of_false (by decide) h65, iff_of_false (by decide) hnum, iff_of_false (by decide) href, iff_of_false (by decide) k0, iff_of_false (by decide) k1, iff_of_false (by decide) k2, iff_of_false (by decide) k3, iff_of_false (by decide) (fun q => q.elim k2 (fun q => q.elim k3 k4)), iff_of_false (by decide) k5, iff_of_false (by decide) hty, iff_of_false (by decide) (fun q => q.elim k7 hty), iff_of_false (by decide) (fun q => hty q.1), iff_of_false (by decide) (fun q => q.elim k6 h65), (fun _ => hi), (fun q => absurd q hN), (fun _ => ins_np hN), (fun q => absurd q k5)⟩
    · have hK2 : kdF B (b, e) = 2 := by rw [hK, hc]; decide
      rw [hK2]
      exact ⟨iff_of_false (by decide) (hw 40 (by omega)), iff_of_true (by decide) (hy 41 hc), iff_of_false (by decide) (hw 123 (by omega)), iff_of_false (by decide) (hw 125 (by omega)), iff_of_false (by decide) (hw 58 (by omega)), iff_of_false (by decide) hN, iff_of_false (by decide) h65, iff_of_false (by decide) hnum, iff_of_false (by decide) href, iff_of_false (by decide) k0, iff_of_false (by decide) k1, iff_of_false (by decide) k2, iff_of_false (by decide) k3, iff_of_false (by decide) (fun q => q.elim k2 (fun q => q.elim k3 k4)), iff_of_false (by decide) k5, iff_of_false (by decide) hty, iff_of_false (by decide) (fun q => q.elim k7 hty), iff_of_false (by decide) (fun q => hty q.1), iff_of_false (by decide) (fun q => q.elim k6 h65), (fun _ => hi), (fun q => absurd q hN), (fun _ => ins_np hN), (fun q => absurd q k5)⟩
    · have hK2 : kdF B (b, e) = 16 := by rw [hK, hc]; decide
      rw [hK2]
      exact ⟨iff_of_false (by decide) (hw 40 (by omega)), iff_of_false (by decide) (hw 41 (by omega)), iff_of_false (by decide) (hw 123 (by omega)), iff_of_false (by decide) (hw 125 (by omega)), iff_of_true (by decide) (hy 58 hc), iff_of_false (by decide) hN, iff_of_false (by decide) h65, iff_of_false (by decide) hnum, iff_of_false (by decide) href, iff_of_false (by decide) k0, iff_of_false (by decide) k1, iff_of_false (by decide) k2, iff_of_false (by decide) k3, iff_of_false (by decide) (fun q => q.elim k2 (fun q => q.elim k3 k4)), iff_of_false (by decide) k5, iff_of_false (by decide) hty, iff_of_false (by decide) (fun q => q.elim k7 hty), iff_of_false (by decide) (fun q => hty q.1), iff_of_false (by decide) (fun q => q.elim k6 h65), (fun _ => hi), (fun q => absurd q hN), (fun _ => ins_np hN), (fun q => absurd q k5)⟩
    · have hK2 : kdF B (b, e) = 4 := by rw [hK, hc]; decide
      rw [hK2]
      exact ⟨iff_of_false (by decide) (hw 40 (by omega)), iff_of_false (by decide) (hw 41 (by omega)), iff_of_true (by decide) (hy 123 hc), iff_of_false (by decide) (hw 125 (by omega)), iff_of_false (by decide) (hw 58 (by omega)), iff_of_false (by decide) hN, iff_of_false (by decide) h65, iff_of_false (by decide) hnum, iff_of_false (by decide) href, iff_of_false (by decide) k0, iff_of_false (by decide) k1, iff_of_false (by decide) k2, iff_of_false (by decide) k3, iff_of_false (by decide) (fun q => q.elim k2 (fun q => q.elim k3 k4)), iff_of_false (by decide) k5, iff_of_false (by decide) hty, iff_of_false (by decide) (fun q => q.elim k7 hty), iff_of_false (by decide) (fun q => hty q.1), iff_of_false (by decide) (fun q => q.elim k6 h65), (fun _ => hi), (fun q => absurd q hN), (fun _ => ins_np hN), (fun q => absurd q k5)⟩
    · have hK2 : kdF B (b, e) = 8 := by rw [hK, hc]; decide
      rw [hK2]
      exact ⟨iff_of_false (by decide) (hw 40 (by omega)), iff_of_false (by decide) (hw 41 (by omega)), iff_of_false (by decide) (hw 123 (by omega)), iff_of_true (by decide) (hy 125 hc), iff_of_false (by decide) (hw 58 (by omega)), iff_of_false (by decide) hN, iff_of_false (by decide) h65, iff_of_false (by decide) hnum, iff_of_false (by decide) href, iff_of_false (by decide) k0, iff_of_false (by decide) k1, iff_of_false (by decide) k2, iff_of_false (by decide) k3, iff_of_false (by decide) (fun q => q.elim k2 (fun q => q.elim k3 k4)), iff_of_false (by decide) k5, iff_of_false (by decide) hty, iff_of_false (by decide) (fun q => q.elim k7 hty), iff_of_false (by decide) (fun q => hty q.1), iff_of_false (by decide) (fun q => q.elim k6 h65), (fun _ => hi), (fun q => absurd q hN), (fun _ => ins_np hN), (fun q => absurd q k5)⟩
