/-! THE TAPE AS A ROW OF LETTERS without blanks: the m-th one's place, the m-th one; what a text of TONGUES is of them -/
def tN (L : Nat → Int32) (n : Nat) : Nat → Nat
  | 0 => 0
  | m + 1 => tSk L n (tN L n m) + 1
def tQ (L : Nat → Int32) (n m : Nat) : Nat := tSk L n (tN L n m)
def tS (L : Nat → Int32) (n m : Nat) : Int32 := tAt L n (tN L n m)
theorem tAt_of {L : Nat → Int32} {n p m : Nat} (h : tSk L n p = tQ L n m) : tAt L n p = tS L n m := by
  unfold tS tAt
  rw [h]; rfl
theorem tSk_idem {L : Nat → Int32} {n : Nat} : ∀ f p, n - p = f → tSk L n (tSk L n p) = tSk L n p := by
  intro f
  induction f with
  | zero => intro p h; have e := tSk_end (L := L) (n := n) (q := p) (by omega); rw [e, e]
  | succ f ih =>
    intro p h
    by_cases hl : L p = 32
    · rw [← tSk_step (by omega) hl]; exact ih (p + 1) (by omega)
    · have e := tSk_stop (n := n) (show p < n by omega) hl; rw [e, e]
theorem tQ_sk {L : Nat → Int32} {n m : Nat} : tSk L n (tQ L n m) = tQ L n m := tSk_idem _ _ rfl
theorem t_lt {L : Nat → Int32} {n m k : Nat} (hk : k < 6) {f : Int32} (hf : 0 ≤ f) (h : f ≤ tIx k (tS L n m)) : tN L n (m + 1) ≤ n := by
  show tSk L n (tN L n m) + 1 ≤ n
  rcases Nat.lt_or_ge (tSk L n (tN L n m)) n with z | z
  · exact z
  · have e : tS L n m = 0 := if_neg (by omega)
    rw [e, tIx0 k hk] at h
    exact absurd (Int32.le_trans hf h) (by decide)
theorem t_ge {r ix f : Int32} (er : r = if f ≤ ix then ix else -4) (hf : 0 ≤ f) (c : 0 ≤ r) : f ≤ ix ∧ r = ix := by
  by_cases h : f ≤ ix
  · rw [if_pos h] at er; exact ⟨h, er⟩
  · rw [if_neg h] at er; rw [er] at c; exact absurd c (by decide)
theorem t_nge {r ix f : Int32} (er : r = if f ≤ ix then ix else -4) (hf : 0 ≤ f) (c : ¬ 0 ≤ r) : ¬ f ≤ ix := by
  intro h
  rw [if_pos h] at er
  rw [er] at c
  exact c (Int32.le_trans hf h)
/-- which text the j-th letter of a speaker is out of -/
def gK (j : Nat) : Nat := if j = 0 then 3 else if j = 1 then 4 else 0
/-- the first letter of a speaker at m that isn't so, from j on; f letters looked at -/
def fRun (σ : Nat → Int32) (m : Nat) : Nat → Nat → Nat
  | j, 0 => j
  | j, f + 1 => if 0 ≤ tIx (gK j) (σ (m + j)) then fRun σ m (j + 1) f else j
theorem gK2 (j : Nat) : gK (2 + j) = 0 := by unfold gK; rw [if_neg (by omega), if_neg (by omega)]
theorem fRun_g {σ : Nat → Int32} {m j f : Nat} (h : 0 ≤ tIx (gK j) (σ (m + j))) : fRun σ m j (f + 1) = fRun σ m (j + 1) f := if_pos h
theorem fRun_b {σ : Nat → Int32} {m j f : Nat} (h : ¬ 0 ≤ tIx (gK j) (σ (m + j))) : fRun σ m j (f + 1) = j := if_neg h
theorem fRun_le (σ : Nat → Int32) (m : Nat) : ∀ f j, j ≤ fRun σ m j f ∧ fRun σ m j f ≤ j + f
  | 0, j => ⟨Nat.le_refl _, Nat.le_refl _⟩
  | f + 1, j => by
    unfold fRun
    split
    · have := fRun_le σ m f (j + 1); omega
    · omega
/-- only place, and the ford that is read into, have changed -/
def tFr (M u : uM) : Prop := (∀ k, k ≠ 240 → (k < 157 ∨ 166 < k ∨ k = 162 ∨ k = 163) → u.1 k = M.1 k) ∧ (∀ j, j ≠ 0 → j ≠ 4 → j ≠ 6 → u.1 157 j = M.1 157 j) ∧ (∀ j, j ≠ 2 → u.1 240 j = M.1 240 j) ∧ u.2 = M.2
/-- speakers below nn, words, ear as before -/
def tI (M u : uM) (nn : Nat) : Prop := tFr M u ∧ u.1 157 4 = M.1 157 4 ∧ u.1 157 6 = M.1 157 6 ∧ u.1 161 = M.1 161 ∧ u.1 166 = M.1 166 ∧ (∀ i, i < nn → u.1 158 i = M.1 158 i ∧ u.1 159 i = M.1 159 i ∧ u.1 164 i = M.1 164 i ∧ u.1 165 i = M.1 165 i) ∧ ∀ i, i < nn * 6 → u.1 160 i = M.1 160 i
theorem tFr_refl (M : uM) : tFr M M := ⟨fun _ _ _ => rfl, fun _ _ _ _ => rfl, fun _ _ => rfl, rfl⟩
theorem tFr_trans {A B C : uM} (h1 : tFr A B) (h2 : tFr B C) : tFr A C :=
  ⟨fun k h h' => (h2.1 k h h').trans (h1.1 k h h'), fun j a b c => (h2.2.1 j a b c).trans (h1.2.1 j a b c), fun j a => (h2.2.2.1 j a).trans (h1.2.2.1 j a), h2.2.2.2.trans h1.2.2.2⟩
theorem tFr_place (M : uM) (x : Int32) : tFr M (uSet M 240 2 x) :=
  ⟨fun k h _ => u_set_far h, fun j _ _ _ => by rw [u_set1, if_neg (by decide)], fun j h => by rw [u_set1, if_pos rfl, if_neg h], rfl⟩
theorem tFr_row {M : uM} {k j : Nat} {x : Int32} (h : 158 ≤ k ∧ k ≤ 166 ∧ k ≠ 162 ∧ k ≠ 163) : tFr M (uSet M k j x) :=
  ⟨fun i h1 h2 => u_set_far (by omega), fun i _ _ _ => by rw [u_set_far (by omega)], fun i _ => by rw [u_set_far (by omega)], rfl⟩
theorem tFr_f {M : uM} {j : Nat} {x : Int32} (h : j = 0 ∨ j = 4 ∨ j = 6) : tFr M (uSet M 157 j x) :=
  ⟨fun i h1 h2 => u_set_far (by omega), fun i a b c => by rw [u_set1, if_pos rfl, if_neg (by omega)], fun i _ => by rw [u_set_far (by decide)], rfl⟩
theorem tI_refl (M : uM) (nn : Nat) : tI M M nn := ⟨tFr_refl M, rfl, rfl, rfl, rfl, fun _ _ => ⟨rfl, rfl, rfl, rfl⟩, fun _ _ => rfl⟩
theorem tI_trans {A B C : uM} {n : Nat} (h1 : tI A B n) (h2 : tI B C n) : tI A C n :=
  ⟨tFr_trans h1.1 h2.1, h2.2.1.trans h1.2.1, h2.2.2.1.trans h1.2.2.1, h2.2.2.2.1.trans h1.2.2.2.1, h2.2.2.2.2.1.trans h1.2.2.2.2.1, fun i hi => by
    obtain ⟨a, b, c, d⟩ := h1.2.2.2.2.2.1 i hi
    obtain ⟨a', b', c', d'⟩ := h2.2.2.2.2.2.1 i hi
    exact ⟨a'.trans a, b'.trans b, c'.trans c, d'.trans d⟩, fun i hi => (h2.2.2.2.2.2.2 i hi).trans (h1.2.2.2.2.2.2 i hi)⟩
theorem tI_place (M : uM) (x : Int32) (n : Nat) : tI M (uSet M 240 2 x) n := ⟨tFr_place M x, rfl, rfl, rfl, rfl, fun _ _ => ⟨rfl, rfl, rfl, rfl⟩, fun _ _ => rfl⟩
theorem tI_can (M : uM) {j n : Nat} (x : Int32) (h : n * 6 ≤ j) : tI M (uSet M 160 j x) n := ⟨tFr_row (by decide), rfl, rfl, rfl, rfl, fun _ _ => ⟨rfl, rfl, rfl, rfl⟩, fun i hi => by rw [u_set1, if_pos rfl, if_neg (by omega)]⟩
theorem tI_add (M : uM) (n : Nat) (a b : Int32) : tI M (xAddS M 157 n a b) n := by
  refine ⟨?_, rfl, rfl, rfl, rfl, fun i hi => ?_, fun i hi => rfl⟩
  · exact tFr_trans (tFr_trans (tFr_trans (tFr_trans (tFr_row (by decide)) (tFr_row (by decide))) (tFr_row (by decide))) (tFr_row (by decide))) (tFr_f (Or.inl rfl))
  · refine ⟨?_, ?_, ?_, ?_⟩
    · show (uSet M 158 n a).1 158 i = _; rw [u_set1, if_pos rfl, if_neg (by omega)]
    · show (uSet M 159 n b).1 159 i = _; rw [u_set1, if_pos rfl, if_neg (by omega)]
    · show (uSet M 164 n 0).1 164 i = _; rw [u_set1, if_pos rfl, if_neg (by omega)]
    · show (uSet M 165 n 0).1 165 i = _; rw [u_set1, if_pos rfl, if_neg (by omega)]
theorem xAddS_at (M : uM) (n : Nat) (a b : Int32) : (xAddS M 157 n a b).1 158 n = a ∧ (xAddS M 157 n a b).1 159 n = b ∧ (xAddS M 157 n a b).1 164 n = 0 ∧ (xAddS M 157 n a b).1 165 n = 0 := by
  refine ⟨?_, ?_, ?_, ?_⟩
  · show (uSet M 158 n a).1 158 n = _; rw [u_set1, if_pos rfl, if_pos rfl]
  · show (uSet M 159 n b).1 159 n = _; rw [u_set1, if_pos rfl, if_pos rfl]
  · show (uSet M 164 n 0).1 164 n = _; rw [u_set1, if_pos rfl, if_pos rfl]
  · show (uSet M 165 n 0).1 165 n = _; rw [u_set1, if_pos rfl, if_pos rfl]
/-- speaker i as it is read at m -/
def tDat (σ : Nat → Int32) (u : uM) (i m : Nat) : Prop := (u.1 158 i = tIx 3 (σ m) ∧ u.1 159 i = tIx 4 (σ (m + 1)) ∧ u.1 164 i = 0 ∧ u.1 165 i = 0) ∧ ∀ j, j < 6 → u.1 160 (i * 6 + j) = tIx 0 (σ (m + 2 + j))
