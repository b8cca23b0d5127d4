/-! words of a text: letters that rise, in a row -/
/-- from letter x on, letters from lo on may come, z: what came; f at most: where it ends, all that came -/
def fWd (σ : Nat → Int32) : Nat → Nat → Nat → Nat → Nat × Nat
  | x, _, z, 0 => (x, z)
  | x, lo, z, f + 1 => if nI lo ≤ tIx 5 (σ x) then fWd σ (x + 1) (tn (tIx 5 (σ x)) + 1) (z + 2 ^ tn (tIx 5 (σ x))) f else (x, z)
def fW (σ : Nat → Int32) (m : Nat) : Nat × Nat := fWd σ m 0 0 6
theorem tIx_range : ∀ (k : Fin 6) (b : Fin 256), tIxF k.val ((nI b.val).toInt8.toInt32) 0 (tLen.getD k.val 0) = -1 ∨ ∃ s : Fin 10, s.val < tLen.getD k.val 0 ∧ tIxF k.val ((nI b.val).toInt8.toInt32) 0 (tLen.getD k.val 0) = nI s.val := by decide +kernel
theorem tIx_s {k : Nat} {c : Int32} (hk : k < 6) (h : 0 ≤ tIx k c) : tn (tIx k c) < tLen.getD k 0 ∧ tIx k c = nI (tn (tIx k c)) := by
  unfold tIx at h ⊢
  by_cases h1 : c < 0
  · rw [if_pos h1] at h; exact absurd h (by decide)
  · rw [if_neg h1] at h ⊢
    by_cases h2 : 255 < c
    · rw [if_pos h2] at h; exact absurd h (by decide)
    · rw [if_neg h2] at h ⊢
      obtain ⟨n, hn, rfl⟩ := nI_of h1
      have h256 : n < 256 := by
        rcases Nat.lt_or_ge n 256 with q | q
        · exact q
        · exact absurd (nI_lt (a := 255) (b := n) (by omega) hn) h2
      rcases tIx_range ⟨k, hk⟩ ⟨n, h256⟩ with e | ⟨s, hs, e⟩
      · rw [e] at h; exact absurd h (by decide)
      · have e' : tIxF k ((nI n).toInt8.toInt32) 0 (tLen.getD k 0) = nI s.val := e
        rw [e', tn_nI (by omega)]
        exact ⟨hs, rfl⟩
theorem t_rise {lo s z : Nat} (h1 : lo ≤ s) (h2 : z < 2 ^ lo) (hs : s < 6) : nI z ||| ((1 : Int32) <<< (nI s &&& 31)) = nI (z + 2 ^ s) ∧ z + 2 ^ s < 2 ^ (s + 1) := by
  have h3 : 2 ^ lo ≤ 2 ^ s := Nat.pow_le_pow_right (by decide) h1
  refine ⟨nSet_or ⟨s, hs⟩ ⟨z, by show z < 2 ^ s; omega⟩, ?_⟩
  rw [Nat.pow_succ]; omega
theorem fWd_g {σ : Nat → Int32} {x lo z f : Nat} (h : nI lo ≤ tIx 5 (σ x)) : fWd σ x lo z (f + 1) = fWd σ (x + 1) (tn (tIx 5 (σ x)) + 1) (z + 2 ^ tn (tIx 5 (σ x))) f := if_pos h
theorem fWd_b {σ : Nat → Int32} {x lo z f : Nat} (h : ¬ nI lo ≤ tIx 5 (σ x)) : fWd σ x lo z f = (x, z) := by
  cases f with
  | zero => rfl
  | succ f => exact if_neg h
theorem fWd_le (σ : Nat → Int32) : ∀ f x lo z, x ≤ (fWd σ x lo z f).1 := by
  intro f
  induction f with
  | zero => intro x lo z; exact Nat.le_refl _
  | succ f ih =>
    intro x lo z
    unfold fWd
    split
    · have := ih (x + 1) (tn (tIx 5 (σ x)) + 1) (z + 2 ^ tn (tIx 5 (σ x))); omega
    · exact Nat.le_refl _
/-- words below w, speakers, ear as before -/
def tJ (M u : uM) (w : Nat) : Prop := tFr M u ∧ u.1 157 0 = M.1 157 0 ∧ u.1 157 6 = M.1 157 6 ∧ (u.1 158 = M.1 158 ∧ u.1 159 = M.1 159 ∧ u.1 160 = M.1 160 ∧ u.1 164 = M.1 164 ∧ u.1 165 = M.1 165) ∧ ∀ i, i < w → u.1 161 i = M.1 161 i ∧ u.1 166 i = M.1 166 i
theorem tJ_refl (M : uM) (n : Nat) : tJ M M n := ⟨tFr_refl M, rfl, rfl, ⟨rfl, rfl, rfl, rfl, rfl⟩, fun _ _ => ⟨rfl, rfl⟩⟩
theorem tJ_trans {A B C : uM} {n : Nat} (h1 : tJ A B n) (h2 : tJ B C n) : tJ A C n :=
  ⟨tFr_trans h1.1 h2.1, h2.2.1.trans h1.2.1, h2.2.2.1.trans h1.2.2.1, ⟨h2.2.2.2.1.1.trans h1.2.2.2.1.1, h2.2.2.2.1.2.1.trans h1.2.2.2.1.2.1, h2.2.2.2.1.2.2.1.trans h1.2.2.2.1.2.2.1, h2.2.2.2.1.2.2.2.1.trans h1.2.2.2.1.2.2.2.1, h2.2.2.2.1.2.2.2.2.trans h1.2.2.2.1.2.2.2.2⟩, fun i hi => ⟨(h2.2.2.2.2 i hi).1.trans (h1.2.2.2.2 i hi).1, (h2.2.2.2.2 i hi).2.trans (h1.2.2.2.2 i hi).2⟩⟩
theorem tJ_place (M : uM) (x : Int32) (n : Nat) : tJ M (uSet M 240 2 x) n := ⟨tFr_place M x, rfl, rfl, ⟨rfl, rfl, rfl, rfl, rfl⟩, fun _ _ => ⟨rfl, rfl⟩⟩
theorem tJ_weak {A B : uM} {n : Nat} (h : tJ A B n) : tJ A B 0 := ⟨h.1, h.2.1, h.2.2.1, h.2.2.2.1, fun _ z => absurd z (Nat.not_lt_zero _)⟩
theorem tJ_add (M : uM) (w : Nat) (x : Int32) : tJ M (xAddW M 157 w x) w := by
  refine ⟨?_, rfl, rfl, ⟨rfl, rfl, rfl, rfl, rfl⟩, fun i hi => ⟨?_, ?_⟩⟩
  · exact tFr_trans (tFr_trans (tFr_row (by decide)) (tFr_row (by decide))) (tFr_f (Or.inr (Or.inl rfl)))
  · show (uSet M 161 w x).1 161 i = _; rw [u_set1, if_pos rfl, if_neg (by omega)]
  · show (uSet M 166 w 0).1 166 i = _; rw [u_set1, if_pos rfl, if_neg (by omega)]
theorem xAddW_at (M : uM) (w : Nat) (x : Int32) : (xAddW M 157 w x).1 161 w = x ∧ (xAddW M 157 w x).1 166 w = 0 := by
  refine ⟨?_, ?_⟩
  · show (uSet M 161 w x).1 161 w = _; rw [u_set1, if_pos rfl, if_pos rfl]
  · show (uSet M 166 w 0).1 166 w = _; rw [u_set1, if_pos rfl, if_pos rfl]
theorem t_ge1 {lo : Nat} (hlo : lo < 100) : (0 : Int32) ≤ nI lo := by
  rw [Int32.le_iff_toInt_le, nI_toInt (by omega)]
  have : (0 : Int32).toInt = 0 := rfl
  omega
theorem nI_le_iff {a b : Nat} (ha : a < 100) (hb : b < 100) : nI a ≤ nI b ↔ a ≤ b := by
  rw [Int32.le_iff_toInt_le, nI_toInt (by omega), nI_toInt (by omega)]; omega
