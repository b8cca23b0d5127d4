/-! lines, proofs, likes: what the walks of them need -/
theorem pop0f : ∀ s : Fin 64, pop s.val = 0 → s.val = 0 := by decide +kernel
theorem pop0 {s : Nat} (hs : s < 64) (h : pop s = 0) : s = 0 := pop0f ⟨s, hs⟩ h
theorem sub7 {s p : Nat} (h : ubit (nI s) p = true) : clr s p = s - 2 ^ p := if_pos h
/-- what the rows of the line's reckoning hold -/
def xRowsOk (M : uM) (w n tt : Nat) (rr : Nat → Int32) : Prop := ∀ t s, t < tt → s < n → rr (t * 6 + s) = xLw M w s t
def xTabOk (rr tb : Nat → Int32) (n al i : Nat) : Prop := tb 0 = 0 ∧ ∀ s, s ≤ i → ¬ s = 0 → uSub s al → tb s = xLf (xNext rr tb s (pop al - pop s)) s n
theorem xTab_step {rr tb : Nat → Int32} {n al i : Nat} {v : Int32} (hn : n ≤ 6) (hal : al < 64) (hi : i < al) (h : xTabOk rr tb n al i) (hs : uSub (1 + i) al) (hv : v = xLf (xNext rr tb (1 + i) (pop al - pop (1 + i))) (1 + i) n) : xTabOk rr (upd tb (1 + i) v) n al (i + 1) := by
  refine ⟨by rw [u_upd, if_neg (by omega)]; exact h.1, fun s h1 h2 h3 => ?_⟩
  have key : ∀ s, s ≤ 1 + i → ¬ s = 0 → xLf (xNext rr (upd tb (1 + i) v) s (pop al - pop s)) s n = xLf (xNext rr tb s (pop al - pop s)) s n := by
    intro s hs1 hs0
    refine xLf_cong (fun p hp hb => ?_)
    have hs64 : s < 64 := by omega
    have hp6 : p < 6 := by omega
    obtain ⟨a1, -, -⟩ := sub1 hs64 hp6 hb
    have hp2 : 0 < 2 ^ p := Nat.pos_of_ne_zero (by simp)
    show rr _ + upd tb (1 + i) v (clr s p) = rr _ + tb (clr s p)
    rw [sub7 hb, u_upd, if_neg (by omega)]
  rw [key s (by omega) h2]
  by_cases e : s = 1 + i
  · subst e
    rw [u_upd, if_pos rfl, hv]
  · rw [u_upd, if_neg e]
    exact h.2 s (by omega) h2 h3
theorem xTab_skip {rr tb : Nat → Int32} {n al i : Nat} (h : xTabOk rr tb n al i) (hs : ¬ uSub (1 + i) al) : xTabOk rr tb n al (i + 1) := by
  refine ⟨h.1, fun s h1 h2 h3 => ?_⟩
  by_cases e : s = 1 + i
  · subst e; exact absurd h3 hs
  · exact h.2 s (by omega) h2 h3
def xPasses (M : uM) (n nw : Nat) (rr : Nat → Int32) : Prop := ∀ p w, p < n → w < nw → rr (p * 6 + w) = xPassIn M p w (M.1 7 4)
/-- the fewest words of those that g likes, of these the least -/
def xFew (g : Nat → Bool) (m : Nat) (r : Int32) : Prop := (r = -4 ∧ ∀ s, s < m → g s = false) ∨ ∃ s, s < m ∧ r = nI s ∧ g s = true ∧ ∀ s', s' < m → g s' = true → pop s < pop s' ∨ (pop s = pop s' ∧ s ≤ s')
