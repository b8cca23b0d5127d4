theorem xPut_2 (X : uM) (b p w : Nat) (ps c : Int32) : (xPut X b p w ps c).2 = X.2 := by
  rw [xPut_eq]
  unfold xEnter
  split <;> rfl
theorem xPut_far {X : uM} {b p w k : Nat} {ps c : Int32} (h : k < 7 ∨ 14 < k) : (xPut X b p w ps c).1 k = X.1 k := by
  rw [xPut_eq]
  unfold xEnter
  split
  · rw [xE1_far (by omega), xD_far (by omega) (by omega) (by omega)]
  · rw [xE1_far (by omega), xL_far (by omega), xD_far (by omega) (by omega) (by omega)]
/-- the reference's book without its oldest entry -/
def mLo (Y : uM) : uM := uSet (uRow Y 252 (va_cpy (Y.1 252) (Y.1 252) 82 79 33)) 252 6 11
theorem mLo_b {Y : uM} {j : Nat} (h : j < 79) (h6 : j ≠ 6) : (mLo Y).1 252 j = Y.1 252 j := by
  unfold mLo
  rw [u_set_by h6, u_row_at, pk_cpy_out (Or.inl h)]
theorem mLo_a {Y : uM} {j : Nat} (h : 79 ≤ j) (h2 : j < 112) : (mLo Y).1 252 j = Y.1 252 (j + 3) := by
  unfold mLo
  rw [u_set_by (by omega), u_row_at, pk_cpy_in (by omega) (by omega)]
  exact congrArg (Y.1 252) (by omega)
theorem mA_c {Y : uM} {b p w k : Nat} {ps c : Int32} (h : k ≠ 252) : (mAsk1 Y b p w ps c).1 k = Y.1 k := by
  unfold mAsk1
  rw [u_set_far h, u_set_far h, u_set_far h, u_set_far h, u_set_far h, u_set_far h, u_set_far h]
theorem mAsks_c {Y : uM} {b p w k : Nat} {ps c : Int32} (h : k ≠ 252) : (mAsks Y b p w ps c).1 k = Y.1 k := by
  unfold mAsks
  split
  · rw [mA_c h, u_set_far h, u_row_far h]
  · exact mA_c h
theorem mAsks_2 (Y : uM) (b p w : Nat) (ps c : Int32) : (mAsks Y b p w ps c).2 = Y.2 := by
  unfold mAsks
  split <;> rfl
theorem mAsks_st {Y : uM} {b p w j : Nat} {ps c : Int32} (h4 : j ≠ 4) (h6 : j ≠ 6) (hp : j ≠ 7 + 10 * p + 2) (hw : j ≠ 67 + 2 * w + 1) (hb : j < 79) : (mAsks Y b p w ps c).1 252 j = Y.1 252 j := by
  unfold mAsks
  split
  · exact (mA_far h4 h6 hp hw (by omega)).trans (mLo_b hb h6)
  · exact mA_far h4 h6 hp hw (by omega)
theorem rSnap_put {X Y : uM} {n nw p w b : Nat} {c c' ps : Int32} (hn6 : n ≤ 6) (hnw6 : nw ≤ 6) (hh : ¬ Y.1 252 4 = 9999) (hp : p < n) (hw : w < nw) (hf0 : Y.1 252 (7 + 10 * p + 2) = 0) (hc : (c' = 1 ∧ c = 1) ∨ (c' = 0 ∧ c = 2)) (hb : Y.1 252 6 = nI b) (hb12 : b ≤ 12) (S : rSnap X.1 7 (Y.1 252) n nw) : rSnap (xPut X b p w ps c).1 7 ((mAsks Y b p w ps c').1 252) n nw := by
  have hcc : (if c' = 1 then (1 : Int32) else 2) = c := by
    rcases hc with ⟨z1, z2⟩ | ⟨z1, z2⟩
    · rw [z1, z2]; rfl
    · rw [z1, z2]; rfl
  obtain ⟨d4, d5, d8, d10⟩ := xD_at (X := X) (p := p) (w := w) (came := c)
  rw [xPut_eq]
  unfold xEnter mAsks
  by_cases h : b < 12
  · rw [if_pos h, if_neg (show ¬ b = 12 by omega)]
    obtain ⟨x0, x1, x2, x3⟩ := xE1_at (N := xPutD X p w c) (b := b) (p := nI p) (ps := ps) (came := c)
    obtain ⟨m1, m2, m3, m4, m5, m6, m7⟩ := mA_at (Y := Y) (b := b) (ps := ps) (came := c') (show p < 6 by omega) (show w < 6 by omega)
    rw [hcc] at m3
    refine put_core (b := b) (sh := 0) (p := p) (w := w) (c := c) (c' := c') (ps := ps) hn6 hnw6 S hh hp hw hf0 hc ?_ m1 ?_ (mA_far (by decide) (by decide) (by omega) (by omega) (by omega)) (fun r => ?_) (fun r hr => ?_) ?_ (fun r hr => mA_far (by omega) (by omega) (by omega) (by omega) (by omega)) (fun v => ?_) (fun v hv => ?_) hb (by omega) (by decide) x0 m2 (fun e he => ⟨?_, ?_, ?_⟩) (fun e i he hi => ?_) ⟨?_, ?_, ?_⟩ ⟨m5, m6, m7⟩
    · rw [xE1_far (by decide)]; exact d4
    · rw [xE1_far (by decide)]; exact d5
    · rw [xE1_far (by decide)]; exact d8 r
    · by_cases z : r = p
      · subst z; rw [if_pos rfl]; exact m3
      · rw [if_neg z]; exact mA_far (by omega) (by omega) (by omega) (by omega) (by omega)
    · rw [xE1_far (by decide)]; exact xD_far (by decide) (by decide) (by decide)
    · rw [xE1_far (by decide)]; exact d10 v
    · by_cases z : v = w
      · subst z; rw [if_pos rfl]; exact m4
      · rw [if_neg z]; exact mA_far (by omega) (by omega) (by omega) (by omega) (by omega)
    · refine (x1 e).trans ?_
      rw [if_neg (by omega), xD_far (by decide) (by decide) (by decide)]; rfl
    · refine (x2 e).trans ?_
      rw [if_neg (by omega), xD_far (by decide) (by decide) (by decide)]; rfl
    · refine (x3 e).trans ?_
      rw [if_neg (by omega), xD_far (by decide) (by decide) (by decide)]; rfl
    · rw [mA_far (by omega) (by omega) (by omega) (by omega) (by omega)]; rfl
    · exact (x1 b).trans (if_pos rfl)
    · exact (x2 b).trans (if_pos rfl)
    · exact (x3 b).trans (if_pos rfl)
  · have hb' : b = 12 := by omega
    subst hb'
    rw [if_neg h, if_pos rfl]
    obtain ⟨x0, x1, x2, x3⟩ := xE1_at (N := xLose (xPutD X p w c)) (b := 11) (p := nI p) (ps := ps) (came := c)
    obtain ⟨m1, m2, m3, m4, m5, m6, m7⟩ := mA_at (Y := mLo Y) (b := 11) (ps := ps) (came := c') (show p < 6 by omega) (show w < 6 by omega)
    rw [hcc] at m3
    show rSnap (xEnter1 (xLose (xPutD X p w c)) 11 (nI p) ps c).1 7 ((mAsk1 (mLo Y) 11 p w ps c').1 252) n nw
    refine put_core (b := 11) (sh := 1) (p := p) (w := w) (c := c) (c' := c') (ps := ps) hn6 hnw6 S hh hp hw hf0 hc ?_ ?_ ?_ ?_ (fun r => ?_) (fun r hr => ?_) ?_ (fun r hr => ?_) (fun v => ?_) (fun v hv => ?_) hb (by omega) (by decide) x0 m2 (fun e he => ⟨?_, ?_, ?_⟩) (fun e i he hi => ?_) ⟨?_, ?_, ?_⟩ ⟨m5, m6, m7⟩
    · rw [xE1_far (by decide), xL_far (by decide)]; exact d4
    · rw [m1, mLo_b (by decide) (by decide)]
    · rw [xE1_far (by decide), xL_far (by decide)]; exact d5
    · rw [mA_far (by decide) (by decide) (by omega) (by omega) (by omega), mLo_b (by decide) (by decide)]
    · rw [xE1_far (by decide), xL_far (by decide)]; exact d8 r
    · by_cases z : r = p
      · subst z; rw [if_pos rfl]; exact m3
      · rw [if_neg z, mA_far (by omega) (by omega) (by omega) (by omega) (by omega), mLo_b (by omega) (by omega)]
    · rw [xE1_far (by decide), xL_far (by decide)]; exact xD_far (by decide) (by decide) (by decide)
    · rw [mA_far (by omega) (by omega) (by omega) (by omega) (by omega), mLo_b (by omega) (by omega)]
    · rw [xE1_far (by decide), xL_far (by decide)]; exact d10 v
    · by_cases z : v = w
      · subst z; rw [if_pos rfl, m4, mLo_b (by omega) (by omega)]
      · rw [if_neg z, mA_far (by omega) (by omega) (by omega) (by omega) (by omega), mLo_b (by omega) (by omega)]
    · refine (x1 e).trans ?_
      rw [if_neg (by omega), (xL_at he).1, xD_far (by decide) (by decide) (by decide)]
    · refine (x2 e).trans ?_
      rw [if_neg (by omega), (xL_at he).2.1, xD_far (by decide) (by decide) (by decide)]
    · refine (x3 e).trans ?_
      rw [if_neg (by omega), (xL_at he).2.2, xD_far (by decide) (by decide) (by decide)]
    · rw [mA_far (by omega) (by omega) (by omega) (by omega) (by omega), mLo_a (by omega) (by omega)]
      exact congrArg (Y.1 252) (by omega)
    · exact (x1 11).trans (if_pos rfl)
    · exact (x2 11).trans (if_pos rfl)
    · exact (x3 11).trans (if_pos rfl)
