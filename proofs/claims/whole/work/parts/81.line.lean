/-! LINE: both find the same order -/
theorem mLw_congr {M u : uM} (h : u.1 252 = M.1 252) : mLw u = mLw M := by
  funext w p t
  unfold mLw mWrong
  rw [h, mPass_congr h]
theorem mThose_congr {M u : uM} (h : u.1 252 = M.1 252) : mThose u = mThose M := by
  funext n x
  unfold mThose mFate
  rw [h]
theorem r_lw {M : uM} {n nw w s t : Nat} (R : rFord M.1 1 (M.1 252) n nw) (hs : s < n) (hw : w < nw) : xLw M w s t = mLw M w s (nI t) := by
  unfold xLw mLw
  rw [r_pass R hs hw, r_wrong R hs, r_hour R, show M.1 10 w = M.1 252 (67 + 2 * w + 1) from (R.2.2.2.2.2.2.2.2.2 w hw).1, show M.1 9 s = M.1 252 (7 + 10 * s + 3) from (R.2.2.2.2.2.2.2.2.1 s hs).2.1]
theorem b_lw {M : uM} {n nw w s t : Nat} (R : rFord M.1 1 (M.1 252) n nw) (hs : s < n) (hw : w < nw) (ht : t ≤ 6) : bM (mLw M w s (nI t)) := by
  obtain ⟨h, h1, h2⟩ := b_hour R
  obtain ⟨v, v1, v2⟩ := b_worn R hw
  unfold mLw
  rw [h2, v2, nI_add, nI_add]
  exact b_wrong (b_mPass R hs (by omega) (by omega) _)
/-- the least, looked for in both ways -/
theorem l_min {M : uM} {w set : Nat} {t : Int32} {T f : Nat → Int32} {B : Nat} (hB : B ≤ 6000000) : ∀ j, (∀ p, p < j → ubit (nI set) p = true → f p = mLw M w p t + T (set - 2 ^ p) ∧ ∃ m, m ≤ B ∧ f p = nI m) →
    ((∀ p, p < j → ubit (nI set) p = false) ∧ xLf f set j = 6000000 ∧ mLin M w T set t (-1) j = -1) ∨ (xLf f set j = mLin M w T set t (-1) j ∧ ∃ m, m ≤ B ∧ xLf f set j = nI m) := by
  intro j
  induction j with
  | zero => intro _; exact Or.inl ⟨fun p hp => absurd hp (Nat.not_lt_zero p), rfl, rfl⟩
  | succ j ih =>
    intro h
    have ih := ih (fun p hp hb => h p (by omega) hb)
    have e1 : xLf f set (j + 1) = if ubit (nI set) j = true then (if f j < xLf f set j then f j else xLf f set j) else xLf f set j := rfl
    have e2 : mLin M w T set t (-1) (j + 1) = if ubit (nI set) j = true then (if mLin M w T set t (-1) j < 0 ∨ ¬ mLin M w T set t (-1) j ≤ mLw M w j t + T (set - 2 ^ j) then mLw M w j t + T (set - 2 ^ j) else mLin M w T set t (-1) j) else mLin M w T set t (-1) j := rfl
    rw [e1, e2]
    by_cases b : ubit (nI set) j = true
    · rw [if_pos b, if_pos b]
      obtain ⟨g1, m, g2, g3⟩ := h j (by omega) b
      rw [← g1, g3]
      rcases ih with ⟨i1, i2, i3⟩ | ⟨i1, c, i2, i3⟩
      · rw [i2, i3, if_pos (Or.inl (by decide))]
        refine Or.inr ?_
        have e6 : (6000000 : Int32) = nI 6000000 := rfl
        rw [e6]
        by_cases q : m < 6000000
        · rw [if_pos ((nI_ltI (by omega) (by omega)).mpr q)]
          exact ⟨rfl, m, g2, rfl⟩
        · rw [if_neg (fun z => q ((nI_ltI (by omega) (by omega)).mp z)), show m = 6000000 by omega]
          exact ⟨rfl, 6000000, by omega, rfl⟩
      · rw [← i1, i3]
        refine Or.inr ?_
        by_cases q : m < c
        · rw [if_pos ((nI_ltI (by omega) (by omega)).mpr q), if_pos (Or.inr (fun z => by rw [nI_leI (by omega) (by omega)] at z; omega))]
          exact ⟨rfl, m, g2, rfl⟩
        · rw [if_neg (fun z => q ((nI_ltI (by omega) (by omega)).mp z)), if_neg (fun z => by
            rcases z with z | z
            · exact nI_pos (by omega) z
            · exact z ((nI_leI (by omega) (by omega)).mpr (by omega)))]
          exact ⟨rfl, c, i2, rfl⟩
    · rw [if_neg b, if_neg b]
      rcases ih with ⟨i1, i2, i3⟩ | i
      · refine Or.inl ⟨fun p hp => ?_, i2, i3⟩
        rcases Nat.lt_or_ge p j with q | q
        · exact i1 p q
        · have : p = j := by omega
          subst this; exact Bool.eq_false_iff.mpr b
      · exact Or.inr i
theorem l_zero {M : uM} {w : Nat} {T : Nat → Int32} {t ini : Int32} : ∀ j, j ≤ 6 → mLin M w T 0 t ini j = ini := by
  intro j
  induction j with
  | zero => intro _; rfl
  | succ j ih =>
    intro hj
    have e2 : mLin M w T 0 t ini (j + 1) = if ubit (nI 0) j = true then (if mLin M w T 0 t ini j < 0 ∨ ¬ mLin M w T 0 t ini j ≤ mLw M w j t + T (0 - 2 ^ j) then mLw M w j t + T (0 - 2 ^ j) else mLin M w T 0 t ini j) else mLin M w T 0 t ini j := rfl
    have z : ∀ j : Fin 6, ¬ ubit (nI 0) j.val = true := by decide +kernel
    rw [e2, if_neg (z ⟨j, by omega⟩)]
    exact ih (by omega)
/-- the tables are one on the sets of those who wait -/
theorem l_tab {M : uM} {n nw w al : Nat} {rr tb : Nat → Int32} (R : rFord M.1 1 (M.1 252) n nw) (hw : w < nw) (hal : al < 2 ^ n) (hr : ∀ t s, t < pop al → s < n → rr (t * 6 + s) = mLw M w s (nI t)) (ht : xTabOk rr tb n al al) : ∀ s, uSub s al → s < 64 → tb s = mTab M w n al (al + 1) s ∧ ∃ m, m ≤ pop s * 1000000 ∧ tb s = nI m := by
  have hn6 := R.1.1
  have h64 : 2 ^ n ≤ 2 ^ 6 := Nat.pow_le_pow_right (by decide) hn6
  have hal6 : al < 64 := by omega
  intro s
  induction s using Nat.strongRecOn with
  | ind s ih =>
    intro hs hs6
    obtain ⟨hp1, hle⟩ := sub4 hs6 hal6 hs
    have e1 := mTab_at (M := M) (w := w) (n := n) (al := al) (s := s) (m := al + 1) (by omega)
    rw [if_pos (show (nI s &&& (nI al ^^^ (-1))) = 0 from hs)] at e1
    by_cases h0 : s = 0
    · subst h0
      rw [l_zero n hn6] at e1
      rw [e1, ht.1]
      exact ⟨rfl, 0, Nat.zero_le _, rfl⟩
    · rw [show mLi s = -1 from if_neg h0, show mLt al s = nI (pop al - pop s) from pk_sub hp1] at e1
      have hpop0 : pop s ≠ 0 := fun z => h0 (pop0 hs6 z)
      have hpa := pop6 hal6
      have hps := pop6 hs6
      have e2 := ht.2 s hle h0 hs
      have key := l_min (M := M) (w := w) (set := s) (t := nI (pop al - pop s)) (T := mTab M w n al s) (f := xNext rr tb s (pop al - pop s)) (B := pop s * 1000000) (by omega) n (fun p hp hb => by
        have hp6 : p < 6 := by omega
        obtain ⟨a1, -, a3⟩ := sub1 hs6 hp6 hb
        have a4 := (sub2 hs6 hal6 hp6 hs hb).2
        have hp2 : 0 < 2 ^ p := Nat.pos_of_ne_zero (by simp)
        obtain ⟨c1, m, c2, c3⟩ := ih (s - 2 ^ p) (by omega) a4 (by omega)
        unfold xNext
        rw [sub7 hb, hr _ _ (by omega) hp, c1, mTab_lt (s := s) (by omega) (by omega)]
        refine ⟨rfl, ?_⟩
        rw [mTab_lt (s := s) (by omega) (by omega)] at c1
        rw [← c1, c3]
        obtain ⟨d, d1, d2⟩ := b_lw (t := pop al - pop s) R hp hw (by omega)
        rw [d2, nI_add]
        exact ⟨d + m, by omega, rfl⟩)
      rw [e1, e2]
      rcases key with ⟨k1, -, -⟩ | key
      · obtain ⟨p, hp, hb⟩ := sub3 hs6 h0
        have hpn := sub6 hn6 hal hp (sub2 hs6 hal6 hp hs hb).1
        rw [k1 p hpn] at hb
        exact absurd hb (by decide)
      · exact key
