theorem fF_find {g : Nat → Bool} {p n : Nat} (hp : p < n) (hno : ∀ q, q < p → g q = false) (hg : g p = true) : fF g (n - 1) = p := by
  by_cases h : p = n - 1
  · rw [h] at hno ⊢
    exact fF_no hno
  · rw [show n - 1 = p + 1 + (n - 1 - (p + 1)) by omega]
    exact fF_at hno hg _
/-- one turn -/
theorem l_turn {M : uM} {n nw w al lf t : Nat} {rr tb : Nat → Int32} (R : rFord M.1 1 (M.1 252) n nw) (hal : al < 2 ^ n) (hr : ∀ t s, t < pop al → s < n → rr (t * 6 + s) = mLw M w s (nI t)) (htb : ∀ s, uSub s al → s < 64 → tb s = mTab M w n al (al + 1) s) (hs : uSub lf al) (hlf : lf < 64) (ht : pop lf + t = pop al) (ht2 : t < pop al) :
    ∃ p, p < n ∧ fF (xG rr tb lf t) (n - 1) = p ∧ dF (mLg M w (mTab M w n al (al + 1)) lf (nI t)) n n = nI p ∧ ubit (nI lf) p = true := by
  have hn6 := R.1.1
  have h64 : 2 ^ n ≤ 2 ^ 6 := Nat.pow_le_pow_right (by decide) hn6
  have hal6 : al < 64 := by omega
  have h0 : ¬ lf = 0 := fun z => by
    subst z
    have : pop 0 = 0 := rfl
    omega
  have eg : ∀ p, p < n → xG rr tb lf t p = mLg M w (mTab M w n al (al + 1)) lf (nI t) p := by
    intro p hp
    unfold xG mLg
    by_cases hb : ubit (nI lf) p = true
    · rw [hb, Bool.true_and, Bool.true_and]
      unfold xNext
      rw [sub7 hb, hr _ _ ht2 hp, htb lf hs hlf, htb (lf - 2 ^ p) (sub2 hlf hal6 (by omega) hs hb).2 (Nat.lt_of_le_of_lt (Nat.sub_le _ _) hlf)]
    · rw [Bool.eq_false_iff.mpr hb, Bool.false_and, Bool.false_and]
  obtain ⟨p, p1, p2, p3, p4⟩ := mLg_ex (M := M) (w := w) hn6 hal hs hlf h0 ht
  refine ⟨p, p1, fF_find p1 (fun q hq => by rw [eg q (by omega)]; exact p3 q hq) (by rw [eg p p1]; exact p2), p4, ?_⟩
  unfold mLg at p2
  exact (Bool.and_eq_true _ _ ▸ p2 : _ ∧ _).1
theorem l_turns {M : uM} {n nw w al : Nat} {rr tb : Nat → Int32} (R : rFord M.1 1 (M.1 252) n nw) (hal : al < 2 ^ n) (hr : ∀ t s, t < pop al → s < n → rr (t * 6 + s) = mLw M w s (nI t)) (htb : ∀ s, uSub s al → s < 64 → tb s = mTab M w n al (al + 1) s) : ∀ t, t < pop al →
    ((xCome rr tb n al t).1 = (mLft M w n (mTab M w n al (al + 1)) al t).1 ∧ uSub (xCome rr tb n al t).1 al ∧ (xCome rr tb n al t).1 < 64 ∧ pop (xCome rr tb n al t).1 + t = pop al)
    ∧ (xCome rr tb n al t).2 < n ∧ (mLft M w n (mTab M w n al (al + 1)) al (t + 1)).2 = nI (xCome rr tb n al t).2 ∧ ubit (nI (xCome rr tb n al t).1) (xCome rr tb n al t).2 = true := by
  have hn6 := R.1.1
  have h64 : 2 ^ n ≤ 2 ^ 6 := Nat.pow_le_pow_right (by decide) hn6
  have hal6 : al < 64 := by omega
  intro t
  induction t with
  | zero =>
    intro ht
    have hs := sub5 hal6
    obtain ⟨p, p1, p2, p3, p4⟩ := l_turn R hal hr htb hs hal6 (Nat.add_zero _) ht
    have e1 : xCome rr tb n al 0 = (al, fF (xG rr tb al 0) (n - 1)) := rfl
    have e2 : (mLft M w n (mTab M w n al (al + 1)) al (0 + 1)).2 = dF (mLg M w (mTab M w n al (al + 1)) al (nI 0)) n n := rfl
    rw [e1, e2, p2]
    exact ⟨⟨rfl, hs, hal6, Nat.add_zero _⟩, p1, p3, p4⟩
  | succ t ih =>
    intro ht
    obtain ⟨⟨i1, i2, i3, i4⟩, i5, i6, i7⟩ := ih (by omega)
    have e1 : xCome rr tb n al (t + 1) = (clr (xCome rr tb n al t).1 (xCome rr tb n al t).2, fF (xG rr tb (clr (xCome rr tb n al t).1 (xCome rr tb n al t).2) (t + 1)) (n - 1)) := rfl
    have e2 : (mLft M w n (mTab M w n al (al + 1)) al (t + 1)).1 = (mLft M w n (mTab M w n al (al + 1)) al t).1 - 2 ^ tn (mLft M w n (mTab M w n al (al + 1)) al (t + 1)).2 := rfl
    have e3 : (mLft M w n (mTab M w n al (al + 1)) al (t + 1 + 1)).2 = dF (mLg M w (mTab M w n al (al + 1)) (mLft M w n (mTab M w n al (al + 1)) al (t + 1)).1 (nI (t + 1))) n n := rfl
    rw [i6, tn_nI (by omega), ← i1] at e2
    rw [sub7 i7] at e1
    rw [e3, e2, e1]
    generalize (xCome rr tb n al t).1 = lf at *
    generalize (xCome rr tb n al t).2 = q at *
    obtain ⟨a1, -, a3⟩ := sub1 i3 (by omega) i7
    have a4 := (sub2 i3 hal6 (by omega) i2 i7).2
    obtain ⟨p, p1, p2, p3, p4⟩ := l_turn (t := t + 1) R hal hr htb a4 (Nat.lt_of_le_of_lt (Nat.sub_le _ _) i3) (by omega) ht
    show (_ ∧ uSub (lf - 2 ^ q) al ∧ lf - 2 ^ q < 64 ∧ pop (lf - 2 ^ q) + (t + 1) = pop al) ∧ fF (xG rr tb (lf - 2 ^ q) (t + 1)) (n - 1) < n ∧ _ = nI (fF (xG rr tb (lf - 2 ^ q) (t + 1)) (n - 1)) ∧ ubit (nI (lf - 2 ^ q)) (fF (xG rr tb (lf - 2 ^ q) (t + 1)) (n - 1)) = true
    rw [p2]
    exact ⟨⟨rfl, a4, Nat.lt_of_le_of_lt (Nat.sub_le _ _) i3, by omega⟩, p1, p3, p4⟩
theorem s_line {M u : uM} {n nw : Nat} {x1 x2 r : Int32} (A : rAll M) (R : rFord M.1 1 (M.1 252) n nw)
    (h : if (0 ≤ x1.toInt ∧ x1.toInt < nw) ∧ (-1) ≤ x2 then (if x2 < nI (pop (xThose M n 0)) then ∃ rr tb, u = uRow (uRow M 236 rr) 237 tb ∧ xRowsOk M (tn x1) n (pop (xThose M n 0)) rr ∧ xTabOk rr tb n (xThose M n 0) (xThose M n 0) ∧ r = (if x2 = (-1) then tb (xThose M n 0) else nI (xCome rr tb n (xThose M n 0) (tn x2)).2) else r = -4 ∧ M = u) else r = -1 ∧ M = u) :
    rAll u ∧ u.1 252 = M.1 252 ∧ r = mLine u n nw x1 x2 := by
  have hn6 := R.1.1
  have hw6 := R.1.2.1
  by_cases c : (0 ≤ x1.toInt ∧ x1.toInt < nw) ∧ (-1) ≤ x2
  · rw [if_pos c] at h
    obtain ⟨hw, -⟩ := u_tn c.1 (by omega)
    rw [r_those R] at h
    obtain ⟨ha1, ha2⟩ := mThose_lt (M := M) (x := 0) hn6
    have hpop := pop6 ha2
    by_cases d : x2 < nI (pop (mThose M n 0))
    · rw [if_pos d] at h
      obtain ⟨rr, tb, rfl, h1, h2, hr⟩ := h
      have A' : rAll (uRow (uRow M 236 rr) 237 tb) := s_scr A (fun k a b _ _ => by rw [u_row_far b, u_row_far a]) (fun _ _ _ => rfl) rfl
      have e252 : (uRow (uRow M 236 rr) 237 tb).1 252 = M.1 252 := rfl
      refine ⟨A', e252, ?_⟩
      have R' : rFord (uRow (uRow M 236 rr) 237 tb).1 1 ((uRow (uRow M 236 rr) 237 tb).1 252) n nw := by
        rw [e252]
        exact rFord_congr (fun j hj => by rw [u_row_far (by omega), u_row_far (by omega)]) R
      have hrow : ∀ t s, t < pop (mThose M n 0) → s < n → rr (t * 6 + s) = mLw (uRow (uRow M 236 rr) 237 tb) (tn x1) s (nI t) := by
        intro t s ht hs
        rw [h1 t s ht hs, r_lw R hs hw, mLw_congr e252]
      have ht := l_tab R' hw ha1 hrow h2
      rw [hr]
      unfold mLine mLT
      rw [if_pos c, mThose_congr e252]
      by_cases k : x2 = -1
      · rw [if_pos k, if_neg (by rw [k]; decide)]
        exact (ht _ (sub5 ha2) ha2).1
      · obtain ⟨k1, k2⟩ := u_k c.2 d k (by omega)
        rw [if_neg k, if_pos (by rw [k2]; exact nI_pos' (by omega)), if_neg (by omega)]
        exact (l_turns R' ha1 hrow (fun s a b => (ht s a b).1) (tn x2) k1).2.2.1.symm
    · rw [if_neg d] at h
      obtain ⟨rfl, rfl⟩ := h
      refine ⟨A, rfl, ?_⟩
      unfold mLine
      have h0 : 0 ≤ x2 := by
        rw [Int32.not_lt] at d
        exact Int32.le_trans (nI_pos' (by omega)) d
      obtain ⟨k1, k2⟩ := u_tn0 h0
      rw [if_pos c, if_pos h0, if_pos]
      rw [k2, nI_ltI (by omega) (by omega)] at d
      omega
  · rw [if_neg c] at h
    obtain ⟨rfl, rfl⟩ := h
    refine ⟨A, rfl, ?_⟩
    unfold mLine
    rw [if_neg c]
