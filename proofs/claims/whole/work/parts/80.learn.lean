/-! LEARN: both find the same sounds -/
theorem l_bits (k s g : Int32) : k &&& ((s &&& (g ^^^ (-1))) ^^^ (-1)) = (k &&& (s ^^^ (-1))) ||| (k &&& g) := by
  apply Int32.toBitVec_inj.mp
  have e : (-1 : Int32).toBitVec = BitVec.allOnes 32 := rfl
  rw [Int32.toBitVec_and, Int32.toBitVec_xor, Int32.toBitVec_and, Int32.toBitVec_xor, Int32.toBitVec_or, Int32.toBitVec_and, Int32.toBitVec_and, Int32.toBitVec_xor, e]
  generalize k.toBitVec = a
  generalize s.toBitVec = b
  generalize g.toBitVec = c
  ext i hi
  rw [BitVec.getElem_and, BitVec.getElem_xor, BitVec.getElem_and, BitVec.getElem_xor, BitVec.getElem_or, BitVec.getElem_and, BitVec.getElem_and, BitVec.getElem_xor, BitVec.getElem_allOnes]
  cases a[i] <;> cases b[i] <;> cases c[i] <;> rfl
theorem l_or0 (a b : Int32) : a ||| b = 0 ↔ a = 0 ∧ b = 0 := by
  rw [← Int32.toBitVec_inj, ← Int32.toBitVec_inj, ← Int32.toBitVec_inj, Int32.toBitVec_or]
  exact BitVec.or_eq_zero_iff
theorem l_ok {M : uM} {w nn on k : Nat} {tg : Int32} (h : nI on = M.1 252 (67 + 2 * w) &&& (tg ^^^ (-1))) : xOk on nn k = mOk M w nn tg k := by
  have e : xOk on nn k = true ↔ mOk M w nn tg k = true := by
    rw [xOk_iff, mOk_iff, h, l_bits, l_or0]
    exact ⟨fun z => ⟨z.1.1, z.1.2, z.2⟩, fun z => ⟨⟨z.1, z.2.1⟩, z.2.2⟩⟩
  exact Bool.eq_iff_iff.mpr e
theorem l_eq {ok : Nat → Bool} {f : Nat → Int32} (h0 : ok 0 = true) (hf : ¬ f 0 ≤ -1) : ∀ k, uLearn ok f (k + 1) = xLearn ok f k := by
  intro k
  induction k with
  | zero =>
    have e : uLearn ok f 1 = if ok 0 = true ∧ (¬ f 0 ≤ -1 ∨ (f 0 = -1 ∧ pop 0 < pop 0)) then (0, f 0) else (0, -1) := rfl
    rw [e, if_pos ⟨h0, Or.inl hf⟩]
    rfl
  | succ k ih =>
    have e : uLearn ok f (k + 1 + 1) = if ok (k + 1) = true ∧ (¬ f (k + 1) ≤ (uLearn ok f (k + 1)).2 ∨ (f (k + 1) = (uLearn ok f (k + 1)).2 ∧ pop (k + 1) < pop (uLearn ok f (k + 1)).1)) then (k + 1, f (k + 1)) else uLearn ok f (k + 1) := rfl
    rw [e, ih]
    rfl
theorem l_stop {ok : Nat → Bool} {f : Nat → Int32} {o : Nat} : ∀ j, (∀ k, o < k → k ≤ o + j → ok k = false) → xLearn ok f (o + j) = xLearn ok f o := by
  intro j
  induction j with
  | zero => intro _; rfl
  | succ j ih =>
    intro h
    have e : xLearn ok f (o + j + 1) = if ok (o + j + 1) = true ∧ (¬ f (o + j + 1) ≤ (xLearn ok f (o + j)).2 ∨ (f (o + j + 1) = (xLearn ok f (o + j)).2 ∧ pop (o + j + 1) < pop (xLearn ok f (o + j)).1)) then (o + j + 1, f (o + j + 1)) else xLearn ok f (o + j) := rfl
    rw [show o + (j + 1) = o + j + 1 by omega, e, if_neg (fun z => by rw [h (o + j + 1) (by omega) (by omega)] at z; exact absurd z.1 (by decide))]
    exact ih (fun k h1 h2 => h k h1 (by omega))
theorem l_congr {ok ok' : Nat → Bool} {f f' : Nat → Int32} (h : ok = ok') (hf : f = f') (k : Nat) : xLearn ok f k = xLearn ok' f' k := by rw [h, hf]
theorem l_val {ok : Nat → Bool} {f : Nat → Int32} : ∀ k, (xLearn ok f k).2 = f (xLearn ok f k).1 := by
  intro k
  induction k with
  | zero => rfl
  | succ k ih =>
    have e : xLearn ok f (k + 1) = if ok (k + 1) = true ∧ (¬ f (k + 1) ≤ (xLearn ok f k).2 ∨ (f (k + 1) = (xLearn ok f k).2 ∧ pop (k + 1) < pop (xLearn ok f k).1)) then (k + 1, f (k + 1)) else xLearn ok f k := rfl
    rw [e]
    split
    · rfl
    · exact ih
theorem q_learn {M : uM} {n nw : Nat} (R : rFord M.1 1 (M.1 252) n nw) (x1 x2 x3 x4 : Int32) :
    (if (0 ≤ x1.toInt ∧ x1.toInt < n) ∧ (0 ≤ x2.toInt ∧ x2.toInt < nw) ∧ (0 ≤ x3.toInt ∧ x3.toInt ≤ 6) ∧ (0 ≤ x4.toInt ∧ x4.toInt ≤ 1) then (if x4 = 0 then nI (xLearn (xOk (tn (xOpen M (tn x1) (tn x2))) (tn x3)) (fun s => xTaught M (tn x1) (tn x2) (nI s)) (tn (xOpen M (tn x1) (tn x2)))).1 else xTaught M (tn x1) (tn x2) (nI (xLearn (xOk (tn (xOpen M (tn x1) (tn x2))) (tn x3)) (fun s => xTaught M (tn x1) (tn x2) (nI s)) (tn (xOpen M (tn x1) (tn x2)))).1)) else -1)
    = if (0 ≤ x1.toInt ∧ x1.toInt < n) ∧ (0 ≤ x2.toInt ∧ x2.toInt < nw) ∧ (0 ≤ x3.toInt ∧ x3.toInt ≤ 6) ∧ (0 ≤ x4.toInt ∧ x4.toInt ≤ 1) then (if x4 = 0 then nI (uLearn (mOk M (tn x2) (tn x3) (M.1 252 (7 + 10 * tn x1 + 3))) (mLf M (tn x1) (tn x2) (M.1 252 (7 + 10 * tn x1 + 3))) 64).1 else (uLearn (mOk M (tn x2) (tn x3) (M.1 252 (7 + 10 * tn x1 + 3))) (mLf M (tn x1) (tn x2) (M.1 252 (7 + 10 * tn x1 + 3))) 64).2) else -1 := by
  have hn6 := R.1.1
  have hw6 := R.1.2.1
  by_cases c : (0 ≤ x1.toInt ∧ x1.toInt < n) ∧ (0 ≤ x2.toInt ∧ x2.toInt < nw) ∧ (0 ≤ x3.toInt ∧ x3.toInt ≤ 6) ∧ (0 ≤ x4.toInt ∧ x4.toInt ≤ 1)
  · rw [if_pos c, if_pos c]
    obtain ⟨h1, -⟩ := u_tn c.1 (by omega)
    obtain ⟨h2, -⟩ := u_tn c.2.1 (by omega)
    have etg : M.1 9 (tn x1) = M.1 252 (7 + 10 * tn x1 + 3) := (R.2.2.2.2.2.2.2.2.1 _ h1).2.1
    obtain ⟨esn, s, -, hs, es⟩ := R.2.2.2.1 _ h2
    have esn' : M.1 5 (tn x2) = M.1 252 (67 + 2 * tn x2) := esn
    have eo : xOpen M (tn x1) (tn x2) = M.1 252 (67 + 2 * tn x2) &&& (M.1 252 (7 + 10 * tn x1 + 3) ^^^ (-1)) := by
      unfold xOpen
      rw [etg, esn']
    obtain ⟨o, ho, eo2⟩ := u_and63 s hs (M.1 252 (7 + 10 * tn x1 + 3) ^^^ (-1))
    rw [← es, ← eo] at eo2
    have hto : tn (xOpen M (tn x1) (tn x2)) = o := by rw [eo2, tn_nI (by omega)]
    rw [hto]
    have eok : xOk o (tn x3) = mOk M (tn x2) (tn x3) (M.1 252 (7 + 10 * tn x1 + 3)) := funext fun k => l_ok (eo2.symm.trans eo)
    have ef : (fun s => xTaught M (tn x1) (tn x2) (nI s)) = mLf M (tn x1) (tn x2) (M.1 252 (7 + 10 * tn x1 + 3)) := by
      funext k
      unfold xTaught mLf
      rw [r_pass R h1 h2, etg, r_hour R, show M.1 10 (tn x2) = M.1 252 (67 + 2 * tn x2 + 1) from (R.2.2.2.2.2.2.2.2.2 _ h2).1]
    have hb : ∀ k, bM (mLf M (tn x1) (tn x2) (M.1 252 (7 + 10 * tn x1 + 3)) k) := by
      intro k
      obtain ⟨h, a1, a2⟩ := b_hour R
      obtain ⟨v, v1, v2⟩ := b_worn R h2
      unfold mLf
      rw [a2, v2]
      exact b_mPass R h1 (by omega) (by omega) _
    have hx : uLearn (mOk M (tn x2) (tn x3) (M.1 252 (7 + 10 * tn x1 + 3))) (mLf M (tn x1) (tn x2) (M.1 252 (7 + 10 * tn x1 + 3))) 64 = xLearn (xOk o (tn x3)) (fun s => xTaught M (tn x1) (tn x2) (nI s)) o := by
      rw [eok, ef]
      refine (l_eq ?_ ?_ 63).trans ?_
      · rw [← eok, xOk_iff]
        refine ⟨?_, Nat.zero_le _⟩
        rw [show nI 0 = 0 from rfl]
        exact Int32.zero_and
      · obtain ⟨m, m1, m2⟩ := hb 0
        rw [m2, Int32.le_iff_toInt_le, nI_toInt (by omega)]
        have : (-1 : Int32).toInt = -1 := rfl
        omega
      · rw [show 63 = o + (63 - o) by omega]
        refine l_stop (63 - o) (fun k a b => ?_)
        rw [← eok]
        apply Bool.eq_false_iff.mpr
        intro z
        rw [xOk_iff] at z
        have := (sub4 (s := k) (a := o) (by omega) ho z.1).2
        omega
    rw [hx]
    by_cases d : x4 = 0
    · rw [if_pos d, if_pos d]
    · rw [if_neg d, if_neg d, l_val]
  · rw [if_neg c, if_neg c]
