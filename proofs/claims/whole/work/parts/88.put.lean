/-! one who is asked -/
theorem rCnt_one {J J' : Nat → Int32} {p : Nat} (h0 : J (7 + 10 * p + 2) = 0) (h1 : ¬ J' (7 + 10 * p + 2) = 0) : ∀ n, (∀ q, q < n → q ≠ p → J' (7 + 10 * q + 2) = J (7 + 10 * q + 2)) → rCnt J' n = rCnt J n + if p < n then 1 else 0 := by
  intro n
  induction n with
  | zero => intro _; rfl
  | succ n ih =>
    intro h
    have ih := ih (fun q hq hne => h q (by omega) hne)
    have e (J : Nat → Int32) : rCnt J (n + 1) = rCnt J n + if J (7 + 10 * n + 2) = 0 then 0 else 1 := rfl
    rw [e, e, ih]
    by_cases c : n = p
    · subst c
      rw [if_neg h1, if_pos h0, if_neg (by omega), if_pos (by omega)]
    · rw [h n (by omega) c]
      by_cases d : p < n
      · rw [if_pos d, if_pos (show p < n + 1 by omega)]
        omega
      · rw [if_neg d, if_neg (show ¬ p < n + 1 by omega)]
        omega
theorem put_core {I I' : Nat → Nat → Int32} {q : Nat} {J J' : Nat → Int32} {n nw p w b sh : Nat} {c c' ps : Int32} (hn6 : n ≤ 6) (hnw6 : nw ≤ 6) (S : rSnap I q J n nw) (hh : ¬ J 4 = 9999) (hp : p < n) (hw : w < nw) (hf0 : J (7 + 10 * p + 2) = 0) (hc : (c' = 1 ∧ c = 1) ∨ (c' = 0 ∧ c = 2))
    (i4 : I' q 4 = I q 4 + 1) (j4 : J' 4 = J 4 + 1) (i5 : I' q 5 = I q 5) (j5 : J' 5 = J 5)
    (i1 : ∀ r, I' (q + 1) r = if r = p then c else I (q + 1) r) (j2 : ∀ r, r < 6 → J' (7 + 10 * r + 2) = if r = p then c else J (7 + 10 * r + 2))
    (i2 : I' (q + 2) = I (q + 2)) (j3 : ∀ r, r < 6 → J' (7 + 10 * r + 3) = J (7 + 10 * r + 3))
    (i3 : ∀ v, I' (q + 3) v = if v = w then I (q + 3) w + 1 else I (q + 3) v) (jw : ∀ v, v < 6 → J' (67 + 2 * v + 1) = if v = w then J (67 + 2 * w + 1) + 1 else J (67 + 2 * v + 1))
    (hb : J 6 = nI (b + sh)) (hb11 : b ≤ 11) (hsh : sh ≤ 1) (i6 : I' (q + 4) 0 = nI (b + 1)) (j6 : J' 6 = nI (b + 1))
    (ie : ∀ e, e < b → I' (q + 5) e = I (q + 5) (e + sh) ∧ I' (q + 6) e = I (q + 6) (e + sh) ∧ I' (q + 7) e = I (q + 7) (e + sh))
    (je : ∀ e i, e < b → i < 3 → J' (79 + 3 * e + i) = J (79 + 3 * (e + sh) + i))
    (il : I' (q + 5) b = nI p ∧ I' (q + 6) b = ps ∧ I' (q + 7) b = c) (jl : J' (79 + 3 * b) = nI p ∧ J' (79 + 3 * b + 1) = ps ∧ J' (79 + 3 * b + 2) = c') : rSnap I' q J' n nw := by
  obtain ⟨a1, a2, ⟨h, a3, a4⟩, ⟨b0, b1, b2, b3, b4⟩, c1, d1⟩ := S
  have eb : b0 = b + sh := (nI_eq (by omega) (by omega)).mp (b3.symm.trans hb)
  subst eb
  have hne : h ≠ 9999 := fun z => hh (by rw [a4, z]; rfl)
  have hc2 : ¬ c = 0 ∧ ∃ f, f ≤ 2 ∧ c = nI f := by
    rcases hc with ⟨-, z⟩ | ⟨-, z⟩
    · rw [z]; exact ⟨by decide, 1, by decide, rfl⟩
    · rw [z]; exact ⟨by decide, 2, by decide, rfl⟩
  have hcnt : rCnt J' n = rCnt J n + 1 := by
    rw [rCnt_one hf0 (by rw [j2 p (by omega), if_pos rfl]; exact hc2.1) n (fun r hr hne => by rw [j2 r (by omega), if_neg hne]), if_pos hp]
  refine ⟨by rw [i4, j4, a1], by rw [i5, j5, a2], ⟨h + 1, by omega, by rw [j4, a4, nI_1]⟩, ⟨b + 1, by omega, i6, j6, fun e he => ?_⟩, fun r hr => ?_, fun v hv => ?_⟩
  · by_cases z : e = b
    · subst z
      obtain ⟨l1, l2, l3⟩ := il
      obtain ⟨m1, m2, m3⟩ := jl
      rw [l1, l2, l3, m1, m2, m3]
      exact ⟨rfl, rfl, hc, p, hp, rfl⟩
    · obtain ⟨l1, l2, l3⟩ := ie e (by omega)
      have m0 := je e 0 (by omega) (by decide)
      have m1 := je e 1 (by omega) (by decide)
      have m2 := je e 2 (by omega) (by decide)
      rw [Nat.add_zero, Nat.add_zero] at m0
      rw [l1, l2, l3, m0, m1, m2]
      exact b4 (e + sh) (by omega)
  · obtain ⟨y1, y2, y3, y4⟩ := c1 r hr
    rw [i1, j2 r (by omega), i2, j3 r (by omega)]
    by_cases z : r = p
    · rw [if_pos z, if_pos z]
      exact ⟨rfl, y2, hc2.2, y4⟩
    · rw [if_neg z, if_neg z]
      exact ⟨y1, y2, y3, y4⟩
  · obtain ⟨y1, v', y2, y3⟩ := d1 v hv
    rw [i3, jw v (by omega), hcnt]
    by_cases z : v = w
    · subst z
      rw [if_pos rfl, if_pos rfl, y1, y3, nI_1]
      exact ⟨rfl, v' + 1, by omega, rfl⟩
    · rw [if_neg z, if_neg z]
      exact ⟨y1, v', by omega, y3⟩
/-! the class's cells -/
theorem xE1_far {N : uM} {b c : Nat} {p ps came : Int32} (h : c < 11 ∨ 14 < c) : (xEnter1 N b p ps came).1 c = N.1 c := by
  unfold xEnter1
  rw [u_set_far (by omega), u_set_far (by omega), u_set_far (by omega), u_set_far (by omega)]
theorem xE1_at {N : uM} {b : Nat} {p ps came : Int32} : (xEnter1 N b p ps came).1 11 0 = nI (b + 1) ∧ (∀ e, (xEnter1 N b p ps came).1 12 e = if e = b then p else N.1 12 e) ∧ (∀ e, (xEnter1 N b p ps came).1 13 e = if e = b then ps else N.1 13 e) ∧ (∀ e, (xEnter1 N b p ps came).1 14 e = if e = b then came else N.1 14 e) := by
  unfold xEnter1
  refine ⟨u_set_at, fun e => ?_, fun e => ?_, fun e => ?_⟩
  · rw [u_set_far (by decide), u_set_far (by decide), u_set_far (by decide), u_set1, if_pos rfl]
  · rw [u_set_far (by decide), u_set_far (by decide), u_set1, if_pos rfl, u_set_far (by decide)]
  · rw [u_set_far (by decide), u_set1, if_pos rfl, u_set_far (by decide), u_set_far (by decide)]
theorem xL_far {N : uM} {c : Nat} (h : c < 11 ∨ 14 < c) : (xLose N).1 c = N.1 c := by
  unfold xLose
  rw [u_row_far (by omega), u_row_far (by omega), u_row_far (by omega), u_set_far (by omega)]
theorem xL_at {N : uM} {e : Nat} (he : e < 11) : (xLose N).1 12 e = N.1 12 (e + 1) ∧ (xLose N).1 13 e = N.1 13 (e + 1) ∧ (xLose N).1 14 e = N.1 14 (e + 1) := by
  unfold xLose
  refine ⟨?_, ?_, ?_⟩
  · rw [u_row_far (by decide), u_row_far (by decide), u_row_at, pk_cpy_in (by omega) (by omega), u_set_far (by decide)]
    exact congrArg (N.1 12) (by omega)
  · rw [u_row_far (by decide), u_row_at, pk_cpy_in (by omega) (by omega), u_row_far (by decide), u_set_far (by decide)]
    exact congrArg (N.1 13) (by omega)
  · rw [u_row_at, pk_cpy_in (by omega) (by omega), u_row_far (by decide), u_row_far (by decide), u_set_far (by decide)]
    exact congrArg (N.1 14) (by omega)
/-- what is set before the book -/
def xPutD (X : uM) (p w : Nat) (came : Int32) : uM :=
  let A := uSet X 8 p came
  let B := uSet A 10 w (A.1 10 w + 1)
  uSet B 7 4 (B.1 7 4 + 1)
theorem xPut_eq (X : uM) (b p w : Nat) (ps came : Int32) : xPut X b p w ps came = xEnter (xPutD X p w came) b (nI p) ps came := rfl
theorem xD_far {X : uM} {p w c : Nat} {came : Int32} (h7 : c ≠ 7) (h8 : c ≠ 8) (h10 : c ≠ 10) : (xPutD X p w came).1 c = X.1 c := by
  unfold xPutD
  rw [u_set_far h7, u_set_far h10, u_set_far h8]
theorem xD_at {X : uM} {p w : Nat} {came : Int32} : (xPutD X p w came).1 7 4 = X.1 7 4 + 1 ∧ (xPutD X p w came).1 7 5 = X.1 7 5 ∧ (∀ r, (xPutD X p w came).1 8 r = if r = p then came else X.1 8 r) ∧ (∀ v, (xPutD X p w came).1 10 v = if v = w then X.1 10 w + 1 else X.1 10 v) := by
  unfold xPutD
  refine ⟨?_, ?_, fun r => ?_, fun v => ?_⟩
  · rw [u_set_at, u_set_far (by decide), u_set_far (by decide)]
  · rw [u_set_by (by decide), u_set_far (by decide), u_set_far (by decide)]
  · rw [u_set_far (by decide), u_set_far (by decide), u_set1, if_pos rfl]
  · rw [u_set_far (by decide), u_set1, if_pos rfl, u_set_far (by decide)]
/-! the reference's places -/
theorem mA_far {Y : uM} {b p w j : Nat} {ps came : Int32} (h4 : j ≠ 4) (h6 : j ≠ 6) (hp : j ≠ 7 + 10 * p + 2) (hw : j ≠ 67 + 2 * w + 1) (hb : j < 79 + 3 * b ∨ 79 + 3 * b + 2 < j) : (mAsk1 Y b p w ps came).1 252 j = Y.1 252 j := by
  unfold mAsk1
  rw [u_set_by h4, u_set_by hw, u_set_by hp, u_set_by h6, u_set_by (by omega), u_set_by (by omega), u_set_by (by omega)]
theorem mA_at {Y : uM} {b p w : Nat} {ps came : Int32} (hp : p < 6) (hw : w < 6) : (mAsk1 Y b p w ps came).1 252 4 = Y.1 252 4 + 1 ∧ (mAsk1 Y b p w ps came).1 252 6 = nI (b + 1) ∧ (mAsk1 Y b p w ps came).1 252 (7 + 10 * p + 2) = (if came = 1 then 1 else 2) ∧ (mAsk1 Y b p w ps came).1 252 (67 + 2 * w + 1) = Y.1 252 (67 + 2 * w + 1) + 1 ∧ (mAsk1 Y b p w ps came).1 252 (79 + 3 * b) = nI p ∧ (mAsk1 Y b p w ps came).1 252 (79 + 3 * b + 1) = ps ∧ (mAsk1 Y b p w ps came).1 252 (79 + 3 * b + 2) = came := by
  unfold mAsk1
  refine ⟨?_, ?_, ?_, ?_, ?_, ?_, ?_⟩
  · rw [u_set_at, u_set_by (by omega), u_set_by (by omega), u_set_by (by omega), u_set_by (by omega), u_set_by (by omega), u_set_by (by omega)]
  · rw [u_set_by (by omega), u_set_by (by omega), u_set_by (by omega), u_set_at]
  · rw [u_set_by (by omega), u_set_by (by omega), u_set_at]
  · rw [u_set_by (by omega), u_set_at, u_set_by (by omega), u_set_by (by omega), u_set_by (by omega), u_set_by (by omega), u_set_by (by omega)]
  · rw [u_set_by (by omega), u_set_by (by omega), u_set_by (by omega), u_set_by (by omega), u_set_by (by omega), u_set_by (by omega), u_set_at]
  · rw [u_set_by (by omega), u_set_by (by omega), u_set_by (by omega), u_set_by (by omega), u_set_by (by omega), u_set_at]
  · rw [u_set_by (by omega), u_set_by (by omega), u_set_by (by omega), u_set_by (by omega), u_set_at]
