/-! CLASS AND REFERENCE, one memory: what stands in both. J: the reference's 115 numbers (252, or one of its copies). -/
/-- how many no more wait -/
def rCnt (J : Nat → Int32) : Nat → Nat
  | 0 => 0
  | n + 1 => rCnt J n + if J (7 + 10 * n + 2) = 0 then 0 else 1
theorem rCnt_le (J : Nat → Int32) : ∀ n, rCnt J n ≤ n
  | 0 => Nat.le_refl 0
  | n + 1 => by
    have h := rCnt_le J n
    show rCnt J n + (if J (7 + 10 * n + 2) = 0 then 0 else 1) ≤ n + 1
    split <;> omega
theorem rCnt_congr {J J' : Nat → Int32} : ∀ n, (∀ p, p < n → J' (7 + 10 * p + 2) = J (7 + 10 * p + 2)) → rCnt J' n = rCnt J n
  | 0, _ => rfl
  | n + 1, h => by
    show rCnt J' n + _ = rCnt J n + _
    rw [rCnt_congr n (fun p hp => h p (by omega)), h n (by omega)]
/-- a moment of the class at cell q, and J -/
def rSnap (I : Nat → Nat → Int32) (q : Nat) (J : Nat → Int32) (n nw : Nat) : Prop :=
  I q 4 = J 4 ∧ I q 5 = J 5 ∧ (∃ h, h ≤ 9999 ∧ J 4 = nI h)
  ∧ (∃ b, b ≤ 12 ∧ I (q + 4) 0 = nI b ∧ J 6 = nI b ∧ ∀ e, e < b → I (q + 5) e = J (79 + 3 * e) ∧ I (q + 6) e = J (79 + 3 * e + 1) ∧ ((J (79 + 3 * e + 2) = 1 ∧ I (q + 7) e = 1) ∨ (J (79 + 3 * e + 2) = 0 ∧ I (q + 7) e = 2)) ∧ ∃ p, p < n ∧ J (79 + 3 * e) = nI p)
  ∧ (∀ p, p < n → I (q + 1) p = J (7 + 10 * p + 2) ∧ I (q + 2) p = J (7 + 10 * p + 3) ∧ (∃ f, f ≤ 2 ∧ J (7 + 10 * p + 2) = nI f) ∧ ∃ g, g < 64 ∧ J (7 + 10 * p + 3) = nI g)
  ∧ ∀ w, w < nw → I (q + 3) w = J (67 + 2 * w + 1) ∧ ∃ v, v ≤ rCnt J n ∧ J (67 + 2 * w + 1) = nI v
/-- a ford of the class at cell f, and J -/
def rFord (I : Nat → Nat → Int32) (f : Nat) (J : Nat → Int32) (n nw : Nat) : Prop :=
  (n ≤ 6 ∧ nw ≤ 6 ∧ I f 0 = nI n ∧ J 0 = nI n ∧ I f 4 = nI nw ∧ J 1 = nI nw)
  ∧ (I f 6 = J 2 ∧ (∃ e, e ≤ 10 ∧ J 2 = nI e) ∧ I f 7 = J 3 ∧ ∃ t, 1 ≤ t ∧ t ≤ 24 ∧ J 3 = nI t)
  ∧ (∀ p, p < n → (I (f + 1) p = J (7 + 10 * p) ∧ ∃ k, k ≤ 4 ∧ J (7 + 10 * p) = nI k) ∧ (I (f + 2) p = J (7 + 10 * p + 1) ∧ ∃ k, k ≤ 1 ∧ J (7 + 10 * p + 1) = nI k) ∧ ∀ s, s < 6 → I (f + 3) (p * 6 + s) = J (7 + 10 * p + 4 + s) ∧ ∃ a, a ≤ 9 ∧ J (7 + 10 * p + 4 + s) = nI a)
  ∧ (∀ w, w < nw → I (f + 4) w = J (67 + 2 * w) ∧ ∃ s, 1 ≤ s ∧ s < 64 ∧ J (67 + 2 * w) = nI s)
  ∧ rSnap I (f + 6) J n nw
/-- the past of the ford at f, and the reference's copies U, k of them -/
def rPast (M : uM) (f : Nat) (U : Nat → Int32) (k n nw : Nat) : Prop := k ≤ 8 ∧ M.1 f 10 = nI k ∧ ∀ i, i < k → rSnap M.1 (M.2.2 (f + 5) i) (fun a => U (115 * i + a)) n nw ∧ ∀ w, w < nw → U (115 * i + (67 + 2 * w)) = M.1 (f + 4) w
def rTape (M : uM) (ty : Nat) : Prop := ty ≤ 90 ∧ M.1 240 1 = nI ty ∧ M.1 251 2 = nI ty ∧ ∀ i, i < ty → M.1 241 i = M.1 253 i ∧ ∃ c, 32 ≤ c ∧ c ≤ 126 ∧ M.1 253 i = nI c
def rSheet (M : uM) (s : Nat) : Prop := ((M.1 (243 + 2 * s) 0 = 0 ∧ M.1 259 s = -1) ∨ (M.1 (243 + 2 * s) 0 = 1 ∧ M.1 (243 + 2 * s) 1 = M.1 259 s ∧ ∃ l, l < 4 ∧ M.1 259 s = nI l)) ∧ M.1 (243 + 2 * s) 2 = M.1 260 s ∧ (∃ z, z ≤ 24 ∧ M.1 260 s = nI z) ∧ ∀ a, a < 24 → M.2.1 (244 + 2 * s) a = M.2.1 261 (24 * s + a)
/-- the class's own: pasts hold the ford's own moments, each once; what texts are read into is fresh but for them -/
def rOwn (M : uM) : Prop :=
  (∀ f, f = 1 ∨ f = 79 ∨ f = 157 → (∀ i, i < 8 → ∃ q, 1 ≤ q ∧ q ≤ 8 ∧ M.2.2 (f + 5) i = f + 6 + 8 * q) ∧ ∀ i j, i < 8 → j < 8 → M.2.2 (f + 5) i = M.2.2 (f + 5) j → i = j)
  ∧ M.1 157 10 = nI 0 ∧ M.1 163 4 = 0 ∧ M.1 167 0 = nI 0
/-- what holds between two calls -/
def rAll (M : uM) : Prop :=
  (∃ n nw k, rFord M.1 1 (M.1 252) n nw ∧ rPast M 1 (M.1 256) k n nw ∧ M.1 251 8 = nI k)
  ∧ ((M.1 0 2 = 0 ∧ M.1 251 12 = 0 ∧ M.1 79 10 = nI 0) ∨ (M.1 0 2 = 1 ∧ M.1 251 12 = 1 ∧ ∃ n nw k, rFord M.1 79 (M.1 258) n nw ∧ rPast M 79 (fun a => M.1 258 (115 + a)) k n nw ∧ M.1 251 11 = nI k))
  ∧ (∃ ty, rTape M ty) ∧ (∀ s, s < 4 → rSheet M s) ∧ rOwn M
theorem r_hears (e t h : Int32) : xHears e t h = uHears e t h := by
  unfold xHears uHears
  by_cases h1 : 0 < e - h / t
  · rw [if_pos h1, if_pos (Int32.le_of_lt h1)]
  · rw [if_neg h1]
    by_cases h2 : 0 ≤ e - h / t
    · rw [if_pos h2]
      exact Int32.le_antisymm h2 (Int32.not_lt.mp h1)
    · rw [if_neg h2]
theorem r_min (x : Int32) : xMin x = uTen x := by
  unfold xMin uTen
  by_cases h1 : x < 10
  · rw [if_pos h1, if_pos (Int32.le_of_lt h1)]
  · rw [if_neg h1]
    by_cases h2 : x ≤ 10
    · rw [if_pos h2]
      exact Int32.le_antisymm (Int32.not_lt.mp h1) h2
    · rw [if_neg h2]
theorem r_by1 : ∀ a : Fin 10, (if (0 : Int32) < nI a.val - 2 then nI a.val - 2 else 0) = if 2 ≤ nI a.val then nI a.val - 2 else 0 := by decide +kernel
theorem r_by2 : ∀ (a : Fin 10) (b : Bool), (if b = true then nI a.val + 3 else nI a.val) = uApt (nI a.val) b := by decide +kernel
theorem r_by4 : ∀ (a : Fin 10) (b : Bool), (if 5 < uApt (nI a.val) b then uApt (nI a.val) b else 5) = if 5 ≤ uApt (nI a.val) b then uApt (nI a.val) b else 5 := by decide +kernel
theorem r_skill {k a : Nat} (hk : k ≤ 4) (ha : a ≤ 9) (wn : Int32) (b : Bool) : (if nI k = 3 then 0 else xMin (xBy (nI k) (nI a) b + wn / 3)) = uSkill (nI k) (nI a) wn b := by
  have e1 := r_by1 ⟨a, by omega⟩
  have e2 := r_by2 ⟨a, by omega⟩ b
  have e4 := r_by4 ⟨a, by omega⟩ b
  rcases (show k = 0 ∨ k = 1 ∨ k = 2 ∨ k = 3 ∨ k = 4 by omega) with rfl | rfl | rfl | rfl | rfl
  · rw [if_neg (by decide), r_min]; rfl
  · rw [if_neg (by decide), r_min]
    show uTen ((if (0 : Int32) < nI a - 2 then nI a - 2 else 0) + wn / 3) = uTen ((if 2 ≤ nI a then nI a - 2 else 0) + wn / 3)
    rw [e1]
  · rw [if_neg (by decide), r_min]
    show uTen ((if b = true then nI a + 3 else nI a) + wn / 3) = uTen (uApt (nI a) b + wn / 3)
    rw [e2]
  · rw [if_pos (by decide)]; rfl
  · rw [if_neg (by decide), r_min]
    show uTen ((if 5 < (if b = true then nI a + 3 else nI a) then (if b = true then nI a + 3 else nI a) else 5) + wn / 3) = uTen ((if 5 ≤ uApt (nI a) b then uApt (nI a) b else 5) + wn / 3)
    rw [e2, e4]
theorem uPass_congr {s : Int32} {f g : Nat → Int32} {hd : Int32} : ∀ n, (∀ i, i < n → f i = g i) → uPass s f hd n = uPass s g hd n
  | 0, _ => rfl
  | n + 1, h => by
    unfold uPass
    rw [uPass_congr n (fun i hi => h i (by omega)), h n (by omega)]
theorem r_sk {M : uM} {n nw p s : Nat} (R : rFord M.1 1 (M.1 252) n nw) (hp : p < n) (hs : s < 6) (wn tg : Int32) : xSk M p wn tg s = mSk M p wn tg s := by
  obtain ⟨⟨e1, k, hk, ek⟩, -, hc⟩ := R.2.2.1 p hp
  obtain ⟨e3, a, ha, ea⟩ := hc s hs
  unfold xSk mSk
  rw [show M.1 2 p = nI k from e1.trans ek, show M.1 4 (p * 6 + s) = nI a from e3.trans ea, show M.1 252 (7 + 10 * p) = nI k from ek, show M.1 252 (7 + 10 * p + (4 + s)) = nI a from (by rw [← Nat.add_assoc]; exact ea)]
  exact r_skill hk ha wn _
theorem r_pass {M : uM} {n nw p w : Nat} (R : rFord M.1 1 (M.1 252) n nw) (hp : p < n) (hw : w < nw) (h wn tg : Int32) : xPassIf M p w (xHears (M.1 1 6) (M.1 1 7) h) tg wn = mPass M p w h wn tg := by
  unfold xPassIf mPass
  rw [r_hears, show M.1 1 6 = M.1 252 2 from R.2.1.1, show M.1 1 7 = M.1 252 3 from R.2.1.2.2.1, show M.1 5 w = M.1 252 (67 + 2 * w) from (R.2.2.2.1 w hw).1]
  exact uPass_congr 6 (fun i hi => r_sk R hp hi wn tg)
theorem r_passIn {M : uM} {n nw p w : Nat} (R : rFord M.1 1 (M.1 252) n nw) (hp : p < n) (hw : w < nw) (h : Int32) : xPassIn M p w h = mPassIn M p w h := by
  unfold xPassIn mPassIn
  rw [r_pass R hp hw, show M.1 9 p = M.1 252 (7 + 10 * p + 3) from (R.2.2.2.2.2.2.2.2.1 p hp).2.1, show M.1 10 w = M.1 252 (67 + 2 * w + 1) from (R.2.2.2.2.2.2.2.2.2 w hw).1]
theorem r_hour {M : uM} {n nw : Nat} (R : rFord M.1 1 (M.1 252) n nw) : M.1 7 4 = M.1 252 4 := R.2.2.2.2.1
theorem r_fate {M : uM} {n nw p : Nat} (R : rFord M.1 1 (M.1 252) n nw) (hp : p < n) : M.1 8 p = mFate M p := (R.2.2.2.2.2.2.2.2.1 p hp).1
theorem uSum_congr {f g : Nat → Int32} : ∀ n, (∀ i, i < n → f i = g i) → uSum f n = uSum g n
  | 0, _ => rfl
  | n + 1, h => by
    unfold uSum
    rw [uSum_congr n (fun i hi => h i (by omega)), h n (by omega)]
theorem nSet_congr {f g : Nat → Bool} : ∀ n, (∀ i, i < n → f i = g i) → nSet f n = nSet g n
  | 0, _ => rfl
  | n + 1, h => by
    unfold nSet
    rw [nSet_congr n (fun i hi => h i (by omega)), h n (by omega)]
theorem r_those {M : uM} {n nw : Nat} (R : rFord M.1 1 (M.1 252) n nw) (x : Int32) : xThose M n x = mThose M n x := by
  unfold xThose mThose
  exact nSet_congr n (fun p hp => by rw [r_fate R hp])
theorem r_wrong {M : uM} {n nw p : Nat} (R : rFord M.1 1 (M.1 252) n nw) (hp : p < n) (x : Int32) : xWrong M p x = mWrong M p x := by
  unfold xWrong mWrong
  rw [show M.1 3 p = M.1 252 (7 + 10 * p + 1) from (R.2.2.1 p hp).2.1.1]
theorem r_wrongs {M : uM} {n nw w : Nat} (R : rFord M.1 1 (M.1 252) n nw) (hw : w < nw) : xWrongs M n w = mWrongs M n w := by
  unfold xWrongs mWrongs
  exact uSum_congr n (fun p hp => by rw [r_fate R hp, r_wrong R hp, r_passIn R hp hw, r_hour R])
