/-! LINE, as the reference reckons it -/
def uSub (s a : Nat) : Prop := (nI s &&& (nI a ^^^ (-1))) = 0
theorem sF1 : ∀ (s : Fin 64) (p : Fin 6), ubit (nI s.val) p.val = true → 2 ^ p.val ≤ s.val ∧ nI s.val - ((1 : Int32) <<< (nI p.val &&& 31)) = nI (s.val - 2 ^ p.val) ∧ pop (s.val - 2 ^ p.val) + 1 = pop s.val := by decide +kernel
theorem sF2 : ∀ (s a : Fin 64) (p : Fin 6), (nI s.val &&& (nI a.val ^^^ (-1))) = 0 → ubit (nI s.val) p.val = true → ubit (nI a.val) p.val = true ∧ (nI (s.val - 2 ^ p.val) &&& (nI a.val ^^^ (-1))) = 0 := by decide +kernel
theorem sF3 : ∀ s : Fin 64, s.val ≠ 0 → ∃ p : Fin 6, ubit (nI s.val) p.val = true := by decide +kernel
theorem sF4 : ∀ s a : Fin 64, (nI s.val &&& (nI a.val ^^^ (-1))) = 0 → pop s.val ≤ pop a.val ∧ s.val ≤ a.val := by decide +kernel
theorem sF5 : ∀ a : Fin 64, (nI a.val &&& (nI a.val ^^^ (-1))) = 0 := by decide +kernel
theorem sF6 : ∀ (n : Fin 7) (a : Fin 64) (p : Fin 6), a.val < 2 ^ n.val → ubit (nI a.val) p.val = true → p.val < n.val := by decide +kernel
theorem sub1 {s p : Nat} (hs : s < 64) (hp : p < 6) (h : ubit (nI s) p = true) : 2 ^ p ≤ s ∧ nI s - ((1 : Int32) <<< (nI p &&& 31)) = nI (s - 2 ^ p) ∧ pop (s - 2 ^ p) + 1 = pop s := sF1 ⟨s, hs⟩ ⟨p, hp⟩ h
theorem sub2 {s a p : Nat} (hs : s < 64) (ha : a < 64) (hp : p < 6) (h : uSub s a) (hb : ubit (nI s) p = true) : ubit (nI a) p = true ∧ uSub (s - 2 ^ p) a := sF2 ⟨s, hs⟩ ⟨a, ha⟩ ⟨p, hp⟩ h hb
theorem sub3 {s : Nat} (hs : s < 64) (h : ¬ s = 0) : ∃ p, p < 6 ∧ ubit (nI s) p = true := by
  obtain ⟨p, hp⟩ := sF3 ⟨s, hs⟩ h
  exact ⟨p.val, p.isLt, hp⟩
theorem sub4 {s a : Nat} (hs : s < 64) (ha : a < 64) (h : uSub s a) : pop s ≤ pop a ∧ s ≤ a := sF4 ⟨s, hs⟩ ⟨a, ha⟩ h
theorem sub5 {a : Nat} (ha : a < 64) : uSub a a := sF5 ⟨a, ha⟩
theorem sub6 {n a p : Nat} (hn : n ≤ 6) (ha : a < 2 ^ n) (hp : p < 6) (h : ubit (nI a) p = true) : p < n := by
  have h64 : 2 ^ n ≤ 2 ^ 6 := Nat.pow_le_pow_right (by decide) hn
  exact sF6 ⟨n, by omega⟩ ⟨a, by omega⟩ ⟨p, hp⟩ ha h
def mLw (M : uM) (w p : Nat) (t : Int32) : Int32 := mWrong M p (mPass M p w (M.1 252 4 + t) (M.1 252 (67 + 2 * w + 1) + t) (M.1 252 (7 + 10 * p + 3)))
def mLin (M : uM) (w : Nat) (T : Nat → Int32) (set : Nat) (t ini : Int32) : Nat → Int32
  | 0 => ini
  | p + 1 => if ubit (nI set) p = true then (if mLin M w T set t ini p < 0 ∨ ¬ mLin M w T set t ini p ≤ mLw M w p t + T (set - 2 ^ p) then mLw M w p t + T (set - 2 ^ p) else mLin M w T set t ini p) else mLin M w T set t ini p
def mLt (al s : Nat) : Int32 := nI (pop al) - nI (pop s)
def mLi (s : Nat) : Int32 := if s = 0 then 0 else -1
def mTab (M : uM) (w n al : Nat) : Nat → Nat → Int32
  | 0 => M.1 257
  | s + 1 => upd (mTab M w n al s) s (mLin M w (mTab M w n al s) s (mLt al s) (mLi s) (if (nI s &&& (nI al ^^^ (-1))) = 0 then n else 0))
/-- later steps leave earlier places alone -/
theorem mTab_old {M : uM} {w n al s : Nat} : ∀ {k j : Nat}, j < s → mTab M w n al (s + k) j = mTab M w n al s j
  | 0, _, _ => rfl
  | k + 1, j, h => by
    show upd (mTab M w n al (s + k)) (s + k) _ j = _
    rw [u_upd, if_neg (by omega)]
    exact mTab_old h
theorem mTab_at {M : uM} {w n al s m : Nat} (h : s < m) : mTab M w n al m s = mLin M w (mTab M w n al s) s (mLt al s) (mLi s) (if (nI s &&& (nI al ^^^ (-1))) = 0 then n else 0) := by
  obtain ⟨k, rfl⟩ : ∃ k, m = s + 1 + k := ⟨m - (s + 1), by omega⟩
  rw [mTab_old (by omega)]
  show upd _ s _ s = _
  rw [u_upd, if_pos rfl]
theorem mTab_lt {M : uM} {w n al s m j : Nat} (h : j < s) (hm : s ≤ m) : mTab M w n al m j = mTab M w n al s j := by
  obtain ⟨k, rfl⟩ : ∃ k, m = s + k := ⟨m - s, by omega⟩
  exact mTab_old h
/-- the least is that of one of them -/
theorem mLin_ex {M : uM} {w set : Nat} {T : Nat → Int32} {t : Int32} : ∀ {n : Nat}, (∃ p, p < n ∧ ubit (nI set) p = true) → ∃ p, p < n ∧ ubit (nI set) p = true ∧ mLin M w T set t (-1) n = mLw M w p t + T (set - 2 ^ p)
  | 0, ⟨p, hp, _⟩ => absurd hp (Nat.not_lt_zero p)
  | n + 1, ⟨p, hp, hb⟩ => by
    by_cases he : ∃ p, p < n ∧ ubit (nI set) p = true
    · obtain ⟨q, h1, h2, h3⟩ := mLin_ex (M := M) (w := w) (T := T) (t := t) he
      by_cases hn : ubit (nI set) n = true
      · by_cases hc : mLin M w T set t (-1) n < 0 ∨ ¬ mLin M w T set t (-1) n ≤ mLw M w n t + T (set - 2 ^ n)
        · exact ⟨n, by omega, hn, by rw [mLin, if_pos hn, if_pos hc]⟩
        · exact ⟨q, by omega, h2, by rw [mLin, if_pos hn, if_neg hc]; exact h3⟩
      · exact ⟨q, by omega, h2, by rw [mLin, if_neg hn]; exact h3⟩
    · have hn : ubit (nI set) n = true := by
        rcases Nat.lt_or_ge p n with q | q
        · exact absurd ⟨p, q, hb⟩ he
        · have : p = n := by omega
          rw [← this]; exact hb
      have h0 : ∀ k, k ≤ n → mLin M w T set t (-1) k = -1 := by
        intro k
        induction k with
        | zero => intro _; rfl
        | succ k ih =>
          intro hk
          have hbk : ¬ ubit (nI set) k = true := fun z => he ⟨k, by omega, z⟩
          rw [mLin, if_neg hbk]
          exact ih (by omega)
      refine ⟨n, by omega, hn, ?_⟩
      rw [mLin, if_pos hn, if_pos (Or.inl (by rw [h0 n (Nat.le_refl n)]; decide))]
/-- who may come next in a best line -/
def mLg (M : uM) (w : Nat) (T : Nat → Int32) (lf : Nat) (t : Int32) (p : Nat) : Bool := ubit (nI lf) p && decide (mLw M w p t + T (lf - 2 ^ p) = T lf)
/-- the last of those found when one goes down -/
def dF (g : Nat → Bool) (n : Nat) : Nat → Int32
  | 0 => -4
  | j + 1 => if g (n - (j + 1)) = true then nI (n - (j + 1)) else dF g n j
theorem dF_ex {g : Nat → Bool} {n : Nat} : ∀ {j : Nat}, (∃ p, n - j ≤ p ∧ p < n ∧ g p = true) → j ≤ n → ∃ p, n - j ≤ p ∧ p < n ∧ g p = true ∧ (∀ q, n - j ≤ q → q < p → g q = false) ∧ dF g n j = nI p
  | 0, ⟨p, h1, h2, _⟩, _ => by omega
  | j + 1, ⟨p, h1, h2, h3⟩, hj => by
    by_cases hg : g (n - (j + 1)) = true
    · exact ⟨n - (j + 1), Nat.le_refl _, by omega, hg, fun q a b => by omega, by rw [dF, if_pos hg]⟩
    · have hp : n - j ≤ p := by
        rcases Nat.lt_or_ge p (n - j) with q | q
        · have : p = n - (j + 1) := by omega
          rw [this] at h3; exact absurd h3 hg
        · exact q
      obtain ⟨p', a1, a2, a3, a4, a5⟩ := dF_ex (g := g) (n := n) (j := j) ⟨p, hp, h2, h3⟩ (by omega)
      refine ⟨p', by omega, a2, a3, fun q b1 b2 => ?_, by rw [dF, if_neg hg]; exact a5⟩
      rcases Nat.lt_or_ge q (n - j) with c | c
      · have : q = n - (j + 1) := by omega
        rw [this]; exact Bool.eq_false_iff.mpr hg
      · exact a4 q c b2
/-- who is left, who was found, behind t turns -/
def mLft (M : uM) (w n : Nat) (T : Nat → Int32) (al : Nat) : Nat → Nat × Int32
  | 0 => (al, -4)
  | t + 1 => ((mLft M w n T al t).1 - 2 ^ tn (dF (mLg M w T (mLft M w n T al t).1 (nI t)) n n), dF (mLg M w T (mLft M w n T al t).1 (nI t)) n n)
def mLT (M : uM) (w n : Nat) : Nat → Int32 := mTab M w n (mThose M n 0) (mThose M n 0 + 1)
def mLine (M : uM) (n nw : Nat) (x k : Int32) : Int32 :=
  if (0 ≤ x.toInt ∧ x.toInt < nw) ∧ -1 ≤ k then
    (if 0 ≤ k then (if pop (mThose M n 0) ≤ tn k then -4 else (mLft M (tn x) n (mLT M (tn x) n) (mThose M n 0) (tn k + 1)).2) else mLT M (tn x) n (mThose M n 0))
  else -1
theorem mThose_lt {M : uM} {n : Nat} {x : Int32} (hn : n ≤ 6) : mThose M n x < 2 ^ n ∧ mThose M n x < 64 := by
  have h := nSet_lt (fun p => decide (mFate M p = x)) n
  have h64 : 2 ^ n ≤ 2 ^ 6 := Nat.pow_le_pow_right (by decide) hn
  exact ⟨h, Nat.lt_of_lt_of_le h h64⟩
/-- in each turn someone is found -/
theorem mLg_ex {M : uM} {w n al lf t : Nat} (hn : n ≤ 6) (hal : al < 2 ^ n) (hs : uSub lf al) (hlf : lf < 64) (h0 : ¬ lf = 0) (ht : pop lf + t = pop al) :
    ∃ p, p < n ∧ mLg M w (mTab M w n al (al + 1)) lf (nI t) p = true ∧ (∀ q, q < p → mLg M w (mTab M w n al (al + 1)) lf (nI t) q = false) ∧ dF (mLg M w (mTab M w n al (al + 1)) lf (nI t)) n n = nI p := by
  have h64 : 2 ^ n ≤ 2 ^ 6 := Nat.pow_le_pow_right (by decide) hn
  have hal6 : al < 64 := by omega
  have hle := sub4 hlf hal6 hs
  obtain ⟨p0, hp0, hb0⟩ := sub3 hlf h0
  have hp0n : p0 < n := sub6 hn hal hp0 (sub2 hlf hal6 hp0 hs hb0).1
  have e1 := mTab_at (M := M) (w := w) (n := n) (al := al) (s := lf) (m := al + 1) (by omega)
  rw [if_pos (show (nI lf &&& (nI al ^^^ (-1))) = 0 from hs), show mLi lf = -1 from if_neg h0] at e1
  have e2 : mLt al lf = nI t := by
    unfold mLt
    rw [pk_sub hle.1]
    congr 1; omega
  rw [e2] at e1
  obtain ⟨p, a1, a2, a3⟩ := mLin_ex (M := M) (w := w) (set := lf) (T := mTab M w n al lf) (t := nI t) ⟨p0, hp0n, hb0⟩
  have hg : mLg M w (mTab M w n al (al + 1)) lf (nI t) p = true := by
    have hp1 := sub1 hlf (by omega) a2
    have hp2 : 0 < 2 ^ p := Nat.pos_of_ne_zero (by simp)
    unfold mLg
    rw [a2, Bool.true_and]
    apply decide_eq_true
    rw [mTab_lt (s := lf) (by omega) (by omega), e1, a3]
  obtain ⟨q, b1, b2, b3, b4, b5⟩ := dF_ex (g := mLg M w (mTab M w n al (al + 1)) lf (nI t)) (n := n) (j := n) ⟨p, by omega, a1, hg⟩ (Nat.le_refl n)
  exact ⟨q, b2, b3, fun q' hq' => b4 q' (by omega) hq', b5⟩
theorem u_tn0 {x : Int32} (h : 0 ≤ x) : tn x < 2147483648 ∧ x = nI (tn x) := by
  have h1 := u_i32 x
  have h0 : (0 : Int32).toInt = 0 := rfl
  rw [Int32.le_iff_toInt_le, h0] at h
  have ht : tn x < 2 ^ 31 := by unfold tn; omega
  refine ⟨ht, ?_⟩
  apply Int32.toInt_inj.mp
  rw [nI_toInt ht]
  unfold tn
  omega
theorem u_pm : ∀ q : Fin 7, q.val ≠ 0 → nI q.val - 1 = nI (q.val - 1) ∧ ¬ nI q.val - 1 < 0 ∧ (nI q.val - 1) + Int32.ofInt (-1) = nI (q.val - 1) - 1 := by decide +kernel
theorem u_p1 {q : Nat} (h : q ≤ 6) (h0 : ¬ q = 0) : nI q - 1 = nI (q - 1) ∧ ¬ nI q - 1 < 0 ∧ (nI q - 1) + Int32.ofInt (-1) = nI (q - 1) - 1 := u_pm ⟨q, by omega⟩ h0
theorem tn_nI {n : Nat} (h : n < 2 ^ 31) : tn (nI n) = n := by
  unfold tn
  rw [nI_toInt h]; omega
