/-! the ford of now, when its moment alone has changed -/
theorem rFord_mom {I I' : Nat → Nat → Int32} {f : Nat} {J J' : Nat → Int32} {n nw : Nat} (F : rFord I f J n nw) (h1 : I' f 0 = I f 0 ∧ I' f 4 = I f 4 ∧ I' f 6 = I f 6 ∧ I' f 7 = I f 7) (h2 : I' (f + 1) = I (f + 1) ∧ I' (f + 2) = I (f + 2) ∧ I' (f + 3) = I (f + 3) ∧ I' (f + 4) = I (f + 4))
    (g0 : ∀ a, a < 4 → J' a = J a) (gp : ∀ p j, p < 6 → j < 2 ∨ (4 ≤ j ∧ j < 10) → J' (7 + 10 * p + j) = J (7 + 10 * p + j)) (gw : ∀ w, w < nw → J' (67 + 2 * w) = J (67 + 2 * w)) (S : rSnap I' (f + 6) J' n nw) : rFord I' f J' n nw := by
  obtain ⟨⟨a1, a2, a3, a4, a5, a6⟩, ⟨b1, ⟨e, b2, b3⟩, b4, t, b5, b6, b7⟩, c, d, -⟩ := F
  obtain ⟨i0, i4, i6, i7⟩ := h1
  obtain ⟨j1, j2, j3, j4⟩ := h2
  have k0 := g0 0 (by decide)
  have k1 := g0 1 (by decide)
  have k2 := g0 2 (by decide)
  have k3 := g0 3 (by decide)
  refine ⟨⟨a1, a2, i0.trans a3, k0.trans a4, i4.trans a5, k1.trans a6⟩, ⟨(i6.trans b1).trans k2.symm, ⟨e, b2, k2.trans b3⟩, (i7.trans b4).trans k3.symm, t, b5, b6, k3.trans b7⟩, fun p hp => ?_, fun w hw => ?_, S⟩
  · obtain ⟨⟨x1, k1, x2, x3⟩, ⟨x4, k2, x5, x6⟩, x7⟩ := c p hp
    have q0 := gp p 0 (by omega) (by omega)
    have q1 := gp p 1 (by omega) (by omega)
    rw [j1, j2, j3]
    refine ⟨⟨x1.trans q0.symm, k1, x2, q0.trans x3⟩, ⟨x4.trans q1.symm, k2, x5, q1.trans x6⟩, fun s hs => ?_⟩
    obtain ⟨y1, q, y2, y3⟩ := x7 s hs
    have qs := gp p (4 + s) (by omega) (by omega)
    rw [← Nat.add_assoc] at qs
    exact ⟨y1.trans qs.symm, q, y2, qs.trans y3⟩
  · obtain ⟨x1, q, x2, x3, x4⟩ := d w hw
    have qw := gw w hw
    rw [j4]
    exact ⟨x1.trans qw.symm, q, x2, x3, qw.trans x4⟩
/-- a moment with another hour, draw and learned sounds, in both -/
theorem rSnap_mod {I I' : Nat → Nat → Int32} {q : Nat} {J J' : Nat → Int32} {n nw : Nat} (hn6 : n ≤ 6) (hnw6 : nw ≤ 6) (S : rSnap I q J n nw) (h4 : I' q 4 = J' 4 ∧ ∃ h, h ≤ 9999 ∧ J' 4 = nI h) (h5 : I' q 5 = J' 5)
    (e1 : I' (q + 1) = I (q + 1)) (e3 : I' (q + 3) = I (q + 3)) (eb : I' (q + 4) 0 = I (q + 4) 0 ∧ I' (q + 5) = I (q + 5) ∧ I' (q + 6) = I (q + 6) ∧ I' (q + 7) = I (q + 7))
    (ht : ∀ p, p < n → I' (q + 2) p = J' (7 + 10 * p + 3) ∧ ∃ g, g < 64 ∧ J' (7 + 10 * p + 3) = nI g)
    (g6 : J' 6 = J 6) (gp : ∀ p, p < n → J' (7 + 10 * p + 2) = J (7 + 10 * p + 2)) (gw : ∀ w, w < nw → J' (67 + 2 * w + 1) = J (67 + 2 * w + 1)) (gb : ∀ a, 79 ≤ a → J' a = J a) : rSnap I' q J' n nw := by
  obtain ⟨-, -, -, ⟨b, b1, b2, b3, b4⟩, c1, d1⟩ := S
  obtain ⟨f0, f5, f6, f7⟩ := eb
  refine ⟨h4.1, h5, h4.2, ⟨b, b1, f0.trans b2, g6.trans b3, fun e he => ?_⟩, fun p hp => ?_, fun w hw => ?_⟩
  · rw [f5, f6, f7, gb _ (by omega), gb _ (by omega), gb _ (by omega)]
    exact b4 e he
  · obtain ⟨y1, -, ⟨g, y3, y4⟩, -⟩ := c1 p hp
    rw [e1]
    have := gp p hp
    exact ⟨y1.trans this.symm, (ht p hp).1, ⟨g, y3, this.trans y4⟩, (ht p hp).2⟩
  · obtain ⟨y1, v, y2, y3⟩ := d1 w hw
    rw [e3]
    have := gw w hw
    exact ⟨y1.trans this.symm, v, Nat.le_trans y2 (Nat.le_of_eq (rCnt_congr n gp).symm), this.trans y3⟩
theorem d_eq (d : Int32) : (d * 1103515245 + 12345) &&& 2147483647 = ((d.toInt64 * 1103515245 + 12345) &&& 2147483647).toInt32 := by
  rw [Int64.toInt32_and, Int64.toInt32_add, Int64.toInt32_mul, Int32.toInt32_toInt64]
  rfl
theorem rSnap_draw {X Y : uM} {n nw : Nat} (hn6 : n ≤ 6) (hnw6 : nw ≤ 6) (S : rSnap X.1 7 (Y.1 252) n nw) : rSnap (xDraw X).1 7 ((mDraw Y).1 252) n nw := by
  have hJ : ∀ a, a ≠ 5 → (mDraw Y).1 252 a = Y.1 252 a := fun a ha => u_set_by ha
  have hI : ∀ c, c ≠ 7 → (xDraw X).1 c = X.1 c := fun c hc => u_set_far hc
  obtain ⟨s1, s2, s3, -, s5, -⟩ := id S
  refine rSnap_mod hn6 hnw6 S ⟨?_, ?_⟩ ?_ (hI _ (by decide)) (hI _ (by decide)) ⟨by rw [hI _ (by decide)], hI _ (by decide), hI _ (by decide), hI _ (by decide)⟩ (fun p hp => ?_) (hJ _ (by decide)) (fun p hp => hJ _ (by omega)) (fun w hw => hJ _ (by omega)) (fun a ha => hJ _ (by omega))
  · rw [hJ 4 (by decide)]
    exact (u_set_by (by decide)).trans s1
  · rw [hJ 4 (by decide)]; exact s3
  · show (xDraw X).1 7 5 = (mDraw Y).1 252 5
    unfold xDraw mDraw
    rw [u_set_at, u_set_at, s2, d_eq]
  · rw [hI _ (by decide), hJ _ (by omega)]
    exact ⟨(s5 p hp).2.1, (s5 p hp).2.2.2⟩
theorem rSnap_rest {X Y : uM} {n nw : Nat} (hn6 : n ≤ 6) (hnw6 : nw ≤ 6) (S : rSnap X.1 7 (Y.1 252) n nw) : rSnap (uSet X 7 4 0).1 7 ((uSet Y 252 4 0).1 252) n nw := by
  have hJ : ∀ a, a ≠ 4 → (uSet Y 252 4 0).1 252 a = Y.1 252 a := fun a ha => u_set_by ha
  have hI : ∀ c, c ≠ 7 → (uSet X 7 4 0).1 c = X.1 c := fun c hc => u_set_far hc
  obtain ⟨s1, s2, s3, -, s5, -⟩ := id S
  refine rSnap_mod hn6 hnw6 S ⟨?_, ?_⟩ ?_ (hI _ (by decide)) (hI _ (by decide)) ⟨by rw [hI _ (by decide)], hI _ (by decide), hI _ (by decide), hI _ (by decide)⟩ (fun p hp => ?_) (hJ _ (by decide)) (fun p hp => hJ _ (by omega)) (fun w hw => hJ _ (by omega)) (fun a ha => hJ _ (by omega))
  · rw [u_set_at, u_set_at]
  · exact ⟨0, by decide, u_set_at⟩
  · rw [hJ 5 (by decide)]
    exact (u_set_by (by decide)).trans s2
  · rw [hI _ (by decide), hJ _ (by omega)]
    exact ⟨(s5 p hp).2.1, (s5 p hp).2.2.2⟩
theorem t_bit : ∀ (g : Fin 64) (s : Fin 6), 0 ≤ (nI g.val ||| ((1 : Int32) <<< (nI s.val &&& 31))).toInt ∧ (nI g.val ||| ((1 : Int32) <<< (nI s.val &&& 31))).toInt < (64 : Nat) := by decide +kernel
theorem rSnap_teach {X Y : uM} {n nw p s : Nat} (hn6 : n ≤ 6) (hnw6 : nw ≤ 6) (hp : p < n) (hs : s < 6) (hh : ¬ Y.1 252 4 = 9999) (S : rSnap X.1 7 (Y.1 252) n nw) : rSnap (xTeach X p s).1 7 ((mTeach Y p s).1 252) n nw := by
  have hJ : ∀ a, a ≠ 4 → a ≠ 7 + 10 * p + 3 → (mTeach Y p s).1 252 a = Y.1 252 a := fun a ha hb => (u_set_by ha).trans (u_set_by hb)
  have hI : ∀ c, c ≠ 7 → c ≠ 9 → (xTeach X p s).1 c = X.1 c := fun c hc hd => (u_set_far hc).trans (u_set_far hd)
  have j4 : (mTeach Y p s).1 252 4 = Y.1 252 4 + 1 := by
    show (uSet _ 252 4 _).1 252 4 = _
    rw [u_set_at, u_set_by (by omega)]
  have j3 : (mTeach Y p s).1 252 (7 + 10 * p + 3) = Y.1 252 (7 + 10 * p + 3) ||| ((1 : Int32) <<< (nI s &&& 31)) := by
    show (uSet _ 252 4 _).1 252 (7 + 10 * p + 3) = _
    rw [u_set_by (by omega), u_set_at]
  have i4 : (xTeach X p s).1 7 4 = X.1 7 4 + 1 := by
    show (uSet _ 7 4 _).1 7 4 = _
    rw [u_set_at, u_set_far (by decide)]
  have i5 : (xTeach X p s).1 7 5 = X.1 7 5 := by
    show (uSet _ 7 4 _).1 7 5 = _
    rw [u_set_by (by decide), u_set_far (by decide)]
  have i9 : ∀ q, (xTeach X p s).1 9 q = if q = p then X.1 9 p ||| ((1 : Int32) <<< (nI s &&& 31)) else X.1 9 q := by
    intro q
    show (uSet _ 7 4 _).1 9 q = _
    rw [u_set_far (by decide), u_set1, if_pos rfl]
  obtain ⟨s1, s2, ⟨h, s3, s4⟩, -, s5, -⟩ := id S
  refine rSnap_mod hn6 hnw6 S ⟨?_, ?_⟩ ?_ (hI _ (by decide) (by decide)) (hI _ (by decide) (by decide)) ⟨by rw [hI _ (by decide) (by decide)], hI _ (by decide) (by decide), hI _ (by decide) (by decide), hI _ (by decide) (by decide)⟩ (fun q hq => ?_) (hJ _ (by decide) (by omega)) (fun p hp => hJ _ (by omega) (by omega)) (fun w hw => hJ _ (by omega) (by omega)) (fun a ha => hJ _ (by omega) (by omega))
  · rw [i4, j4, s1]
  · rw [j4, s4, nI_1]
    have : h ≠ 9999 := fun z => hh (by rw [s4, z]; rfl)
    exact ⟨h + 1, by omega, rfl⟩
  · rw [i5, hJ 5 (by decide) (by omega)]; exact s2
  · show (xTeach X p s).1 9 q = _ ∧ _
    rw [i9]
    obtain ⟨-, y2, -, g', y5, y6⟩ := s5 q hq
    have y2' : X.1 9 q = Y.1 252 (7 + 10 * q + 3) := y2
    by_cases e : q = p
    · subst e
      rw [if_pos rfl, j3, y2', y6]
      refine ⟨rfl, ?_⟩
      obtain ⟨j, k1, k2⟩ := u_nat (t_bit ⟨g', y5⟩ ⟨s, hs⟩) (by decide)
      exact ⟨j, k1, k2⟩
    · rw [if_neg e, hJ _ (by omega) (by omega)]
      exact ⟨y2, g', y5, y6⟩
