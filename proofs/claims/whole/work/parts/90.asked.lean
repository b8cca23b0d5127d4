/-! said and ask -/
theorem mPassIn_draw {Y : uM} {p w : Nat} (hp : p < 6) (hw : w < 6) (h : Int32) : mPassIn (mDraw Y) p w h = mPassIn Y p w h := by
  have hJ : ∀ a, a ≠ 5 → (mDraw Y).1 252 a = Y.1 252 a := fun a ha => u_set_by ha
  unfold mPassIn mPass
  have e : ∀ (wn tg : Int32) s, mSk (mDraw Y) p wn tg s = mSk Y p wn tg s := by
    intro wn tg s
    unfold mSk
    rw [hJ _ (by omega), hJ _ (by omega)]
  rw [hJ _ (by omega), hJ _ (by omega), hJ _ (by omega), hJ _ (by omega), hJ _ (by omega)]
  exact uPass_congr 6 (fun i _ => e _ _ i)
theorem s_put {M a b' u : uM} {n nw k b p w : Nat} {c c' ps : Int32} (F : rFord M.1 1 (M.1 252) n nw) (P : rPast M 1 (M.1 256) k n nw) (R : rRest M) (hp : p < n) (hw : w < nw) (hf0 : M.1 252 (7 + 10 * p + 2) = 0) (hh : ¬ M.1 252 4 = 9999) (hb : M.1 252 6 = nI b) (hb12 : b ≤ 12) (hc : (c' = 1 ∧ c = 1) ∨ (c' = 0 ∧ c = 2))
    (ha : a = xPut (xRem M k) b p w ps c) (hu : u = mAsks (mNotes a k) b p w ps c') : rAll u := by
  have hn6 := F.1.1
  have hnw6 := F.1.2.1
  have hac : ∀ d, 15 ≤ d ∨ d ≤ 6 → a.1 d = (xRem M k).1 d := fun d hd => by rw [ha]; exact xPut_far (by omega)
  have e252 : (mNotes a k).1 252 = M.1 252 := (mNotes_252 _ k).trans ((hac 252 (by omega)).trans (xRem_far R.2.2.2 P.1 (by omega)))
  refine step_now (a := a) F P R (by rw [ha, xPut_2]) hac (by rw [hu, mAsks_2]) (fun d hd => by rw [hu, mAsks_c hd]) (fun d hd => by rw [hu, mAsks_st (by omega) (by omega) (by omega) (by omega) (by omega)]) (fun q j hq hj => by rw [hu, mAsks_st (by omega) (by omega) (by omega) (by omega) (by omega)]) (fun v hv => by rw [hu, mAsks_st (by omega) (by omega) (by omega) (by omega) (by omega)]) (fun S => ?_)
  have key := rSnap_put (ps := ps) (c := c) (c' := c') hn6 hnw6 (by rw [e252]; exact hh) hp hw (by rw [e252]; exact hf0) hc (by rw [e252]; exact hb) hb12 S
  rw [ha, hu, ha]
  rw [ha] at key
  exact key
theorem s_putD {M a u : uM} {n nw k b p w : Nat} {c c' ps : Int32} (F : rFord M.1 1 (M.1 252) n nw) (P : rPast M 1 (M.1 256) k n nw) (R : rRest M) (hp : p < n) (hw : w < nw) (hf0 : M.1 252 (7 + 10 * p + 2) = 0) (hh : ¬ M.1 252 4 = 9999) (hb : M.1 252 6 = nI b) (hb12 : b ≤ 12) (hc : (c' = 1 ∧ c = 1) ∨ (c' = 0 ∧ c = 2))
    (ha : a = xPut (xDraw (xRem M k)) b p w ps c) (hu : u = mAsks (mDraw (mNotes a k)) b p w ps c') : rAll u := by
  have hn6 := F.1.1
  have hnw6 := F.1.2.1
  have hac : ∀ d, 15 ≤ d ∨ d ≤ 6 → a.1 d = (xRem M k).1 d := fun d hd => by rw [ha]; exact (xPut_far (by omega)).trans (u_set_far (by omega))
  have e252 : (mNotes a k).1 252 = M.1 252 := (mNotes_252 _ k).trans ((hac 252 (by omega)).trans (xRem_far R.2.2.2 P.1 (by omega)))
  have hJ : ∀ d, d ≠ 5 → (mDraw (mNotes a k)).1 252 d = (mNotes a k).1 252 d := fun d hd => u_set_by hd
  refine step_now (a := a) F P R (by rw [ha, xPut_2]; rfl) hac (by rw [hu, mAsks_2]; rfl) (fun d hd => by rw [hu, mAsks_c hd]; exact u_set_far hd) (fun d hd => by rw [hu, mAsks_st (by omega) (by omega) (by omega) (by omega) (by omega), hJ _ (by omega)]) (fun q j hq hj => by rw [hu, mAsks_st (by omega) (by omega) (by omega) (by omega) (by omega), hJ _ (by omega)]) (fun v hv => by rw [hu, mAsks_st (by omega) (by omega) (by omega) (by omega) (by omega), hJ _ (by omega)]) (fun S => ?_)
  have key := rSnap_put (ps := ps) (c := c) (c' := c') hn6 hnw6 (by rw [hJ _ (by omega), e252]; exact hh) hp hw (by rw [hJ _ (by omega), e252]; exact hf0) hc (by rw [hJ _ (by omega), e252]; exact hb) hb12 (rSnap_draw hn6 hnw6 S)
  rw [ha, hu, ha]
  rw [ha] at key
  exact key
theorem mWhy_in {M : uM} {n nw : Nat} {x y : Int32} (h : mWhy M n nw x y = 0) : ((0 ≤ x.toInt ∧ x.toInt < n) ∧ (0 ≤ y.toInt ∧ y.toInt < nw)) ∧ mFate M (tn x) = 0 ∧ ¬ M.1 252 4 = 9999 := by
  unfold mWhy at h
  by_cases c : (0 ≤ x.toInt ∧ x.toInt < n) ∧ (0 ≤ y.toInt ∧ y.toInt < nw)
  · rw [if_pos c] at h
    by_cases d : mFate M (tn x) = 0
    · rw [if_pos d] at h
      by_cases e : M.1 252 4 = 9999
      · rw [if_pos e] at h; exact absurd h (by decide)
      · exact ⟨c, d, e⟩
    · rw [if_neg d] at h; exact absurd h (by decide)
  · rw [if_neg c] at h; exact absurd h (by decide)
theorem mWhy_z {M : uM} {n nw : Nat} {x y : Int32} : 0 ≤ mWhy M n nw x y ↔ mWhy M n nw x y = 0 := by
  refine ⟨fun h => ?_, fun h => by rw [h]; decide⟩
  unfold mWhy at h ⊢
  by_cases c : (0 ≤ x.toInt ∧ x.toInt < n) ∧ (0 ≤ y.toInt ∧ y.toInt < nw)
  · rw [if_pos c] at h ⊢
    by_cases d : mFate M (tn x) = 0
    · rw [if_pos d] at h ⊢
      by_cases e : M.1 252 4 = 9999
      · rw [if_pos e] at h; exact absurd h (by decide)
      · rw [if_neg e]
    · rw [if_neg d] at h; exact absurd h (by decide)
  · rw [if_neg c] at h; exact absurd h (by decide)
theorem mWhy_congr {M u : uM} (h252 : u.1 252 = M.1 252) : mWhy u = mWhy M := by
  funext n nw x y
  unfold mWhy mFate
  rw [h252]
theorem z_said {M u : uM} {n nw k b : Nat} {x1 x2 x3 r : Int32} (A : rAll M) (F : rFord M.1 1 (M.1 252) n nw) (P : rPast M 1 (M.1 256) k n nw) (R : rRest M) (hb : M.1 252 6 = nI b) (hb12 : b ≤ 12)
    (h : if 0 ≤ x3.toInt ∧ x3.toInt ≤ 1 then (if xWhy M n nw x1 x2 = 0 then (u = xPut (xRem M k) b (tn x1) (tn x2) (xPassIn M (tn x1) (tn x2) (M.1 7 4)) (if x3 = 1 then 1 else 2) ∧ r = xPassIn M (tn x1) (tn x2) (M.1 7 4)) else M = u ∧ r = xWhy M n nw x1 x2) else r = -1 ∧ M = u) :
    u.1 252 = M.1 252 ∧ u.1 251 = M.1 251 ∧ ∀ r' u', (if 0 ≤ x3.toInt ∧ x3.toInt ≤ 1 then (if ¬ 0 ≤ mWhy u n nw x1 x2 then u = u' ∧ r' = mWhy u n nw x1 x2 else r' = mPassIn (mNotes u k) (tn x1) (tn x2) ((mNotes u k).1 252 4) ∧ u' = mAsks (mNotes u k) b (tn x1) (tn x2) r' x3) else r' = -1 ∧ u = u') → r = r' ∧ rAll u' := by
  have hn6 := F.1.1
  have hnw6 := F.1.2.1
  by_cases c : 0 ≤ x3.toInt ∧ x3.toInt ≤ 1
  · rw [if_pos c, q_why F] at h
    by_cases d : mWhy M n nw x1 x2 = 0
    · rw [if_pos d] at h
      obtain ⟨hu, hr⟩ := h
      have e252 : u.1 252 = M.1 252 := by rw [hu, xPut_far (by omega), xRem_far R.2.2.2 P.1 (by omega)]
      have e251 : u.1 251 = M.1 251 := by rw [hu, xPut_far (by omega), xRem_far R.2.2.2 P.1 (by omega)]
      refine ⟨e252, e251, fun r' u' h' => ?_⟩
      rw [if_pos c, mWhy_congr e252, if_neg (fun z => z (by rw [d]; decide))] at h'
      obtain ⟨h1, h2⟩ := h'
      obtain ⟨⟨w1, w2⟩, w3, w4⟩ := mWhy_in d
      obtain ⟨p1, -⟩ := u_tn w1 (by omega)
      obtain ⟨p2, -⟩ := u_tn w2 (by omega)
      have en : (mNotes u k).1 252 = M.1 252 := (mNotes_252 u k).trans e252
      rw [mPassIn_congr en, en] at h1
      have er : r = r' := by rw [hr, h1, r_passIn F p1 p2, r_hour F]
      refine ⟨er, ?_⟩
      obtain ⟨t1, t2⟩ := u_tn (x := x3) (n := 2) ⟨c.1, by omega⟩ (by decide)
      refine s_put (b' := M) (c := if x3 = 1 then 1 else 2) (c' := x3) (ps := r') F P R p1 p2 w3 w4 hb hb12 ?_ (by rw [hu, ← hr, er]) h2
      rcases (show tn x3 = 0 ∨ tn x3 = 1 by omega) with z | z
      · rw [z] at t2; rw [t2]; exact Or.inr ⟨rfl, rfl⟩
      · rw [z] at t2; rw [t2]; exact Or.inl ⟨rfl, rfl⟩
    · rw [if_neg d] at h
      obtain ⟨rfl, hr⟩ := h
      refine ⟨rfl, rfl, fun r' u' h' => ?_⟩
      rw [if_pos c, if_pos (fun z => d (mWhy_z.mp z))] at h'
      obtain ⟨rfl, h2⟩ := h'
      exact ⟨hr.trans h2.symm, A⟩
  · rw [if_neg c] at h
    obtain ⟨hr, rfl⟩ := h
    refine ⟨rfl, rfl, fun r' u' h' => ?_⟩
    rw [if_neg c] at h'
    obtain ⟨h1, rfl⟩ := h'
    exact ⟨hr.trans h1.symm, A⟩
theorem z_ask {M u : uM} {n nw k b : Nat} {x1 x2 r : Int32} (A : rAll M) (F : rFord M.1 1 (M.1 252) n nw) (P : rPast M 1 (M.1 256) k n nw) (R : rRest M) (hb : M.1 252 6 = nI b) (hb12 : b ≤ 12)
    (h : if xWhy M n nw x1 x2 = 0 then (u = xPut (xDraw (xRem M k)) b (tn x1) (tn x2) (xPassIn M (tn x1) (tn x2) (M.1 7 4)) (xCame ((xDraw (xRem M k)).1 7 5) (xPassIn M (tn x1) (tn x2) (M.1 7 4))) ∧ r = if xCame ((xDraw (xRem M k)).1 7 5) (xPassIn M (tn x1) (tn x2) (M.1 7 4)) = 1 then 1 else 0) else M = u ∧ r = xWhy M n nw x1 x2) :
    u.1 252 = M.1 252 ∧ u.1 251 = M.1 251 ∧ ∀ r' u', (if ¬ 0 ≤ mWhy u n nw x1 x2 then u = u' ∧ r' = mWhy u n nw x1 x2 else r' = mCame (mDraw (mNotes u k)) (tn x1) (tn x2) ∧ u' = mAsks (mDraw (mNotes u k)) b (tn x1) (tn x2) (mPassIn (mDraw (mNotes u k)) (tn x1) (tn x2) ((mDraw (mNotes u k)).1 252 4)) r') → r = r' ∧ rAll u' := by
  have hn6 := F.1.1
  have hnw6 := F.1.2.1
  rw [q_why F] at h
  by_cases d : mWhy M n nw x1 x2 = 0
  · rw [if_pos d] at h
    obtain ⟨hu, hr⟩ := h
    have e252 : u.1 252 = M.1 252 := by rw [hu, xPut_far (by omega)]; exact (u_set_far (by decide)).trans (xRem_far R.2.2.2 P.1 (by omega))
    have e251 : u.1 251 = M.1 251 := by rw [hu, xPut_far (by omega)]; exact (u_set_far (by decide)).trans (xRem_far R.2.2.2 P.1 (by omega))
    refine ⟨e252, e251, fun r' u' h' => ?_⟩
    rw [mWhy_congr e252, if_neg (fun z => z (by rw [d]; decide))] at h'
    obtain ⟨h1, h2⟩ := h'
    obtain ⟨⟨w1, w2⟩, w3, w4⟩ := mWhy_in d
    obtain ⟨p1, -⟩ := u_tn w1 (by omega)
    obtain ⟨p2, -⟩ := u_tn w2 (by omega)
    have en : (mNotes u k).1 252 = M.1 252 := (mNotes_252 u k).trans e252
    have ed4 : (mDraw (mNotes u k)).1 252 4 = M.1 252 4 := (u_set_by (by decide)).trans (by rw [en])
    have ed5 : (mDraw (mNotes u k)).1 252 5 = (xDraw (xRem M k)).1 7 5 := by
      unfold mDraw xDraw
      rw [u_set_at, u_set_at, en, d_eq, xRem_14 (rOwn_15 R.2.2.2) P.1 (by decide) (by decide), show M.1 7 5 = M.1 252 5 from F.2.2.2.2.2.1]
    have eps : mPassIn (mDraw (mNotes u k)) (tn x1) (tn x2) ((mDraw (mNotes u k)).1 252 4) = xPassIn M (tn x1) (tn x2) (M.1 7 4) := by
      rw [ed4, mPassIn_draw (by omega) (by omega), mPassIn_congr en, r_passIn F p1 p2, r_hour F]
    rw [eps] at h2
    have e1 : r' = if xPassIn M (tn x1) (tn x2) (M.1 7 4) ≤ uLot ((xDraw (xRem M k)).1 7 5) then 0 else 1 := by
      rw [h1]
      unfold mCame
      rw [eps, ed5]
    have key : (r' = 1 ∧ xCame ((xDraw (xRem M k)).1 7 5) (xPassIn M (tn x1) (tn x2) (M.1 7 4)) = 1) ∨ (r' = 0 ∧ xCame ((xDraw (xRem M k)).1 7 5) (xPassIn M (tn x1) (tn x2) (M.1 7 4)) = 2) := by
      unfold xCame
      by_cases q : xPassIn M (tn x1) (tn x2) (M.1 7 4) ≤ uLot ((xDraw (xRem M k)).1 7 5)
      · rw [if_pos q] at e1 ⊢; exact Or.inr ⟨e1, rfl⟩
      · rw [if_neg q] at e1 ⊢; exact Or.inl ⟨e1, rfl⟩
    refine ⟨?_, s_putD F P R p1 p2 w3 w4 hb hb12 key hu h2⟩
    rw [hr]
    rcases key with ⟨z1, z2⟩ | ⟨z1, z2⟩
    · rw [z1, z2]; rfl
    · rw [z1, z2]; rfl
  · rw [if_neg d] at h
    obtain ⟨rfl, hr⟩ := h
    refine ⟨rfl, rfl, fun r' u' h' => ?_⟩
    rw [if_pos (fun z => d (mWhy_z.mp z))] at h'
    obtain ⟨rfl, h2⟩ := h'
    exact ⟨hr.trans h2.symm, A⟩
