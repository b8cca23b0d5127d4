/-! steps that remember -/
theorem step_now {M a u : uM} {n nw k : Nat} (F : rFord M.1 1 (M.1 252) n nw) (P : rPast M 1 (M.1 256) k n nw) (R : rRest M)
    (ha2 : a.2 = (xRem M k).2) (hac : ∀ c, 15 ≤ c ∨ c ≤ 6 → a.1 c = (xRem M k).1 c)
    (hu2 : u.2 = (mNotes a k).2) (huc : ∀ c, c ≠ 252 → u.1 c = (mNotes a k).1 c)
    (g0 : ∀ b, b < 4 → u.1 252 b = (mNotes a k).1 252 b) (gp : ∀ p j, p < 6 → j < 2 ∨ (4 ≤ j ∧ j < 10) → u.1 252 (7 + 10 * p + j) = (mNotes a k).1 252 (7 + 10 * p + j)) (gw : ∀ w, w < 6 → u.1 252 (67 + 2 * w) = (mNotes a k).1 252 (67 + 2 * w))
    (S : rSnap (xRem M k).1 7 ((mNotes a k).1 252) n nw → rSnap a.1 7 (u.1 252) n nw) : rAll u := by
  have O := R.2.2.2
  have h15 := rOwn_15 O
  have e252 : (mNotes a k).1 252 = M.1 252 := (mNotes_252 a k).trans ((hac 252 (by omega)).trans (xRem_far O P.1 (by omega)))
  have ua : ∀ c, c ≤ 14 → u.1 c = a.1 c := fun c hc => (huc c (by omega)).trans (mNotes_far (by omega) (by omega))
  have a1 : ∀ j, j ≠ 10 → u.1 1 j = M.1 1 j := fun j hj => by rw [ua 1 (by decide), hac 1 (by omega), xRem_1 h15 P.1 hj]
  have a2 : ∀ c, 2 ≤ c → c ≤ 6 → u.1 c = M.1 c := fun c h1 h2 => by rw [ua c (by omega), hac c (by omega), xRem_14 h15 P.1 (by omega) (by omega)]
  rw [e252] at g0 gp gw S
  have hw6 := F.1.2.1
  refine rAll_step F P R ha2 (fun c hc => hac c (by omega)) (by rw [hac 1 (by omega)]) hu2 huc (fun w hw => gw w (by omega)) ?_
  refine rFord_mom F ⟨a1 0 (by decide), a1 4 (by decide), a1 6 (by decide), a1 7 (by decide)⟩ ⟨a2 2 (by decide) (by decide), a2 3 (by decide) (by decide), a2 4 (by decide) (by decide), a2 5 (by decide) (by decide)⟩ g0 gp (fun w hw => gw w (by omega)) ?_
  refine rSnap_congr (I := a.1) (fun j hj => ua _ (by omega)) (S ?_)
  exact rSnap_congr (I := M.1) (fun j hj => xRem_14 h15 P.1 (by omega) (by omega)) F.2.2.2.2
theorem s_rest {M : uM} {n nw k : Nat} (F : rFord M.1 1 (M.1 252) n nw) (P : rPast M 1 (M.1 256) k n nw) (R : rRest M) : rAll (uSet (mNotes (uSet (xRem M k) 7 4 0) k) 252 4 0) :=
  step_now (a := uSet (xRem M k) 7 4 0) F P R rfl (fun c hc => u_set_far (by omega)) rfl (fun c hc => u_set_far hc) (fun b hb => u_set_by (by omega)) (fun p j hp hj => u_set_by (by omega)) (fun w hw => u_set_by (by omega)) (fun S => rSnap_rest F.1.1 F.1.2.1 S)
theorem s_teach {M : uM} {n nw k p s : Nat} (F : rFord M.1 1 (M.1 252) n nw) (P : rPast M 1 (M.1 256) k n nw) (R : rRest M) (hp : p < n) (hs : s < 6) (hh : ¬ M.1 252 4 = 9999) : rAll (mTeach (mNotes (xTeach (xRem M k) p s) k) p s) := by
  have hn6 := F.1.1
  have hac : ∀ c, 15 ≤ c ∨ c ≤ 6 → (xTeach (xRem M k) p s).1 c = (xRem M k).1 c := fun c hc => (u_set_far (by omega)).trans (u_set_far (by omega))
  have e252 : (mNotes (xTeach (xRem M k) p s) k).1 252 = M.1 252 := (mNotes_252 _ k).trans ((hac 252 (by omega)).trans (xRem_far R.2.2.2 P.1 (by omega)))
  exact step_now (a := xTeach (xRem M k) p s) F P R rfl hac rfl (fun c hc => (u_set_far hc).trans (u_set_far hc)) (fun b hb => (u_set_by (by omega)).trans (u_set_by (by omega))) (fun q j hq hj => (u_set_by (by omega)).trans (u_set_by (by omega))) (fun w hw => (u_set_by (by omega)).trans (u_set_by (by omega))) (fun S => rSnap_teach F.1.1 F.1.2.1 hp hs (by rw [e252]; exact hh) S)
theorem q_h9999 {M : uM} {n nw : Nat} (F : rFord M.1 1 (M.1 252) n nw) : M.1 7 4 < 9999 ↔ ¬ M.1 252 4 = 9999 := by
  obtain ⟨h, h1, h2⟩ := b_hour F
  rw [r_hour F, h2, show (9999 : Int32) = nI 9999 from rfl, nI_ltI (by omega) (by decide), nI_eq (by omega) (by decide)]
  omega
theorem q_rest {M : uM} {n nw k : Nat} (F : rFord M.1 1 (M.1 252) n nw) (P : rPast M 1 (M.1 256) k n nw) (O : rOwn M) : M.1 7 4 = (uSet (xRem M k) 7 4 0).1 252 4 := by
  rw [u_set_far (by decide), xRem_far O P.1 (by omega)]
  exact r_hour F
theorem q_teach {M : uM} {n nw k p s : Nat} (F : rFord M.1 1 (M.1 252) n nw) (P : rPast M 1 (M.1 256) k n nw) (O : rOwn M) (hp : p < n) : (xTeach (xRem M k) p s).1 9 p = (mTeach (mNotes (xTeach (xRem M k) p s) k) p s).1 252 (7 + 10 * p + 3) := by
  have hac : (xTeach (xRem M k) p s).1 252 = (xRem M k).1 252 := (u_set_far (by decide)).trans (u_set_far (by decide))
  have e252 : (mNotes (xTeach (xRem M k) p s) k).1 252 = M.1 252 := (mNotes_252 _ k).trans (hac.trans (xRem_far O P.1 (by omega)))
  have e1 : (mTeach (mNotes (xTeach (xRem M k) p s) k) p s).1 252 (7 + 10 * p + 3) = M.1 252 (7 + 10 * p + 3) ||| ((1 : Int32) <<< (nI s &&& 31)) := by
    show (uSet _ 252 4 _).1 252 (7 + 10 * p + 3) = _
    rw [u_set_by (by omega), u_set_at, e252]
  have e2 : (xTeach (xRem M k) p s).1 9 p = M.1 9 p ||| ((1 : Int32) <<< (nI s &&& 31)) := by
    show (uSet _ 7 4 _).1 9 p = _
    rw [u_set_far (by decide), u_set_at, xRem_14 (rOwn_15 O) P.1 (by decide) (by decide)]
  rw [e1, e2, show M.1 9 p = M.1 252 (7 + 10 * p + 3) from (F.2.2.2.2.2.2.2.2.1 p hp).2.1]
