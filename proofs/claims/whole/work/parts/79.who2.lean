theorem w_lk {M : uM} {n nw s i p k : Nat} (R : rFord M.1 1 (M.1 252) n nw) (S : rSheet M s) (hp : p < n) (hk : i + 2 * k + 1 < 24) (ht : mTold M nw (24 * s + i) k = true) : xLk M (M.2.1 (243 + 2 * s + 1)) p i k = mLk M p (24 * s + i) k ∧ bM (mLk M p (24 * s + i) k) := by
  have e1 : M.2.1 (243 + 2 * s + 1) (i + 2 * k) = M.2.1 261 (24 * s + i + 2 * k) := by
    rw [show 243 + 2 * s + 1 = 244 + 2 * s by omega, S.2.2.2 _ (by omega), show 24 * s + (i + 2 * k) = 24 * s + i + 2 * k by omega]
  have e2 : M.2.1 (243 + 2 * s + 1) (i + 2 * k + 1) = M.2.1 261 (24 * s + i + 2 * k + 1) := by
    rw [show 243 + 2 * s + 1 = 244 + 2 * s by omega, S.2.2.2 _ (by omega), show 24 * s + (i + 2 * k + 1) = 24 * s + i + 2 * k + 1 by omega]
  have hd := of_decide_eq_true ht
  have hw6 := R.1.2.1
  obtain ⟨hw, -⟩ := u_l2i hd.1 (by omega)
  unfold xLk mLk
  rw [e1, e2, r_passIn R hp hw, r_hour R]
  refine ⟨rfl, ?_⟩
  split
  · exact b_now R hp hw
  · exact b_comp (b_now R hp hw)
theorem s_who {M u : uM} {n nw : Nat} {x1 x2 x3 x4 x5 r : Int32} (A : rAll M) (R : rFord M.1 1 (M.1 252) n nw)
    (h : if (0 ≤ x1.toInt ∧ x1.toInt ≤ 3) ∧ (0 ≤ x2.toInt ∧ x2.toInt ≤ 3) ∧ (1 ≤ x4.toInt ∧ x4.toInt ≤ 8) ∧ (x5 = (-4) ∨ (0 ≤ x5.toInt ∧ x5.toInt < n)) then (if xWhyS M (243 + 2 * (tn x1)) x2 x3 (nI (2 * tn x4)) = 0 then (if uAll (xTold nw (M.2.1 ((243 + 2 * (tn x1)) + 1)) (tn x3)) true (tn x4) = true then ∃ LL, u = uRowL M 239 LL ∧ (∀ p, p < n → LL p = uLike (xLk M (M.2.1 ((243 + 2 * (tn x1)) + 1)) p (tn x3)) (tn x4)) ∧ r = (if x5 = (-4) then pb n (xBst LL n) else if xSumL LL n = 0 then 0 else (LL (tn x5) * 1000000 / xSumL LL n).toInt32) else r = -2 ∧ M = u) else M = u ∧ r = xWhyS M (243 + 2 * (tn x1)) x2 x3 (nI (2 * tn x4))) else r = -1 ∧ M = u) :
    r = mWho u n nw x1 x2 x3 x4 x5 ∧ rAll u := by
  by_cases c : (0 ≤ x1.toInt ∧ x1.toInt ≤ 3) ∧ (0 ≤ x2.toInt ∧ x2.toInt ≤ 3) ∧ (1 ≤ x4.toInt ∧ x4.toInt ≤ 8) ∧ (x5 = (-4) ∨ (0 ≤ x5.toInt ∧ x5.toInt < n))
  · rw [if_pos c] at h
    obtain ⟨hs, -⟩ := u_tn (x := x1) (n := 4) ⟨c.1.1, by omega⟩ (by omega)
    obtain ⟨h4, -⟩ := u_tn (x := x4) (n := 9) ⟨by omega, by omega⟩ (by omega)
    have S := A.2.2.2.1 (tn x1) hs
    rw [q_whyS S] at h
    by_cases w : mWhyS M (tn x1) x2 x3 (nI (2 * tn x4)) = 0
    · rw [if_pos w] at h
      have w0 : 0 ≤ mWhyS M (tn x1) x2 x3 (nI (2 * tn x4)) := by rw [w]; decide
      obtain ⟨o1, -, o3, -, -⟩ := mWhyS_ok w0
      obtain ⟨z, hz, ez⟩ := S.2.2.1
      rw [ez, nI_toInt (by omega), nI_toInt (by omega)] at o3
      have e3 : (tn x3 : Int) = x3.toInt := tn_int o1
      rw [uAll_congr (tn x4) (fun k hk => w_told R.1.2.1 S (i := tn x3) (k := k) (by omega))] at h
      by_cases t : uAll (mTold M nw (24 * tn x1 + tn x3)) true (tn x4) = true
      · rw [if_pos t] at h
        obtain ⟨LL, rfl, hL, hr⟩ := h
        have hf : ∀ p, p < n → LL p = (mLike M (24 * tn x1 + tn x3) (tn x4) p).toInt64 ∧ bM (mLike M (24 * tn x1 + tn x3) (tn x4) p) := by
          intro p hp
          have k1 : ∀ k, k < tn x4 → xLk M (M.2.1 (243 + 2 * tn x1 + 1)) p (tn x3) k = mLk M p (24 * tn x1 + tn x3) k ∧ bM (mLk M p (24 * tn x1 + tn x3) k) := fun k hk => w_lk R S hp (by omega) (uAll_t t k hk)
          obtain ⟨m, hm, em⟩ := b_uLike (f := mLk M p (24 * tn x1 + tn x3)) (tn x4) (fun k hk => (k1 k hk).2)
          have em2 : mLike M (24 * tn x1 + tn x3) (tn x4) p = nI m := by
            unfold mLike
            rw [em, lN_i]
          rw [hL p hp, uLike_congr (tn x4) (fun k hk => (k1 k hk).1), em, em2, nI_l (by omega)]
          exact ⟨rfl, m, hm, rfl⟩
        have hsum := w_sum (LL := LL) (f := mLike M (24 * tn x1 + tn x3) (tn x4)) n (fun p hp => (hf p hp).1)
        refine ⟨?_, s_scr A (fun _ _ _ _ _ => rfl) (fun k hk _ => show va_up M.2.1 239 LL k = M.2.1 k from va_up_n hk) rfl⟩
        rw [mWho_congr (M := M) (u := uRowL M 239 LL) rfl rfl rfl (show va_up M.2.1 239 LL 261 = M.2.1 261 from va_up_n (by decide)), hr]
        unfold mWho
        rw [if_pos c, if_pos w0, if_pos t, hsum]
        by_cases d : x5 = -4
        · rw [if_pos d, if_pos d]
          cases n with
          | zero => rfl
          | succ n =>
            rw [(w_best n hf).1]
            rfl
        · rw [if_neg d, if_neg d]
          have hx5 : 0 ≤ x5.toInt ∧ x5.toInt < n := c.2.2.2.resolve_left d
          have hn6 := R.1.1
          obtain ⟨h5, -⟩ := u_tn hx5 (by omega)
          rw [(hf _ h5).1]
      · rw [if_neg t] at h
        obtain ⟨rfl, rfl⟩ := h
        refine ⟨?_, A⟩
        unfold mWho
        rw [if_pos c, if_pos w0, if_neg t]
    · rw [if_neg w] at h
      obtain ⟨rfl, rfl⟩ := h
      refine ⟨?_, A⟩
      unfold mWho
      rw [if_pos c, if_neg (fun z => w (mWhyS_z z))]
  · rw [if_neg c] at h
    obtain ⟨rfl, rfl⟩ := h
    refine ⟨?_, A⟩
    unfold mWho
    rw [if_neg c]
