/-! steps that change the ford of now and the reference's now alone -/
/-- all but the ford of now -/
def rRest (M : uM) : Prop :=
  ((M.1 0 2 = 0 ∧ M.1 251 12 = 0 ∧ M.1 79 10 = nI 0) ∨ (M.1 0 2 = 1 ∧ M.1 251 12 = 1 ∧ ∃ n nw k, rFord M.1 79 (M.1 258) n nw ∧ rPast M 79 (fun a => M.1 258 (115 + a)) k n nw ∧ M.1 251 11 = nI k))
  ∧ (∃ ty, rTape M ty) ∧ (∀ s, s < 4 → rSheet M s) ∧ rOwn M
theorem rOwn_congr {M u : uM} (h2 : u.2 = M.2) (h157 : u.1 157 = M.1 157) (h163 : u.1 163 = M.1 163) (h167 : u.1 167 = M.1 167) (O : rOwn M) : rOwn u := by
  unfold rOwn
  rw [h2, h157, h163, h167]
  exact O
theorem rRest_congr {M u : uM} (h2 : u.2 = M.2) (hc : ∀ k, 15 ≤ k → k ≠ 252 → u.1 k = M.1 k) (h0 : u.1 0 = M.1 0) (R : rRest M) : rRest u := by
  obtain ⟨a, ⟨ty, b1, b2, b3, b4⟩, c, O⟩ := R
  have e (k : Nat) (h : 15 ≤ k) (h' : k ≠ 252) : u.1 k = M.1 k := hc k h h'
  refine ⟨?_, ⟨ty, b1, by rw [e 240 (by decide) (by decide)]; exact b2, by rw [e 251 (by decide) (by decide)]; exact b3, fun i hi => by rw [e 241 (by decide) (by decide), e 253 (by decide) (by decide)]; exact b4 i hi⟩, fun s hs => ?_, rOwn_congr h2 (e 157 (by decide) (by decide)) (e 163 (by decide) (by decide)) (e 167 (by decide) (by decide)) O⟩
  · rw [h0, e 251 (by decide) (by decide), e 79 (by decide) (by decide)]
    rcases a with a | ⟨a1, a2, n, nw, k, F, P, hk⟩
    · exact Or.inl a
    · refine Or.inr ⟨a1, a2, n, nw, k, ?_, ?_, hk⟩
      · rw [e 258 (by decide) (by decide)]
        exact rFord_congr (fun j hj => e _ (by omega) (by omega)) F
      · rw [e 258 (by decide) (by decide)]
        exact rPast_congr (Or.inr (Or.inl rfl)) F.1.1 F.1.2.1 O (by rw [e 79 (by decide) (by decide)]) (by rw [h2]) (fun _ _ => rfl) (fun j h h' => e j (by omega) (by omega)) (e (79 + 4) (by decide) (by decide)) P
  · unfold rSheet
    rw [e (243 + 2 * s) (by omega) (by omega), e 259 (by decide) (by decide), e 260 (by decide) (by decide), h2]
    exact c s hs
theorem rAll_now {M u : uM} {n nw k : Nat} (F : rFord M.1 1 (M.1 252) n nw) (P : rPast M 1 (M.1 256) k n nw) (hk : M.1 251 8 = nI k) (R : rRest M) (h2 : u.2 = M.2) (hc : ∀ k, 15 ≤ k → k ≠ 252 → u.1 k = M.1 k) (h0 : u.1 0 = M.1 0) (h10 : u.1 1 10 = M.1 1 10) (h5 : u.1 5 = M.1 5) (F' : rFord u.1 1 (u.1 252) n nw) : rAll u := by
  have R' := rRest_congr h2 hc h0 R
  refine ⟨⟨n, nw, k, F', ?_, by rw [hc 251 (by decide) (by decide)]; exact hk⟩, R'.1, R'.2.1, R'.2.2.1, R'.2.2.2⟩
  rw [hc 256 (by decide) (by decide)]
  exact rPast_congr (Or.inl rfl) F.1.1 F.1.2.1 R.2.2.2 h10 (by rw [h2]) (fun _ _ => rfl) (fun j h h' => hc j (by omega) (by omega)) h5 P
