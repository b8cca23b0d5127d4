/-! what is remembered -/
theorem r_rem1 {N : uM} {U J : Nat → Int32} {k n nw : Nat} (O : rOwn N) (hn6 : n ≤ 6) (hnw6 : nw ≤ 6) (hk : k < 8) (P : ∀ i, i < k → rSnap N.1 (N.2.2 6 i) (fun a => U (115 * i + a)) n nw) (S : rSnap N.1 7 J n nw) : ∀ i, i < k + 1 → rSnap (xRem1 N k).1 (N.2.2 6 i) (fun a => va_cpy J U 0 (115 * k) 115 (115 * i + a)) n nw := by
  intro i hi
  obtain ⟨O1, O2⟩ := O.1 1 (Or.inl rfl)
  obtain ⟨qk, k1, k2, k3⟩ := O1 k hk
  obtain ⟨qi, i1, i2, i3⟩ := O1 i (by omega)
  have k3' : N.2.2 6 k = 7 + 8 * qk := k3
  have i3' : N.2.2 6 i = 7 + 8 * qi := i3
  by_cases h : i = k
  · subst h
    refine rSnap_congr (I := (xMomCp N (N.2.2 6 i) 7).1) (fun j hj => ?_) (rSnap_J (J := J) hn6 hnw6 (fun a ha => ?_) (rSnap_cp hn6 hnw6 (by omega) S))
    · unfold xRem1
      rw [u_set_far (by omega)]
    · rw [pk_cpy_in (by omega) (by omega)]
      congr 1; omega
  · have hne : ¬ N.2.2 6 i = N.2.2 6 k := fun z => h (O2 i k (by omega) hk z)
    refine rSnap_congr (I := N.1) (fun j hj => ?_) (rSnap_J hn6 hnw6 (fun a ha => ?_) (P i (by omega)))
    · unfold xRem1
      rw [u_set_far (by omega), xMomCp_far (by omega)]
    · exact pk_cpy_out (Or.inl (by omega))
/-- the oldest makes room -/
def shN (M : uM) : uM := uSet (uSetP (xRow M 7) 6 7 (M.2.2 6 0)) 1 10 7
theorem shN_6 (M : uM) {i : Nat} (hi : i < 8) : (shN M).2.2 6 i = M.2.2 6 ((i + 1) % 8) := by
  have e : (shN M).2.2 6 = va_up (va_cpy (M.2.2 6) (M.2.2 6) 1 0 7) 7 (M.2.2 6 0) := rfl
  rw [e]
  by_cases h : i = 7
  · subst h; rw [va_up_s]
  · rw [va_up_n h, pk_cpy_in (by omega) (by omega)]
    exact congrArg (M.2.2 6) (by omega)
theorem shN_o (M : uM) {f : Nat} (h : f ≠ 6) : (shN M).2.2 f = M.2.2 f := by
  have e : (shN M).2.2 = va_up (va_up M.2.2 6 (va_cpy (M.2.2 6) (M.2.2 6) 1 0 7)) 6 (va_up (va_up M.2.2 6 (va_cpy (M.2.2 6) (M.2.2 6) 1 0 7) 6) 7 (M.2.2 6 0)) := rfl
  rw [e, va_up_n h, va_up_n h]
theorem shN_1 (M : uM) {a : Nat} (h : a ≠ 1) : (shN M).1 a = M.1 a := u_set_far h
theorem shN_O {M : uM} (O : rOwn M) : rOwn (shN M) := by
  refine ⟨fun f hf => ?_, ?_, ?_, ?_⟩
  · obtain ⟨O1, O2⟩ := O.1 f hf
    by_cases h : f = 1
    · subst h
      refine ⟨fun i hi => ?_, fun i j hi hj e => ?_⟩
      · rw [shN_6 M hi]; exact O1 _ (Nat.mod_lt _ (by decide))
      · rw [shN_6 M hi, shN_6 M hj] at e
        have := O2 _ _ (Nat.mod_lt _ (by decide)) (Nat.mod_lt _ (by decide)) e
        omega
    · rw [shN_o M (show f + 5 ≠ 6 by omega)]
      exact ⟨O1, O2⟩
  · rw [shN_1 M (by decide)]; exact O.2.1
  · rw [shN_1 M (by decide)]; exact O.2.2.1
  · rw [shN_1 M (by decide)]; exact O.2.2.2
theorem rOwn_2 {M u : uM} (h2 : u.2.2 = M.2.2) (h157 : u.1 157 = M.1 157) (h163 : u.1 163 = M.1 163) (h167 : u.1 167 = M.1 167) (O : rOwn M) : rOwn u := by
  unfold rOwn
  rw [h2, h157, h163, h167]
  exact O
theorem rRest_far {M u : uM} (h21 : u.2.1 = M.2.1) (h84 : u.2.2 84 = M.2.2 84) (hf : ∀ c, 79 ≤ c → c ≠ 251 → c ≠ 252 → c ≠ 256 → u.1 c = M.1 c) (h251 : u.1 251 2 = M.1 251 2 ∧ u.1 251 11 = M.1 251 11 ∧ u.1 251 12 = M.1 251 12) (h0 : u.1 0 = M.1 0) (O' : rOwn u) (R : rRest M) : rRest u := by
  obtain ⟨a, ⟨ty, b1, b2, b3, b4⟩, c, O⟩ := R
  have e (k : Nat) (h : 79 ≤ k) (h1 : k ≠ 251) (h2 : k ≠ 252) (h3 : k ≠ 256) : u.1 k = M.1 k := hf k h h1 h2 h3
  refine ⟨?_, ⟨ty, b1, by rw [e 240 (by decide) (by decide) (by decide) (by decide)]; exact b2, by rw [h251.1]; exact b3, fun i hi => by rw [e 241 (by decide) (by decide) (by decide) (by decide), e 253 (by decide) (by decide) (by decide) (by decide)]; exact b4 i hi⟩, fun s hs => ?_, O'⟩
  · rw [h0, h251.2.2, h251.2.1, e 79 (by decide) (by decide) (by decide) (by decide)]
    rcases a with a | ⟨a1, a2, n, nw, k, F, P, hk⟩
    · exact Or.inl a
    · refine Or.inr ⟨a1, a2, n, nw, k, ?_, ?_, hk⟩
      · rw [e 258 (by decide) (by decide) (by decide) (by decide)]
        exact rFord_congr (fun j hj => e _ (by omega) (by omega) (by omega) (by omega)) F
      · rw [e 258 (by decide) (by decide) (by decide) (by decide)]
        exact rPast_congr (Or.inr (Or.inl rfl)) F.1.1 F.1.2.1 O (by rw [e 79 (by decide) (by decide) (by decide) (by decide)]) h84 (fun _ _ => rfl) (fun j h h' => e j (by omega) (by omega) (by omega) (by omega)) (e (79 + 4) (by decide) (by decide) (by decide) (by decide)) P
  · unfold rSheet
    rw [e (243 + 2 * s) (by omega) (by omega) (by omega) (by omega), e 259 (by decide) (by decide) (by decide) (by decide), e 260 (by decide) (by decide) (by decide) (by decide), h21]
    exact c s hs
/-- a step that remembers, and then changes the ford of now -/
theorem rAll_note {M u : uM} {n nw k : Nat} (F : rFord M.1 1 (M.1 252) n nw) (P : rPast M 1 (M.1 256) k n nw) (R : rRest M)
    (h2 : u.2 = (xRem M k).2) (hc : ∀ c, 15 ≤ c → c < 79 → u.1 c = (xRem M k).1 c) (h10 : u.1 1 10 = (xRem M k).1 1 10)
    (h256 : u.1 256 = (mNotes M k).1 256) (h8 : u.1 251 8 = (mNotes M k).1 251 8) (h251 : u.1 251 2 = M.1 251 2 ∧ u.1 251 11 = M.1 251 11 ∧ u.1 251 12 = M.1 251 12)
    (hf : ∀ c, 79 ≤ c → c ≠ 251 → c ≠ 252 → c ≠ 256 → u.1 c = M.1 c) (h0 : u.1 0 = M.1 0) (hs5 : ∀ w, w < nw → u.1 252 (67 + 2 * w) = M.1 252 (67 + 2 * w)) (F' : rFord u.1 1 (u.1 252) n nw) : rAll u := by
  have hn6 := F.1.1
  have hnw6 := F.1.2.1
  obtain ⟨P1, P2, P3⟩ := P
  have O := R.2.2.2
  have hf157 := hf 157 (by decide) (by decide) (by decide) (by decide)
  have hf163 := hf 163 (by decide) (by decide) (by decide) (by decide)
  have hf167 := hf 167 (by decide) (by decide) (by decide) (by decide)
  by_cases h : k < 8
  · have e : xRem M k = xRem1 M k := if_pos h
    rw [e] at h2 hc h10
    have O' : rOwn u := rOwn_2 (by rw [h2]; rfl) hf157 hf163 hf167 O
    have R' := rRest_far (by rw [h2]; rfl) (by rw [h2]; rfl) hf h251 h0 O' R
    have en : mNotes M k = uSet (uRow M 256 (va_cpy (M.1 252) (M.1 256) 0 (115 * k) 115)) 251 8 (nI (k + 1)) := if_neg (by omega)
    rw [en] at h256 h8
    have h256' : u.1 256 = va_cpy (M.1 252) (M.1 256) 0 (115 * k) 115 := h256
    refine ⟨⟨n, nw, k + 1, F', ⟨by omega, ?_, fun i hi => ?_⟩, ?_⟩, R'.1, R'.2.1, R'.2.2.1, R'.2.2.2⟩
    · rw [h10]; exact u_set_at
    · have key := r_rem1 O hn6 hnw6 h (fun i hi => (P3 i hi).1) F.2.2.2.2 i hi
      rw [h256', h2]
      obtain ⟨q, q1, q8, eq⟩ := (O.1 1 (Or.inl rfl)).1 i (by omega)
      have eq' : (xRem1 M k).2.2 (1 + 5) i = 1 + 6 + 8 * q := eq
      refine ⟨rSnap_congr (I := (xRem1 M k).1) (fun j hj => hc _ (by omega) (by omega)) key, fun w hw => ?_⟩
      have h5' : u.1 (1 + 4) w = M.1 252 (67 + 2 * w) := ((F'.2.2.2.1 w hw).1).trans (hs5 w hw)
      rw [h5']
      by_cases z : i = k
      · subst z
        rw [pk_cpy_in (by omega) (by omega)]
        exact congrArg (M.1 252) (by omega)
      · rw [pk_cpy_out (Or.inl (by omega)), (P3 i (by omega)).2 w hw]
        exact (F.2.2.2.1 w hw).1
    · rw [h8]; exact u_set_at
  · have hk8 : k = 8 := by omega
    subst hk8
    have e : xRem M 8 = xRem1 (shN M) 7 := if_neg h
    rw [e] at h2 hc h10
    have ON := shN_O O
    have O' : rOwn u := rOwn_2 (M := shN M) (by rw [h2]; rfl) (by rw [hf157, shN_1 M (by decide)]) (by rw [hf163, shN_1 M (by decide)]) (by rw [hf167, shN_1 M (by decide)]) ON
    have R' := rRest_far (by rw [h2]; rfl) (by rw [h2]; exact shN_o M (by decide)) hf h251 h0 O' R
    have en : mNotes M 8 = uSet (uRow (uSet (uRow M 256 (va_cpy (M.1 256) (M.1 256) 115 0 805)) 251 8 7) 256 (va_cpy (M.1 252) (va_cpy (M.1 256) (M.1 256) 115 0 805) 0 805 115)) 251 8 (nI 8) := rfl
    rw [en] at h256 h8
    have h256' : u.1 256 = va_cpy (M.1 252) (va_cpy (M.1 256) (M.1 256) 115 0 805) 0 (115 * 7) 115 := h256
    have PN : ∀ i, i < 7 → rSnap (shN M).1 ((shN M).2.2 6 i) (fun a => va_cpy (M.1 256) (M.1 256) 115 0 805 (115 * i + a)) n nw := by
      intro i hi
      rw [shN_6 M (by omega), show (i + 1) % 8 = i + 1 by omega]
      obtain ⟨q, q1, q8, eq⟩ := (O.1 1 (Or.inl rfl)).1 (i + 1) (by omega)
      have eq' : M.2.2 6 (i + 1) = 7 + 8 * q := eq
      refine rSnap_congr (I := M.1) (fun j hj => shN_1 M (by omega)) (rSnap_J hn6 hnw6 (fun a ha => ?_) (P3 (i + 1) (by omega)).1)
      rw [pk_cpy_in (by omega) (by omega)]
      exact congrArg (M.1 256) (by omega)
    have SN : rSnap (shN M).1 7 (M.1 252) n nw := rSnap_congr (I := M.1) (fun j hj => shN_1 M (by omega)) F.2.2.2.2
    refine ⟨⟨n, nw, 8, F', ⟨by omega, ?_, fun i hi => ?_⟩, ?_⟩, R'.1, R'.2.1, R'.2.2.1, R'.2.2.2⟩
    · rw [h10]; exact u_set_at
    · have key := r_rem1 ON hn6 hnw6 (by decide) PN SN i hi
      rw [h256', h2]
      obtain ⟨q, q1, q8, eq⟩ := (ON.1 1 (Or.inl rfl)).1 i (by omega)
      have eq' : (xRem1 (shN M) 7).2.2 (1 + 5) i = 1 + 6 + 8 * q := eq
      refine ⟨rSnap_congr (I := (xRem1 (shN M) 7).1) (fun j hj => hc _ (by omega) (by omega)) key, fun w hw => ?_⟩
      have h5' : u.1 (1 + 4) w = M.1 252 (67 + 2 * w) := ((F'.2.2.2.1 w hw).1).trans (hs5 w hw)
      rw [h5']
      by_cases z : i = 7
      · subst z
        rw [pk_cpy_in (by omega) (by omega)]
        exact congrArg (M.1 252) (by omega)
      · rw [pk_cpy_out (Or.inl (by omega)), pk_cpy_in (by omega) (by omega), show 115 + (115 * i + (67 + 2 * w) - 0) = 115 * (i + 1) + (67 + 2 * w) by omega, (P3 (i + 1) (by omega)).2 w hw]
        exact (F.2.2.2.1 w hw).1
    · rw [h8]; exact u_set_at
