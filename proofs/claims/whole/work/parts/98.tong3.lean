theorem t_rest {M u : uM} (R : rRest M) (h2 : u.2 = M.2) (h0 : u.1 0 = M.1 0) (hK : ∀ c, 79 ≤ c → c < 157 → u.1 c = M.1 c) (hS : ∀ s, s < 4 → u.1 (243 + 2 * s) = M.1 (243 + 2 * s)) (h258 : u.1 258 = M.1 258) (h259 : u.1 259 = M.1 259) (h260 : u.1 260 = M.1 260) (h251 : u.1 251 11 = M.1 251 11 ∧ u.1 251 12 = M.1 251 12)
    (h157 : u.1 157 10 = M.1 157 10) (h163 : u.1 163 = M.1 163) (h167 : u.1 167 = M.1 167) (hT1 : u.1 240 1 = 0) (hT2 : u.1 251 2 = 0) : rRest u := by
  obtain ⟨a, -, c, O⟩ := R
  have O' : rOwn u := by
    unfold rOwn
    rw [h2, h157, h163, h167]
    exact O
  refine ⟨?_, ⟨0, by decide, hT1, hT2, fun i hi => absurd hi (Nat.not_lt_zero i)⟩, fun s hs => rSheet_c (hS s hs) h259 h260 (by rw [h2]) (c s hs), O'⟩
  rw [h0, h251.1, h251.2, h258, hK 79 (by decide) (by decide)]
  rcases a with a | ⟨a1, a2, n, nw, k, F, P, hk⟩
  · exact Or.inl a
  · exact Or.inr ⟨a1, a2, n, nw, k, rFord_congr (fun j hj => hK _ (by omega) (by omega)) F, rPast_congr (Or.inr (Or.inl rfl)) F.1.1 F.1.2.1 O (by rw [hK 79 (by decide) (by decide)]) (by rw [h2]) (fun _ _ => rfl) (fun j h h' => hK j (by omega) (by omega)) (hK _ (by decide) (by decide)) P, hk⟩
theorem fAll_t {σ : Nat → Int32} (h : (fAll σ).1 = true) : 0 ≤ tIx 0 (σ 0) ∧ (fSps σ 2 0 6).1 = true ∧ (fWds σ ((fSps σ 2 0 6).2.1 + 1) 0 6).1 = true := by
  unfold fAll at h
  by_cases c0 : 0 ≤ tIx 0 (σ 0)
  · rw [if_pos c0] at h
    by_cases c1 : 0 ≤ tIx 1 (σ 1)
    · rw [if_pos c1] at h
      by_cases c2 : (fSps σ 2 0 6).1 = true ∧ 0 ≤ tIx 1 (σ (fSps σ 2 0 6).2.1)
      · rw [if_pos c2] at h
        by_cases c3 : (fWds σ ((fSps σ 2 0 6).2.1 + 1) 0 6).1 = true ∧ σ (fWds σ ((fSps σ 2 0 6).2.1 + 1) 0 6).2.1 = 0
        · exact ⟨c0, c2.1, c3.1⟩
        · rw [if_neg c3] at h; exact absurd (show false = true from h) (by decide)
      · rw [if_neg c2] at h; exact absurd (show false = true from h) (by decide)
    · rw [if_neg c1] at h; exact absurd h (by decide)
  · rw [if_neg c0] at h; exact absurd h (by decide)
theorem z_tongues {M u : uM} {n nw k ty : Nat} {r : Int32} (F : rFord M.1 1 (M.1 252) n nw) (P : rPast M 1 (M.1 256) k n nw) (hk : M.1 251 8 = nI k) (R : rRest M) (T : rTape M ty)
    (h : ∃ v, tFr M v ∧ if (fAll (tS (M.1 241) ty)).1 = true then tRead (tS (M.1 241) ty) v ∧ u = xSettle (uSet v 240 1 0) 0 ∧ r = u.1 1 0 else u = uSet v 240 1 0 ∧ r = (-20) - nI (tQ (M.1 241) ty (fAll (tS (M.1 241) ty)).2)) :
    u.1 251 = M.1 251 ∧ u.1 253 = M.1 253 ∧ ∀ r' u', (∃ v, mFr u v ∧ if (fAll (tS (u.1 253) ty)).1 = true then (∀ i, i < (fSps (tS (u.1 253) ty) 2 0 6).2.2 → mDat (tS (u.1 253) ty) v i (2 + 9 * i)) ∧ (∀ i, i < (fWds (tS (u.1 253) ty) ((fSps (tS (u.1 253) ty) 2 0 6).2.1 + 1) 0 6).2.2 → v.1 255 i = nI (fW (tS (u.1 253) ty) (tWs (tS (u.1 253) ty) ((fSps (tS (u.1 253) ty) 2 0 6).2.1 + 1) i)).2) ∧ u' = mTell (uSet v 251 2 0) (fSps (tS (u.1 253) ty) 2 0 6).2.2 (fWds (tS (u.1 253) ty) ((fSps (tS (u.1 253) ty) 2 0 6).2.1 + 1) 0 6).2.2 (tIx 0 (tS (u.1 253) ty (0))) ∧ r' = nI (fSps (tS (u.1 253) ty) 2 0 6).2.2 else u' = uSet v 251 2 0 ∧ r' = (-20) - nI (tQ (u.1 253) ty (fAll (tS (u.1 253) ty)).2)) → r = r' ∧ rAll u' := by
  obtain ⟨T1, T2, T3, T4⟩ := T
  have hL : ∀ i, i < ty → M.1 241 i = M.1 253 i := fun i hi => (T4 i hi).1
  rw [tS_congr hL, tQ_congr hL] at h
  obtain ⟨v, ⟨v1, v2, v3, v4⟩, h⟩ := h
  by_cases c : (fAll (tS (M.1 253) ty)).1 = true
  · rw [if_pos c] at h
    obtain ⟨hr, hu, hr1⟩ := h
    obtain ⟨p0, p4, p6, p7, p10, pr, pc, m4, m5, ms, m11, pf, p2⟩ := xSettle_at (V := uSet v 240 1 0)
    rw [← hu] at p0 p4 p6 p7 p10 pr pc m4 m5 ms m11 pf p2
    have V : ∀ c, c ≠ 240 → (uSet v 240 1 0).1 c = v.1 c := fun c hc => u_set_far hc
    rw [V 157 (by decide)] at p0 p4 p6 p10
    rw [V 1 (by decide), v1 1 (by decide) (by decide)] at p7
    rw [v2 10 (by decide) (by decide) (by decide)] at p10
    rw [V 163 (by decide), v1 163 (by decide) (by decide)] at m4
    rw [V 7 (by decide), v1 7 (by decide) (by decide)] at m5
    rw [V 167 (by decide), v1 167 (by decide) (by decide)] at m11
    rw [V 158 (by decide), V 159 (by decide), V 161 (by decide)] at pr
    rw [V 160 (by decide)] at pc
    rw [V 164 (by decide), V 165 (by decide), V 166 (by decide)] at ms
    have uf : ∀ c, c = 0 ∨ (14 < c ∧ c < 157) ∨ 166 < c → c ≠ 240 → u.1 c = M.1 c := fun c hc h' => by rw [pf c (by omega), V c h', v1 c h' (by omega)]
    have u240 : u.1 240 1 = 0 := by rw [pf 240 (by omega), u_set_at]
    have u157 : u.1 157 10 = M.1 157 10 := by rw [pf 157 (by omega), V 157 (by decide), v2 10 (by decide) (by decide) (by decide)]
    have u163 : u.1 163 = M.1 163 := by rw [pf 163 (by omega), V 163 (by decide), v1 163 (by decide) (by decide)]
    have u2 : u.2 = M.2 := p2.trans v4
    refine ⟨uf 251 (by omega) (by decide), uf 253 (by omega) (by decide), fun r' u' h' => ?_⟩
    rw [uf 253 (by omega) (by decide)] at h'
    obtain ⟨w, ⟨w1, w2, w3⟩, h'⟩ := h'
    rw [if_pos c] at h'
    obtain ⟨d1, d2, hu', hr'⟩ := h'
    obtain ⟨q1, q2, q3, q4, q5⟩ := hr
    obtain ⟨c1, c2, c3⟩ := fAll_t c
    obtain ⟨o1, o2, o3⟩ := fSps_ok 6 2 0 c2
    obtain ⟨o4, o5, o6⟩ := fWds_ok 6 _ 0 c3
    obtain ⟨e1, e2⟩ := tIx_s (by decide) c1
    have e1' : tn (tIx 0 (tS (M.1 253) ty 0)) < 10 := e1
    generalize tS (M.1 253) ty = σ at *
    generalize (fSps σ 2 0 6).2.2 = nS at *
    generalize (fSps σ 2 0 6).2.1 + 1 = mW at *
    generalize (fWds σ mW 0 6).2.2 = nW at *
    obtain ⟨j0, j1, j2, j3, j4, j5, j6, js, jw, jf, j8, j9, jj⟩ := mTell_J (v := uSet w 251 2 0) (nS := nS) (nW := nW) (e := tIx 0 (σ 0)) (by omega)
    rw [← hu'] at j0 j1 j2 j3 j4 j5 j6 js jw jf j8 j9 jj
    have W : ∀ c, c ≠ 251 → c ≠ 254 → c ≠ 255 → (uSet w 251 2 0).1 c = u.1 c := fun c h1 h2 h3 => by rw [u_set_far h1, w1 c h1 h2 h3]
    rw [W 252 (by decide) (by decide) (by decide), uf 252 (by omega) (by decide)] at j3 j5
    rw [u_set_far (by decide)] at js jw
    have uu : ∀ c, c ≠ 251 → c ≠ 252 → c ≠ 254 → c ≠ 255 → u'.1 c = u.1 c := fun c h1 h2 h3 h4 => by rw [jf c h1 h2, W c h1 h3 h4]
    have u251 : ∀ j, j ≠ 8 → j ≠ 2 → j ≠ 3 → j ≠ 4 → u'.1 251 j = M.1 251 j := fun j h1 h2 h3 h4 => by rw [j9 j h1, u_set_by h2, w2 j h3 h4, uf 251 (by omega) (by decide)]
    have u'2 : u'.2 = M.2 := by rw [jj]; exact w3.trans u2
    refine ⟨by rw [hr1, hr', p0, q1], ?_⟩
    have R' := t_rest (u := u') R u'2 (by rw [uu 0 (by decide) (by decide) (by decide) (by decide), uf 0 (by omega) (by decide)]) (fun c h h' => by rw [uu c (by omega) (by omega) (by omega) (by omega), uf c (by omega) (by omega)]) (fun s hs => by rw [uu _ (by omega) (by omega) (by omega) (by omega), uf _ (by omega) (by omega)]) (by rw [uu 258 (by decide) (by decide) (by decide) (by decide), uf 258 (by omega) (by decide)]) (by rw [uu 259 (by decide) (by decide) (by decide) (by decide), uf 259 (by omega) (by decide)]) (by rw [uu 260 (by decide) (by decide) (by decide) (by decide), uf 260 (by omega) (by decide)]) ⟨u251 11 (by decide) (by decide) (by decide) (by decide), u251 12 (by decide) (by decide) (by decide) (by decide)⟩ (by rw [uu 157 (by decide) (by decide) (by decide) (by decide), u157]) (by rw [uu 163 (by decide) (by decide) (by decide) (by decide), u163]) (by rw [uu 167 (by decide) (by decide) (by decide) (by decide), uf 167 (by omega) (by decide)]) (by rw [uu 240 (by decide) (by decide) (by decide) (by decide), u240]) (by rw [j9 2 (by decide), u_set_at])
    obtain ⟨O1, O2, O3, O4⟩ := R.2.2.2
    have U : ∀ c, c ≤ 14 → u'.1 c = u.1 c := fun c hc => uu c (by omega) (by omega) (by omega) (by omega)
    refine ⟨⟨nS, nW, 0, ?_, ⟨by decide, by rw [U 1 (by decide), p10, O2], fun i hi => absurd hi (Nat.not_lt_zero i)⟩, j8⟩, R'.1, R'.2.1, R'.2.2.1, R'.2.2.2⟩
    obtain ⟨-, ⟨-, -, f4, t, f5, f6, f7⟩, -, -, -, f8, -⟩ := F
    refine ⟨⟨by omega, by omega, by rw [U 1 (by decide), p0, q1], j0, by rw [U 1 (by decide), p4, q2], j1⟩, ⟨by rw [U 1 (by decide), p6, q3, j2], ⟨_, by omega, j2.trans e2⟩, by rw [U 1 (by decide), p7, j3]; exact f4, t, f5, f6, by rw [j3]; exact f7⟩, fun p hp => ?_, fun w' hw => ?_, ?_⟩
    · obtain ⟨⟨k1, k2, k3, k4⟩, k5⟩ := js p hp
      obtain ⟨⟨l1, l2, l3, l4⟩, l5⟩ := q4 p hp
      obtain ⟨s1, s2, s3⟩ := f_spk (o3 p (by omega))
      obtain ⟨n1, n2, n3⟩ := d1 p hp
      obtain ⟨g1, g2, g3⟩ := pr p (by omega)
      rw [U (1 + 1) (by decide), U (1 + 2) (by decide), U (1 + 3) (by decide)]
      refine ⟨⟨?_, ?_⟩, ⟨?_, ?_⟩, fun s hs => ⟨?_, ?_⟩⟩
      · rw [k1, n1]; exact g1.trans l1
      · rw [k1, n1]; exact s1
      · rw [k2, n2]; exact g2.trans l2
      · rw [k2, n2]; exact s2
      · rw [k5 s hs, n3 s hs]; exact (pc _ (by omega)).trans (l5 s hs)
      · rw [k5 s hs, n3 s hs]; exact s3 s hs
    · obtain ⟨k1, k2⟩ := jw w' hw
      obtain ⟨l1, l2⟩ := q5 w' hw
      obtain ⟨s1, s2⟩ := fW_ok (o6 w' (by omega))
      obtain ⟨g1, g2, g3⟩ := pr w' (by omega)
      rw [U (1 + 4) (by decide), k1, d2 w' hw]
      exact ⟨g3.trans l1, _, s1, s2, rfl⟩
    · refine ⟨?_, ?_, ⟨0, by decide, j4⟩, ⟨0, by decide, ?_, j6, fun e he => absurd he (Nat.not_lt_zero e)⟩, fun p hp => ?_, fun w' hw => ?_⟩
      · rw [U (1 + 6) (by decide), j4]; exact m4.trans O3
      · rw [U (1 + 6) (by decide), j5]; exact m5.trans f8
      · rw [U (1 + 6 + 4) (by decide)]; exact m11.trans O4
      · obtain ⟨⟨k1, k2, k3, k4⟩, k5⟩ := js p hp
        obtain ⟨⟨l1, l2, l3, l4⟩, l5⟩ := q4 p hp
        obtain ⟨g1, g2, g3⟩ := ms p (by omega)
        rw [U (1 + 6 + 1) (by decide), U (1 + 6 + 2) (by decide), k3, k4]
        exact ⟨g1.trans l3, g2.trans l4, ⟨0, by decide, rfl⟩, 0, by decide, rfl⟩
      · obtain ⟨k1, k2⟩ := jw w' hw
        obtain ⟨l1, l2⟩ := q5 w' hw
        obtain ⟨g1, g2, g3⟩ := ms w' (by omega)
        rw [U (1 + 6 + 3) (by decide), k2]
        exact ⟨g3.trans l2, 0, Nat.zero_le _, rfl⟩
  · rw [if_neg c] at h
    obtain ⟨hu, hr⟩ := h
    have uf : ∀ c, c < 157 ∨ 166 < c ∨ c = 163 → c ≠ 240 → u.1 c = M.1 c := fun c hc h' => by rw [hu, u_set_far h', v1 c h' (by omega)]
    have u240 : u.1 240 1 = 0 := by rw [hu, u_set_at]
    have u157 : u.1 157 10 = M.1 157 10 := by rw [hu, u_set_far (by decide), v2 10 (by decide) (by decide) (by decide)]
    have u2 : u.2 = M.2 := by rw [hu]; exact v4
    refine ⟨uf 251 (by omega) (by decide), uf 253 (by omega) (by decide), fun r' u' h' => ?_⟩
    rw [uf 253 (by omega) (by decide)] at h'
    obtain ⟨w, ⟨w1, w2, w3⟩, h'⟩ := h'
    rw [if_neg c] at h'
    obtain ⟨hu', hr'⟩ := h'
    refine ⟨hr.trans hr'.symm, ?_⟩
    have uu : ∀ c, c ≠ 251 → c ≠ 254 → c ≠ 255 → u'.1 c = u.1 c := fun c h1 h3 h4 => by rw [hu', u_set_far h1, w1 c h1 h3 h4]
    have u251 : ∀ j, j ≠ 2 → j ≠ 3 → j ≠ 4 → u'.1 251 j = M.1 251 j := fun j h2 h3 h4 => by rw [hu', u_set_by h2, w2 j h3 h4, uf 251 (by omega) (by decide)]
    have u'2 : u'.2 = M.2 := by rw [hu']; exact w3.trans u2
    have ua : ∀ c, c < 157 ∨ 166 < c ∨ c = 163 → c ≠ 240 → c ≠ 251 → c ≠ 254 → c ≠ 255 → u'.1 c = M.1 c := fun c hc h0 h1 h2 h3 => (uu c h1 h2 h3).trans (uf c hc h0)
    have R' := t_rest (u := u') R u'2 (ua 0 (by omega) (by decide) (by decide) (by decide) (by decide)) (fun c h h' => ua c (by omega) (by omega) (by omega) (by omega) (by omega)) (fun s hs => ua _ (by omega) (by omega) (by omega) (by omega) (by omega)) (ua 258 (by omega) (by decide) (by decide) (by decide) (by decide)) (ua 259 (by omega) (by decide) (by decide) (by decide) (by decide)) (ua 260 (by omega) (by decide) (by decide) (by decide) (by decide)) ⟨u251 11 (by decide) (by decide) (by decide), u251 12 (by decide) (by decide) (by decide)⟩ (by rw [uu 157 (by decide) (by decide) (by decide), u157]) (ua 163 (by omega) (by decide) (by decide) (by decide) (by decide)) (ua 167 (by omega) (by decide) (by decide) (by decide) (by decide)) (by rw [uu 240 (by decide) (by decide) (by decide), u240]) (by rw [hu', u_set_at])
    refine ⟨⟨n, nw, k, ?_, ?_, (u251 8 (by decide) (by decide) (by decide)).trans hk⟩, R'.1, R'.2.1, R'.2.2.1, R'.2.2.2⟩
    · rw [ua 252 (by omega) (by decide) (by decide) (by decide) (by decide)]
      exact rFord_congr (fun j hj => ua _ (by omega) (by omega) (by omega) (by omega) (by omega)) F
    · rw [ua 256 (by omega) (by decide) (by decide) (by decide) (by decide)]
      exact rPast_congr (Or.inl rfl) F.1.1 F.1.2.1 R.2.2.2 (by rw [ua 1 (by omega) (by decide) (by decide) (by decide) (by decide)]) (by rw [u'2]) (fun _ _ => rfl) (fun j h h' => ua j (by omega) (by omega) (by omega) (by omega) (by omega)) (ua _ (by omega) (by omega) (by omega) (by omega) (by omega)) P
