/-- guard: ear or tires -/
theorem rFord_guard {I I' : Nat → Nat → Int32} {J J' : Nat → Int32} {n nw g : Nat} {x : Int32} (F : rFord I 1 J n nw) (hg : (g = 0 ∧ ∃ a, a ≤ 10 ∧ x = nI a) ∨ (g = 1 ∧ ∃ a, 1 ≤ a ∧ a ≤ 24 ∧ x = nI a)) (hI : ∀ j, j ≠ 1 → I' j = I j) (h1 : ∀ j, I' 1 j = if j = 6 + g then x else I 1 j) (hJ : ∀ a, J' a = if a = 2 + g then x else J a) : rFord I' 1 J' n nw := by
  have hg1 : g ≤ 1 := by rcases hg with z | z <;> omega
  have hn : ∀ a, a ≠ 2 + g → J' a = J a := fun a ha => by rw [hJ, if_neg ha]
  have i1 : ∀ j, j ≠ 6 + g → I' 1 j = I 1 j := fun j hj => by rw [h1, if_neg hj]
  obtain ⟨⟨a1, a2, a3, a4, a5, a6⟩, ⟨b1, ⟨e, b2, b3⟩, b4, t, b5, b6, b7⟩, c, d, s1, s2, ⟨h, s3, s4⟩, ⟨b, g1, g2, g3, g4⟩, s5, s6⟩ := F
  refine ⟨⟨a1, a2, (i1 0 (by omega)).trans a3, (hn 0 (by omega)).trans a4, (i1 4 (by omega)).trans a5, (hn 1 (by omega)).trans a6⟩, ?_, fun q hq => ?_, fun w hw => ?_, by rw [hI (1 + 6) (by decide)]; exact s1.trans (hn 4 (by omega)).symm, by rw [hI (1 + 6) (by decide)]; exact s2.trans (hn 5 (by omega)).symm, ⟨h, s3, (hn 4 (by omega)).trans s4⟩, ⟨b, g1, by rw [hI (1 + 6 + 4) (by decide)]; exact g2, (hn 6 (by omega)).trans g3, fun e he => ?_⟩, fun q hq => ?_, fun w hw => ?_⟩
  · rcases hg with ⟨rfl, a, h1', ea⟩ | ⟨rfl, a, h1', h2', ea⟩
    · rw [h1 6, if_pos rfl, hJ 2, if_pos rfl, i1 7 (by decide), hn 3 (by decide)]
      exact ⟨rfl, ⟨a, h1', ea⟩, b4, t, b5, b6, b7⟩
    · rw [h1 7, if_pos rfl, hJ 3, if_pos rfl, i1 6 (by decide), hn 2 (by decide)]
      exact ⟨b1, ⟨e, b2, b3⟩, rfl, a, h1', h2', ea⟩
  · obtain ⟨⟨x1, k1, x2, x3⟩, ⟨x4, k2, x5, x6⟩, x7⟩ := c q hq
    rw [hI (1 + 1) (by decide), hI (1 + 2) (by decide), hI (1 + 3) (by decide)]
    refine ⟨⟨x1.trans (hn _ (by omega)).symm, k1, x2, (hn _ (by omega)).trans x3⟩, ⟨x4.trans (hn _ (by omega)).symm, k2, x5, (hn _ (by omega)).trans x6⟩, fun z hz => ?_⟩
    obtain ⟨y1, v, y2, y3⟩ := x7 z hz
    exact ⟨y1.trans (hn _ (by omega)).symm, v, y2, (hn _ (by omega)).trans y3⟩
  · obtain ⟨x1, q, x2, x3, x4⟩ := d w hw
    rw [hI (1 + 4) (by decide)]
    exact ⟨x1.trans (hn _ (by omega)).symm, q, x2, x3, (hn _ (by omega)).trans x4⟩
  · obtain ⟨y1, y2, y3, p', y4, y5⟩ := g4 e he
    rw [hI (1 + 6 + 5) (by decide), hI (1 + 6 + 6) (by decide), hI (1 + 6 + 7) (by decide)]
    refine ⟨y1.trans (hn _ (by omega)).symm, y2.trans (hn _ (by omega)).symm, ?_, p', y4, (hn _ (by omega)).trans y5⟩
    rcases y3 with ⟨z1, z2⟩ | ⟨z1, z2⟩
    · exact Or.inl ⟨(hn _ (by omega)).trans z1, z2⟩
    · exact Or.inr ⟨(hn _ (by omega)).trans z1, z2⟩
  · obtain ⟨y1, y2, ⟨g', y3, y4⟩, g'', y5, y6⟩ := s5 q hq
    rw [hI (1 + 6 + 1) (by decide), hI (1 + 6 + 2) (by decide)]
    exact ⟨y1.trans (hn _ (by omega)).symm, y2.trans (hn _ (by omega)).symm, ⟨g', y3, (hn _ (by omega)).trans y4⟩, g'', y5, (hn _ (by omega)).trans y6⟩
  · obtain ⟨y1, v, y2, y3⟩ := s6 w hw
    rw [hI (1 + 6 + 3) (by decide)]
    exact ⟨y1.trans (hn _ (by omega)).symm, v, by rw [rCnt_congr n (fun p hp => hn (7 + 10 * p + 2) (by omega))]; exact y2, (hn _ (by omega)).trans y3⟩
theorem s_guard {M : uM} {n nw k g : Nat} {x : Int32} (F : rFord M.1 1 (M.1 252) n nw) (P : rPast M 1 (M.1 256) k n nw) (hk : M.1 251 8 = nI k) (R : rRest M) (hg : (g = 0 ∧ ∃ a, a ≤ 10 ∧ x = nI a) ∨ (g = 1 ∧ ∃ a, 1 ≤ a ∧ a ≤ 24 ∧ x = nI a)) : rAll (uSet (uSet M 1 (6 + g) x) 252 (2 + g) x) := by
  have hg1 : g ≤ 1 := by rcases hg with z | z <;> omega
  refine rAll_now F P hk R rfl (fun k h h' => by rw [u_set_far h', u_set_far (by omega)]) rfl (by rw [u_set_far (by decide), u_set1, if_pos rfl, if_neg (by omega)]) rfl ?_
  have F1 : rFord (uSet M 1 (6 + g) x).1 1 (fun a => if a = 2 + g then x else M.1 252 a) n nw :=
    rFord_guard F hg (fun j hj => u_set_far hj) (fun j => by rw [u_set1, if_pos rfl]) (fun a => rfl)
  have eJ : (uSet (uSet M 1 (6 + g) x) 252 (2 + g) x).1 252 = fun a => if a = 2 + g then x else M.1 252 a := by
    funext a
    rw [u_set1, if_pos rfl, u_set_far (by decide)]
  rw [eJ]
  exact rFord_congr (fun j hj => u_set_far (by omega)) F1
