/-- seed: the next draw alone is another -/
theorem s_seed {M : uM} {n nw k : Nat} (F : rFord M.1 1 (M.1 252) n nw) (P : rPast M 1 (M.1 256) k n nw) (hk : M.1 251 8 = nI k) (R : rRest M) (x : Int32) : rAll (uSet (uSet M 7 5 x) 252 5 x) := by
  refine rAll_now F P hk R rfl (fun k h h' => by rw [u_set_far h', u_set_far (by omega)]) rfl rfl rfl ?_
  have hJ : ∀ a, a ≠ 5 → (uSet (uSet M 7 5 x) 252 5 x).1 252 a = M.1 252 a := fun a ha => by rw [u_set1, if_pos rfl, if_neg ha, u_set_far (by decide)]
  obtain ⟨⟨a1, a2, a3, a4, a5, a6⟩, ⟨b1, ⟨e, b2, b3⟩, b4, t, b5, b6, b7⟩, c, d, s1, s2, ⟨h, s3, s4⟩, ⟨b, g1, g2, g3, g4⟩, s5, s6⟩ := F
  refine ⟨⟨a1, a2, a3, (hJ 0 (by decide)).trans a4, a5, (hJ 1 (by decide)).trans a6⟩, ⟨b1.trans (hJ 2 (by decide)).symm, ⟨e, b2, (hJ 2 (by decide)).trans b3⟩, b4.trans (hJ 3 (by decide)).symm, t, b5, b6, (hJ 3 (by decide)).trans b7⟩, fun p hp => ?_, fun w hw => ?_, s1.trans (hJ 4 (by decide)).symm, rfl, ⟨h, s3, (hJ 4 (by decide)).trans s4⟩, ⟨b, g1, g2, (hJ 6 (by decide)).trans g3, fun e he => ?_⟩, fun p hp => ?_, fun w hw => ?_⟩
  · obtain ⟨⟨x1, k1, x2, x3⟩, ⟨x4, k2, x5, x6⟩, x7⟩ := c p hp
    refine ⟨⟨x1.trans (hJ _ (by omega)).symm, k1, x2, (hJ _ (by omega)).trans x3⟩, ⟨x4.trans (hJ _ (by omega)).symm, k2, x5, (hJ _ (by omega)).trans x6⟩, fun s hs => ?_⟩
    obtain ⟨y1, q, y2, y3⟩ := x7 s hs
    exact ⟨y1.trans (hJ _ (by omega)).symm, q, y2, (hJ _ (by omega)).trans y3⟩
  · obtain ⟨x1, q, x2, x3, x4⟩ := d w hw
    exact ⟨x1.trans (hJ _ (by omega)).symm, q, x2, x3, (hJ _ (by omega)).trans x4⟩
  · obtain ⟨y1, y2, y3, p, y4, y5⟩ := g4 e he
    refine ⟨y1.trans (hJ _ (by omega)).symm, y2.trans (hJ _ (by omega)).symm, ?_, p, y4, (hJ _ (by omega)).trans y5⟩
    rcases y3 with ⟨z1, z2⟩ | ⟨z1, z2⟩
    · exact Or.inl ⟨(hJ _ (by omega)).trans z1, z2⟩
    · exact Or.inr ⟨(hJ _ (by omega)).trans z1, z2⟩
  · obtain ⟨y1, y2, ⟨g, y3, y4⟩, g', y5, y6⟩ := s5 p hp
    exact ⟨y1.trans (hJ _ (by omega)).symm, y2.trans (hJ _ (by omega)).symm, ⟨g, y3, (hJ _ (by omega)).trans y4⟩, g', y5, (hJ _ (by omega)).trans y6⟩
  · obtain ⟨y1, v, y2, y3⟩ := s6 w hw
    exact ⟨y1.trans (hJ _ (by omega)).symm, v, by rw [rCnt_congr n (fun p hp => hJ (7 + 10 * p + 2) (by omega))]; exact y2, (hJ _ (by omega)).trans y3⟩
