theorem m0_ford : rFord m0.1 1 (m0.1 252) 0 0 := by
  refine ⟨⟨by decide, by decide, rfl, rfl, rfl, rfl⟩, ⟨rfl, ⟨9, by decide, rfl⟩, rfl, 4, by decide, by decide, rfl⟩, fun p hp => absurd hp (Nat.not_lt_zero p), fun w hw => absurd hw (Nat.not_lt_zero w), ?_⟩
  exact ⟨rfl, rfl, ⟨0, by decide, rfl⟩, ⟨0, by decide, rfl, rfl, fun e he => absurd he (Nat.not_lt_zero e)⟩, fun p hp => absurd hp (Nat.not_lt_zero p), fun w hw => absurd hw (Nat.not_lt_zero w)⟩
theorem m0_sheet : ∀ s, s < 4 → rSheet m0 s := by
  intro s hs
  rcases (show s = 0 ∨ s = 1 ∨ s = 2 ∨ s = 3 by omega) with rfl | rfl | rfl | rfl <;> exact ⟨Or.inl ⟨rfl, rfl⟩, rfl, ⟨0, by decide, rfl⟩, fun _ _ => rfl⟩
theorem m0_own : rOwn m0 := by
  refine ⟨fun f hf => ⟨fun i hi => ⟨i + 1, by omega, by omega, ?_⟩, fun i j hi hj e => ?_⟩, rfl, rfl, rfl⟩
  · show (f + 5 - 5) + (14 + 8 * (i % 8)) = _
    omega
  · have e : (f + 5 - 5) + (14 + 8 * (i % 8)) = (f + 5 - 5) + (14 + 8 * (j % 8)) := e
    omega
theorem m0_all : rAll m0 :=
  ⟨⟨0, 0, 0, m0_ford, ⟨by decide, rfl, fun i hi => absurd hi (Nat.not_lt_zero i)⟩, rfl⟩, Or.inl ⟨rfl, rfl, rfl⟩, ⟨0, by decide, rfl, rfl, fun i hi => absurd hi (Nat.not_lt_zero i)⟩, m0_sheet, m0_own⟩
/-- both objects' cells, by their numbers -/
def aAll (a q : Nat → Nat) : Nat → Nat := fun k => if k < 251 then a k else q (k - 251)
theorem aAll_a {a q : Nat → Nat} {k : Nat} (h : k < 251) : aAll a q k = a k := if_pos h
theorem aAll_q {a q : Nat → Nat} {j : Nat} : aAll a q (251 + j) = q j := by
  unfold aAll
  rw [if_neg (by omega), show 251 + j - 251 = j by omega]
theorem wMod_congr {c : Nat → ClassId} {a a' : Nat → Nat} (h : ∀ j, a j = a' j) : wMod c a = wMod c a' := by rw [show a = a' from funext h]
theorem wFore_congr {c : Nat → ClassId} {f : Nat} {a a' : Nat → Nat} (h : ∀ j, j < 5 → a j = a' j) : wFore c f a = wFore c f a' := by
  unfold wFore
  rw [h 0 (by decide), h 1 (by decide), h 2 (by decide), h 3 (by decide), h 4 (by decide)]
/-- what the two constructors leave is the world of the beginning -/
theorem k_world {G : va_G} {c : Nat → ClassId} {A : Nat → Prop} {a q : Nat → Nat} {s : State} {H : Heap} {locs : List Loc} (h : kH G A (wFW c a ++ wMod c q) s H locs) : kH G A (uw (G, aAll a q, c) m0) s H locs := by
  have h1 : kH G A ((kFw2 c (a 0) (a 242) (a 1) (a 79) (a 235) (a 240) (fun j => some (aAll a q (243 + 2 * j))) ++ ((((wFord c (fun j => a (1 + j)) ++ wFord c (fun j => a (79 + j))) ++ wFore c (a 1) (fun j => a (235 + j))) ++ ([(a 240, .inr (5, [.ref (a 241), .int 0, .int 0, .ref (a 157)])), (a 241, .inl (c 2, 90, .inl (fun _ => 0)))] ++ wFord c (fun j => a (157 + j)))) ++ kSh c (fun p j => a (243 + 2 * p + j)) 4)) ++ wMod c q) s H locs :=
    kH_refs (f' := fun j => some (aAll a q (243 + 2 * j))) h 1 rfl (fun j hj => by rw [aAll_a (by omega)])
  have h2 := h1.perm (permL _ _ _ _ _ _ _ _ _)
  have e : kAll c (aAll a q) = [(a 0, .inr (6, [.ref (a 1), .ref (a 79), .int 0, .ref (a 235), .ref (a 240), .ref (a 242)]))] ++ (wFord c (fun j => a (1 + j)) ++ (wFord c (fun j => a (79 + j)) ++ (wFord c (fun j => a (157 + j)) ++ (wFore c (a 1) (fun j => a (235 + j)) ++ ([(a 240, .inr (5, [.ref (a 241), .int 0, .int 0, .ref (a 157)])), (a 241, .inl (c 2, 90, .inl (fun _ => 0)))] ++ ([(a 242, .inl (c 4, 4, .inr (.inr (.inr (.inr (fun j => some (aAll a q (243 + 2 * j))))))))] ++ (kSh c (fun p j => a (243 + 2 * p + j)) 4 ++ wMod c q))))))) := by
    unfold kAll
    rw [aAll_a (k := 0) (by decide), aAll_a (k := 1) (by decide), aAll_a (k := 79) (by decide), aAll_a (k := 235) (by decide), aAll_a (k := 240) (by decide), aAll_a (k := 241) (by decide), aAll_a (k := 242) (by decide), aAll_a (k := 157) (by decide),
      wFord_congr (a := fun j => aAll a q (1 + j)) (a' := fun j => a (1 + j)) (fun j hj => aAll_a (by omega)), wFord_congr (a := fun j => aAll a q (79 + j)) (a' := fun j => a (79 + j)) (fun j hj => aAll_a (by omega)), wFord_congr (a := fun j => aAll a q (157 + j)) (a' := fun j => a (157 + j)) (fun j hj => aAll_a (by omega)), wFore_congr (a := fun j => aAll a q (235 + j)) (a' := fun j => a (235 + j)) (fun j hj => aAll_a (by omega)), kSh_congr (am := fun p j => aAll a q (243 + 2 * p + j)) (am' := fun p j => a (243 + 2 * p + j)) 4 (fun p j hp hj => aAll_a (by omega)), wMod_congr (a := fun j => aAll a q (251 + j)) (a' := q) (fun j => aAll_q)]
  rw [← kAll_uw, e]
  exact h2
theorem k_inj {G : va_G} {c : Nat → ClassId} {A : Nat → Prop} {ad : Nat → Nat} {M : uM} (h : va_D A (uw (G, ad, c) M)) : uI (G, ad, c) ∧ ∀ q, uA (G, ad, c) q → A q := by
  refine ⟨fun i j hi hj e => h.1 i j _ _ (uw_at _ M hi) (uw_at _ M hj) e, fun q hq => ?_⟩
  obtain ⟨k, hk, rfl⟩ := hq
  exact h.2 k _ (uw_at _ M hk)
