/-! steps that touch neither the fords nor the reference's now, past and image -/
/-- the fords and what the reference has of them are as they were -/
theorem rAll_side {M u : uM} (A : rAll M) (h22 : u.2.2 = M.2.2) (hc : ∀ k, k < 235 → u.1 k = M.1 k) (h252 : u.1 252 = M.1 252) (h256 : u.1 256 = M.1 256) (h258 : u.1 258 = M.1 258) (h251 : u.1 251 8 = M.1 251 8 ∧ u.1 251 11 = M.1 251 11 ∧ u.1 251 12 = M.1 251 12) (hT : ∃ ty, rTape u ty) (hS : ∀ s, s < 4 → rSheet u s) : rAll u := by
  obtain ⟨⟨n, nw, k, F, P, hk⟩, a, -, -, O⟩ := A
  have O' : rOwn u := by
    unfold rOwn
    rw [h22, hc 157 (by decide), hc 163 (by decide), hc 167 (by decide)]
    exact O
  refine ⟨⟨n, nw, k, ?_, ?_, h251.1.trans hk⟩, ?_, hT, hS, O'⟩
  · rw [h252]
    exact rFord_congr (fun j hj => hc _ (by omega)) F
  · rw [h256]
    exact rPast_congr (Or.inl rfl) F.1.1 F.1.2.1 O (by rw [hc 1 (by decide)]) (by rw [h22]) (fun _ _ => rfl) (fun j h h' => hc j (by omega)) (hc (1 + 4) (by decide)) P
  · rw [hc 0 (by decide), h251.2.2, h258, h251.2.1, hc 79 (by decide)]
    rcases a with a | ⟨a1, a2, n, nw, k, F, P, hk⟩
    · exact Or.inl a
    · exact Or.inr ⟨a1, a2, n, nw, k, rFord_congr (fun j hj => hc _ (by omega)) F, rPast_congr (Or.inr (Or.inl rfl)) F.1.1 F.1.2.1 O (by rw [hc 79 (by decide)]) (by rw [h22]) (fun _ _ => rfl) (fun j h h' => hc j (by omega)) (hc (79 + 4) (by decide)) P, hk⟩
theorem r_char : ∀ c : Fin 128, ((nI c.val).toUInt32 % 65536).toInt32 = nI c.val := by decide +kernel
theorem s_type {M : uM} (A : rAll M) {ty : Nat} (hT : rTape M ty) (hty : ty < 90) {x : Int32} (hx : 32 ≤ x.toInt ∧ x.toInt ≤ 126) :
    rAll (uSet (uSet (uSet (uSet M 241 ty (x.toUInt32 % 65536).toInt32) 240 1 (nI (ty + 1))) 253 ty x) 251 2 (nI (ty + 1))) := by
  obtain ⟨hc, ec⟩ := u_tn (x := x) (n := 127) ⟨by omega, by omega⟩ (by omega)
  have hc32 : (tn x : Int) = x.toInt := tn_int (by omega)
  have ex : (x.toUInt32 % 65536).toInt32 = x := by rw [ec]; exact r_char ⟨tn x, by omega⟩
  rw [ex]
  obtain ⟨h90, t1, t2, t3⟩ := hT
  refine rAll_side A rfl (fun k h => by rw [u_set_far (by omega), u_set_far (by omega), u_set_far (by omega), u_set_far (by omega)]) rfl rfl rfl ⟨rfl, rfl, rfl⟩ ⟨ty + 1, by omega, rfl, rfl, fun i hi => ?_⟩ (fun s hs => ?_)
  · have e1 : (uSet (uSet (uSet (uSet M 241 ty x) 240 1 (nI (ty + 1))) 253 ty x) 251 2 (nI (ty + 1))).1 241 i = if i = ty then x else M.1 241 i := by
      rw [u_set_far (by decide), u_set_far (by decide), u_set_far (by decide), u_set1, if_pos rfl]
    have e2 : (uSet (uSet (uSet (uSet M 241 ty x) 240 1 (nI (ty + 1))) 253 ty x) 251 2 (nI (ty + 1))).1 253 i = if i = ty then x else M.1 253 i := by
      rw [u_set_far (by decide), u_set1, if_pos rfl, u_set_far (by decide), u_set_far (by decide)]
    rw [e1, e2]
    by_cases h : i = ty
    · rw [if_pos h, if_pos h]
      exact ⟨rfl, tn x, by omega, by omega, ec⟩
    · rw [if_neg h, if_neg h]
      exact t3 i (by omega)
  · have R := A.2.2.2.1 s hs
    unfold rSheet
    rw [u_set_far (show 243 + 2 * s ≠ 251 by omega), u_set_far (show 243 + 2 * s ≠ 253 by omega), u_set_far (show 243 + 2 * s ≠ 240 by omega), u_set_far (show 243 + 2 * s ≠ 241 by omega)]
    exact R
