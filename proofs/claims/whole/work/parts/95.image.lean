/-! image and restore -/
theorem rTape_c {M u : uM} {ty : Nat} (h240 : u.1 240 = M.1 240) (h241 : u.1 241 = M.1 241) (h253 : u.1 253 = M.1 253) (h251 : u.1 251 2 = M.1 251 2) (T : rTape M ty) : rTape u ty := by
  unfold rTape
  rw [h240, h241, h253, h251]
  exact T
theorem rSheet_c {M u : uM} {s : Nat} (h1 : u.1 (243 + 2 * s) = M.1 (243 + 2 * s)) (h259 : u.1 259 = M.1 259) (h260 : u.1 260 = M.1 260) (h2 : u.2.1 = M.2.1) (T : rSheet M s) : rSheet u s := by
  unfold rSheet
  rw [h1, h259, h260, h2]
  exact T
theorem s_image {M : uM} {n nw k : Nat} (A : rAll M) (F : rFord M.1 1 (M.1 252) n nw) (P : rPast M 1 (M.1 256) k n nw) (hk : M.1 251 8 = nI k) : rAll (mImage (uSet (xFordCp M 79 1 k) 0 2 1)) := by
  obtain ⟨-, -, ⟨ty, hT⟩, hS, O⟩ := A
  obtain ⟨cF, cP, c2, cfar⟩ := cp_all (b := 79) (o := 1) (Or.inr (Or.inl rfl)) (Or.inl rfl) (by decide) O F P
  generalize xFordCp M 79 1 k = a at *
  have uc : ∀ c, c ≠ 0 → c ≠ 251 → c ≠ 258 → (mImage (uSet a 0 2 1)).1 c = a.1 c := fun c h0 h1 h2 => by
    unfold mImage
    rw [u_set_far h1, u_set_far h1, u_row_far h2, u_row_far h2, u_set_far h0]
  have ufar : ∀ c, c < 79 ∨ 157 ≤ c → c ≠ 0 → c ≠ 251 → c ≠ 258 → (mImage (uSet a 0 2 1)).1 c = M.1 c := fun c h h0 h1 h2 => (uc c h0 h1 h2).trans (cfar c h)
  have u0 : (mImage (uSet a 0 2 1)).1 0 2 = 1 := by
    unfold mImage
    rw [u_set_far (by decide), u_set_far (by decide), u_row_far (by decide), u_row_far (by decide), u_set_at]
  have u12 : (mImage (uSet a 0 2 1)).1 251 12 = 1 := u_set_at
  have u11 : (mImage (uSet a 0 2 1)).1 251 11 = nI k := by
    unfold mImage
    rw [u_set_by (by decide), u_set_at, u_row_far (by decide), u_row_far (by decide), u_set_far (by decide), cfar 251 (by omega)]
    exact hk
  have uj : ∀ j, j ≠ 11 → j ≠ 12 → (mImage (uSet a 0 2 1)).1 251 j = M.1 251 j := fun j h1 h2 => by
    unfold mImage
    rw [u_set_by h2, u_set_by h1, u_row_far (by decide), u_row_far (by decide), u_set_far (by decide), cfar 251 (by omega)]
  have j1 : ∀ x, x < 115 → (mImage (uSet a 0 2 1)).1 258 x = M.1 252 x := fun x hx => by
    unfold mImage
    rw [u_set_far (by decide), u_set_far (by decide), u_row_at, pk_cpy_out (Or.inl (by omega)), u_row_at, cp0 hx, u_set_far (by decide), cfar 252 (by omega)]
  have j2 : ∀ x, x < 920 → (mImage (uSet a 0 2 1)).1 258 (115 + x) = M.1 256 x := fun x hx => by
    unfold mImage
    rw [u_set_far (by decide), u_set_far (by decide), u_row_at, pk_cpy_in (by omega) (by omega), u_row_far (by decide), u_set_far (by decide), cfar 256 (by omega)]
    exact congrArg (M.1 256) (by omega)
  have u2 : (mImage (uSet a 0 2 1)).2 = M.2 := c2
  have O2 : rOwn a := rOwn_2 (by rw [c2]) (cfar 157 (by omega)) (cfar 163 (by omega)) (cfar 167 (by omega)) O
  generalize mImage (uSet a 0 2 1) = u at *
  refine ⟨⟨n, nw, k, ?_, ?_, (uj 8 (by decide) (by decide)).trans hk⟩, Or.inr ⟨u0, u12, n, nw, k, ?_, ?_, u11⟩, ⟨ty, ?_⟩, fun s hs => ?_, ?_⟩
  · rw [ufar 252 (by omega) (by decide) (by decide) (by decide)]
    exact rFord_congr (fun j hj => ufar _ (by omega) (by omega) (by omega) (by omega)) F
  · rw [ufar 256 (by omega) (by decide) (by decide) (by decide)]
    exact rPast_congr (Or.inl rfl) F.1.1 F.1.2.1 O (by rw [ufar 1 (by omega) (by decide) (by decide) (by decide)]) (by rw [u2]) (fun _ _ => rfl) (fun j h h' => ufar j (by omega) (by omega) (by omega) (by omega)) (ufar _ (by omega) (by omega) (by omega) (by omega)) P
  · exact rFord_J j1 (rFord_congr (I := a.1) (fun j hj => uc _ (by omega) (by omega) (by omega)) cF)
  · exact rPast_congr (Or.inr (Or.inl rfl)) F.1.1 F.1.2.1 O2 (by rw [uc 79 (by omega) (by omega) (by omega)]) (by rw [u2, c2]) (fun x hx => j2 x hx) (fun j h h' => uc j (by omega) (by omega) (by omega)) (uc _ (by omega) (by omega) (by omega)) cP
  · exact rTape_c (ufar 240 (by omega) (by omega) (by omega) (by omega)) (ufar 241 (by omega) (by omega) (by omega) (by omega)) (ufar 253 (by omega) (by omega) (by omega) (by omega)) (uj 2 (by decide) (by decide)) hT
  · exact rSheet_c (ufar _ (by omega) (by omega) (by omega) (by omega)) (ufar 259 (by omega) (by omega) (by omega) (by omega)) (ufar 260 (by omega) (by omega) (by omega) (by omega)) (by rw [u2]) (hS s hs)
  · exact rOwn_2 (by rw [u2]) (ufar 157 (by omega) (by omega) (by omega) (by omega)) (ufar 163 (by omega) (by omega) (by omega) (by omega)) (ufar 167 (by omega) (by omega) (by omega) (by omega)) O
theorem s_restore {M : uM} {n nw k : Nat} (A : rAll M) (F : rFord M.1 79 (M.1 258) n nw) (P : rPast M 79 (fun a => M.1 258 (115 + a)) k n nw) (hk : M.1 251 11 = nI k) : rAll (mRestore (xFordCp M 1 79 k)) := by
  obtain ⟨-, hK, ⟨ty, hT⟩, hS, O⟩ := A
  obtain ⟨cF, cP, c2, cfar⟩ := cp_all (b := 1) (o := 79) (Or.inl rfl) (Or.inr (Or.inl rfl)) (by decide) O F P
  generalize xFordCp M 1 79 k = a at *
  have uc : ∀ c, c ≠ 251 → c ≠ 252 → c ≠ 256 → (mRestore a).1 c = a.1 c := fun c h0 h1 h2 => by
    unfold mRestore
    rw [u_set_far h0, u_row_far h2, u_row_far h1]
  have ufar : ∀ c, c < 1 ∨ 79 ≤ c → c ≠ 251 → c ≠ 252 → c ≠ 256 → (mRestore a).1 c = M.1 c := fun c h h0 h1 h2 => (uc c h0 h1 h2).trans (cfar c h)
  have u8 : (mRestore a).1 251 8 = nI k := by
    unfold mRestore
    rw [u_set_at, u_row_far (by decide), u_row_far (by decide), cfar 251 (by omega)]
    exact hk
  have uj : ∀ j, j ≠ 8 → (mRestore a).1 251 j = M.1 251 j := fun j h1 => by
    unfold mRestore
    rw [u_set_by h1, u_row_far (by decide), u_row_far (by decide), cfar 251 (by omega)]
  have j1 : ∀ x, x < 115 → (mRestore a).1 252 x = M.1 258 x := fun x hx => by
    unfold mRestore
    rw [u_set_far (by decide), u_row_far (by decide), u_row_at, cp0 hx, cfar 258 (by omega)]
  have j2 : ∀ x, x < 920 → (mRestore a).1 256 x = M.1 258 (115 + x) := fun x hx => by
    unfold mRestore
    rw [u_set_far (by decide), u_row_at, pk_cpy_in (by omega) (by omega), u_row_far (by decide), cfar 258 (by omega)]
    exact congrArg (M.1 258) (by omega)
  have u2 : (mRestore a).2 = M.2 := c2
  have O2 : rOwn a := rOwn_2 (by rw [c2]) (cfar 157 (by omega)) (cfar 163 (by omega)) (cfar 167 (by omega)) O
  generalize mRestore a = u at *
  have R' := rRest_far (M := M) (u := u) (by rw [u2]) (by rw [u2]) (fun c h h1 h2 h3 => ufar c (by omega) h1 h2 h3) ⟨uj 2 (by decide), uj 11 (by decide), uj 12 (by decide)⟩ (ufar 0 (by omega) (by decide) (by decide) (by decide)) (rOwn_2 (by rw [u2]) (ufar 157 (by omega) (by decide) (by decide) (by decide)) (ufar 163 (by omega) (by decide) (by decide) (by decide)) (ufar 167 (by omega) (by decide) (by decide) (by decide)) O) ⟨hK, ⟨ty, hT⟩, hS, O⟩
  refine ⟨⟨n, nw, k, ?_, ?_, u8⟩, R'.1, R'.2.1, R'.2.2.1, R'.2.2.2⟩
  · exact rFord_J j1 (rFord_congr (I := a.1) (fun j hj => uc _ (by omega) (by omega) (by omega)) cF)
  · exact rPast_congr (Or.inl rfl) F.1.1 F.1.2.1 O2 (by rw [uc 1 (by omega) (by omega) (by omega)]) (by rw [u2, c2]) (fun x hx => j2 x hx) (fun j h h' => uc j (by omega) (by omega) (by omega)) (uc _ (by omega) (by omega) (by omega)) cP
