/-! PASS is a number up to a million -/
def bM (x : Int32) : Prop := ∃ m, m ≤ 1000000 ∧ x = nI m
theorem b_fac : ∀ (s h : Fin 11), nI s.val * nI h.val + (10 - nI s.val) * (10 - nI h.val) = nI (s.val * h.val + (10 - s.val) * (10 - h.val)) ∧ s.val * h.val + (10 - s.val) * (10 - h.val) ≤ 100 := by decide +kernel
theorem b_uPass {snd hd : Int32} {sk : Nat → Int32} (hh : ∃ h, h ≤ 10 ∧ hd = nI h) : ∀ n, (∀ i, i < n → ∃ s, s ≤ 10 ∧ sk i = nI s) → bM (uPass snd sk hd n) := by
  intro n
  induction n with
  | zero => intro _; exact ⟨1000000, Nat.le_refl _, rfl⟩
  | succ n ih =>
    intro hs
    obtain ⟨m, hm, em⟩ := ih (fun i hi => hs i (by omega))
    have e : uPass snd sk hd (n + 1) = if ubit snd n = true then uPass snd sk hd n * (sk n * hd + (10 - sk n) * (10 - hd)) / 100 else uPass snd sk hd n := rfl
    rw [e]
    by_cases c : ubit snd n = true
    · rw [if_pos c]
      obtain ⟨s, hs1, hs2⟩ := hs n (by omega)
      obtain ⟨h, hh1, hh2⟩ := hh
      obtain ⟨f1, f2⟩ := b_fac ⟨s, by omega⟩ ⟨h, by omega⟩
      have f1' : nI s * nI h + (10 - nI s) * (10 - nI h) = nI (s * h + (10 - s) * (10 - h)) := f1
      have f2' : s * h + (10 - s) * (10 - h) ≤ 100 := f2
      rw [em, hs2, hh2, f1', pk_mul]
      generalize s * h + (10 - s) * (10 - h) = c at f2' ⊢
      have hmc : m * c ≤ 1000000 * 100 := Nat.mul_le_mul hm f2'
      refine ⟨m * c / 100, by omega, ?_⟩
      exact pk_div (by omega) (by decide) (by decide)
    · rw [if_neg c]
      exact ⟨m, hm, em⟩
theorem b_skf : ∀ (k : Fin 5) (a : Fin 10) (v : Fin 13) (b : Bool), 0 ≤ (uSkill (nI k.val) (nI a.val) (nI v.val) b).toInt ∧ (uSkill (nI k.val) (nI a.val) (nI v.val) b).toInt < 11 := by decide +kernel
theorem b_skill {k a v : Nat} (hk : k ≤ 4) (ha : a ≤ 9) (hv : v ≤ 12) (b : Bool) : ∃ s, s ≤ 10 ∧ uSkill (nI k) (nI a) (nI v) b = nI s := by
  obtain ⟨j, h1, h2⟩ := u_nat (n := 11) (b_skf ⟨k, by omega⟩ ⟨a, by omega⟩ ⟨v, by omega⟩ b) (by decide)
  exact ⟨j, by omega, h2⟩
theorem b_hears {e t h : Nat} (he : e ≤ 10) (ht : 1 ≤ t) (ht2 : t ≤ 24) (hh : h ≤ 20000) : ∃ s, s ≤ 10 ∧ uHears (nI e) (nI t) (nI h) = nI s := by
  unfold uHears
  rw [pk_div (by omega) (by omega) (by omega)]
  have hq : h / t ≤ h := Nat.div_le_self h t
  generalize h / t = q at hq ⊢
  by_cases c : q ≤ e
  · rw [pk_sub c, if_pos (nI_pos' (by omega))]
    exact ⟨e - q, by omega, rfl⟩
  · have hneg : nI e - nI q < 0 := pk_sneg (by omega) (by omega)
    rw [if_neg (fun z => Int32.not_lt.mpr z hneg)]
    exact ⟨0, by omega, rfl⟩
theorem b_mPass {M : uM} {n nw p w h v : Nat} (R : rFord M.1 1 (M.1 252) n nw) (hp : p < n) (hh : h ≤ 20000) (hv : v ≤ 12) (tg : Int32) : bM (mPass M p w (nI h) (nI v) tg) := by
  obtain ⟨-, ⟨-, ⟨e, he, ee⟩, -, t, ht, ht2, et⟩, c, -⟩ := R
  obtain ⟨⟨-, k, hk, ek⟩, -, hc⟩ := c p hp
  unfold mPass
  refine b_uPass ?_ 6 (fun i hi => ?_)
  · rw [ee, et]; exact b_hears he ht ht2 hh
  · obtain ⟨-, a, ha, ea⟩ := hc i hi
    unfold mSk
    rw [ek, ← Nat.add_assoc, ea]
    exact b_skill hk ha hv _
theorem b_hour {M : uM} {n nw : Nat} (R : rFord M.1 1 (M.1 252) n nw) : ∃ h, h ≤ 9999 ∧ M.1 252 4 = nI h := R.2.2.2.2.2.2.1
theorem b_worn {M : uM} {n nw w : Nat} (R : rFord M.1 1 (M.1 252) n nw) (hw : w < nw) : ∃ v, v ≤ 6 ∧ M.1 252 (67 + 2 * w + 1) = nI v := by
  obtain ⟨-, v, h1, h2⟩ := R.2.2.2.2.2.2.2.2.2 w hw
  have := rCnt_le (M.1 252) n
  have := R.1.1
  exact ⟨v, by omega, h2⟩
theorem b_now {M : uM} {n nw p w : Nat} (R : rFord M.1 1 (M.1 252) n nw) (hp : p < n) (hw : w < nw) : bM (mPassIn M p w (M.1 252 4)) := by
  obtain ⟨h, h1, h2⟩ := b_hour R
  obtain ⟨v, v1, v2⟩ := b_worn R hw
  unfold mPassIn
  rw [h2, v2]
  exact b_mPass R hp (by omega) (by omega) _
theorem b_comp {x : Int32} (h : bM x) : bM (1000000 - x) := by
  obtain ⟨m, h1, rfl⟩ := h
  exact ⟨1000000 - m, by omega, pk_sub (a := 1000000) h1⟩
theorem b_wrong {M : uM} {p : Nat} {x : Int32} (h : bM x) : bM (mWrong M p x) := by
  unfold mWrong
  split
  · exact b_comp h
  · exact h
/-- a product of parts of a million -/
theorem b_uPA {f : Nat → Int32} {s : Int32} : ∀ n, (∀ i, i < n → bM (f i)) → ∃ m, m ≤ 1000000 ∧ uPA f s n = lN m := by
  intro n
  induction n with
  | zero => intro _; exact ⟨1000000, Nat.le_refl _, rfl⟩
  | succ n ih =>
    intro hf
    obtain ⟨m, hm, em⟩ := ih (fun i hi => hf i (by omega))
    obtain ⟨c, hc, ec⟩ := hf n (by omega)
    have e : uPA f s (n + 1) = if ubit s n = true then uPA f s n * (f n).toInt64 / 1000000 else uPA f s n := rfl
    rw [e]
    by_cases q : ubit s n = true
    · rw [if_pos q, em, ec, nI_l (by omega), lN_mul]
      have hmc : m * c ≤ 1000000 * 1000000 := Nat.mul_le_mul hm hc
      exact ⟨m * c / 1000000, by omega, pk_lDiv (by omega) (by decide) (by decide)⟩
    · rw [if_neg q]; exact ⟨m, hm, em⟩
theorem b_uLike {f : Nat → Int32} : ∀ n, (∀ i, i < n → bM (f i)) → ∃ m, m ≤ 1000000 ∧ uLike f n = lN m := by
  intro n
  induction n with
  | zero => intro _; exact ⟨1000000, Nat.le_refl _, rfl⟩
  | succ n ih =>
    intro hf
    obtain ⟨m, hm, em⟩ := ih (fun i hi => hf i (by omega))
    obtain ⟨c, hc, ec⟩ := hf n (by omega)
    have e : uLike f (n + 1) = uLike f n * (f n).toInt64 / 1000000 := rfl
    rw [e, em, ec, nI_l (by omega), lN_mul]
    have hmc : m * c ≤ 1000000 * 1000000 := Nat.mul_le_mul hm hc
    exact ⟨m * c / 1000000, by omega, pk_lDiv (by omega) (by decide) (by decide)⟩
theorem uPA_congr {f g : Nat → Int32} {s : Int32} : ∀ n, (∀ i, i < n → f i = g i) → uPA f s n = uPA g s n := by
  intro n
  induction n with
  | zero => intro _; rfl
  | succ n ih =>
    intro h
    have e (f : Nat → Int32) : uPA f s (n + 1) = if ubit s n = true then uPA f s n * (f n).toInt64 / 1000000 else uPA f s n := rfl
    rw [e, e, ih (fun i hi => h i (by omega)), h n (by omega)]
theorem uLike_congr {f g : Nat → Int32} : ∀ n, (∀ i, i < n → f i = g i) → uLike f n = uLike g n := by
  intro n
  induction n with
  | zero => intro _; rfl
  | succ n ih =>
    intro h
    have e (f : Nat → Int32) : uLike f (n + 1) = uLike f n * (f n).toInt64 / 1000000 := rfl
    rw [e, e, ih (fun i hi => h i (by omega)), h n (by omega)]
