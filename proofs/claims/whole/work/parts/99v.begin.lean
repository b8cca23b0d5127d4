/-! THE BEGINNING: what lies there once both objects are made -/
def m0R (k : Nat) : Nat → Int32 :=
  if 1 ≤ k ∧ k < 235 then (if (k - 1) % 78 = 0 then (fun j => if j = 6 then 9 else if j = 7 then 4 else 0) else if 6 ≤ (k - 1) % 78 ∧ ((k - 1) % 78 - 6) % 8 = 0 then (fun j => if j = 5 then 1 else 0) else fun _ => 0)
  else if k = 252 then upd (upd (upd (fun _ => 0) 2 9) 3 4) 5 1 else if k = 259 then kL4 4 else fun _ => 0
def m0 : uM := (m0R, fun _ _ => 0, fun k i => (k - 5) + (14 + 8 * (i % 8)))
def kAll (c : Nat → ClassId) (a : Nat → Nat) : va_W :=
  [(a 0, .inr (6, [.ref (a 1), .ref (a 79), .int 0, .ref (a 235), .ref (a 240), .ref (a 242)]))] ++ (wFord c (fun j => a (1 + j)) ++ (wFord c (fun j => a (79 + j)) ++ (wFord c (fun j => a (157 + j)) ++ (wFore c (a 1) (fun j => a (235 + j)) ++ ([(a 240, .inr (5, [.ref (a 241), .int 0, .int 0, .ref (a 157)])), (a 241, .inl (c 2, 90, .inl (fun _ => 0)))] ++ ([(a 242, .inl (c 4, 4, .inr (.inr (.inr (.inr (fun j => some (a (243 + 2 * j))))))))] ++ (kSh c (fun p j => a (243 + 2 * p + j)) 4 ++ wMod c (fun j => a (251 + j)))))))))
set_option maxRecDepth 100000 in
set_option maxHeartbeats 4000000 in
theorem kAll_uw (G : va_G) (a : Nat → Nat) (c : Nat → ClassId) : kAll c a = uw (G, a, c) m0 := by rfl
theorem permL {α : Type} (x y : α) (F1 F2 F3 Fo T Sh Mo : List α) : ([x, y] ++ ((((F1 ++ F2) ++ Fo) ++ (T ++ F3)) ++ Sh) ++ Mo).Perm ([x] ++ (F1 ++ (F2 ++ (F3 ++ (Fo ++ (T ++ ([y] ++ (Sh ++ Mo)))))))) := by
  have e1 : [x, y] ++ ((((F1 ++ F2) ++ Fo) ++ (T ++ F3)) ++ Sh) ++ Mo = x :: (y :: ((F1 ++ (F2 ++ (Fo ++ (T ++ F3)))) ++ (Sh ++ Mo))) := by simp
  have e2 : [x] ++ (F1 ++ (F2 ++ (F3 ++ (Fo ++ (T ++ ([y] ++ (Sh ++ Mo))))))) = x :: ((F1 ++ (F2 ++ (F3 ++ (Fo ++ T)))) ++ (y :: (Sh ++ Mo))) := by simp
  rw [e1, e2]
  refine List.Perm.cons x ?_
  refine List.perm_middle.symm.trans (List.Perm.append_right _ ?_)
  refine List.Perm.append_left F1 (List.Perm.append_left F2 ?_)
  rw [← List.append_assoc]
  exact List.perm_append_comm
