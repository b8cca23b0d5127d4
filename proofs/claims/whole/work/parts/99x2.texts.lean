/-! what the Statement gives of the six texts -/
def wTm (i : Nat) : Term := Term.string RX5 (([32, 41, 53, 55, 57, 74] : List Nat).getD i 0)
set_option maxRecDepth 100000 in
theorem w_ex : ∀ i : Fin 6, Cond.exactly (wTm i.val) "java/lang/String" ∈ flatC (Jvm.Cond.and given_1 narrow_1) := by decide +kernel
set_option maxRecDepth 100000 in
theorem w_co : ∀ i : Fin 6, Cond.eq (.field (wTm i.val) "java/lang/String" "coder" "B") (.int 0) ∈ flatC (Jvm.Cond.and given_1 narrow_1) := by decide +kernel
set_option maxRecDepth 100000 in
theorem w_ar : ∀ i : Fin 6, Cond.arrayOf (.field (wTm i.val) "java/lang/String" "value" "[B") .byte ∈ flatC (Jvm.Cond.and given_1 narrow_1) := by decide +kernel
set_option maxRecDepth 100000 in
theorem w_le : ∀ i : Fin 6, Cond.eq (.length (.field (wTm i.val) "java/lang/String" "value" "[B")) (.int (Int32.ofNat (tLen.getD i.val 0))) ∈ flatC (Jvm.Cond.and given_1 narrow_1) := by decide +kernel
set_option maxRecDepth 100000 in
theorem w_el : ∀ i : Fin 6, ∀ j : Fin 10, j.val < tLen.getD i.val 0 → Cond.eq (.elem (.field (wTm i.val) "java/lang/String" "value" "[B") (.int (Int32.ofNat j.val))) (.int ((tByt.getD i.val []).getD j.val 0)) ∈ flatC (Jvm.Cond.and given_1 narrow_1) := by decide +kernel
set_option maxRecDepth 100000 in
theorem w_ne : ∀ i j : Fin 6, i.val ≠ j.val → (Cond.not (Cond.eq (wTm i.val) (wTm j.val)) ∈ flatC (Jvm.Cond.and given_1 narrow_1)) ∨ (Cond.not (Cond.eq (wTm j.val) (wTm i.val)) ∈ flatC (Jvm.Cond.and given_1 narrow_1)) := by decide +kernel
set_option maxRecDepth 100000 in
theorem w_cs : Cond.eq (.static "java/lang/String" "COMPACT_STRINGS" "Z") (.int 1) ∈ flatC (Jvm.Cond.and given_1 narrow_1) := by decide +kernel
