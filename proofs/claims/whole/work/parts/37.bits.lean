/-! bits of the small sets -/
set_option maxRecDepth 100000 in
theorem hold_tb : ∀ k, k < 128 → ∀ n, n < 7 → (hold (nI k) n ↔ k.testBit n = true) := by decide +kernel
set_option maxRecDepth 100000 in
theorem bit_nI : ∀ n, n < 7 → bit n = nI (2 ^ n) := by decide +kernel
set_option maxRecDepth 100000 in
theorem or_nI : ∀ a, a < 128 → ∀ n, n < 7 → nI a ||| bit n = nI (a ||| 2 ^ n) := by decide +kernel
set_option maxRecDepth 100000 in
theorem an_nI : ∀ a, a < 128 → ∀ n, n < 7 → nI a &&& (bit n ^^^ (-1)) = nI (a &&& (127 ^^^ 2 ^ n)) := by decide +kernel
set_option maxRecDepth 100000 in
theorem nI_z : ∀ a, a < 128 → (nI a = 0 ↔ a = 0) := by decide +kernel
set_option maxRecDepth 100000 in
theorem bc_nI : ∀ a, a < 128 → bc (nI a) = nI ((List.range 7).filter (fun n => a.testBit n)).length := by decide +kernel
set_option maxRecDepth 100000 in
theorem bt1_nI : ∀ a, a < 128 → ∀ n, n < 7 → (bt1 (nI a) n ↔ hold (nI a) n) := by decide +kernel
