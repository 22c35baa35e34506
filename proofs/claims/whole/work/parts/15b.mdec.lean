theorem md_dec : ∀ n, n < 17 → 0 < n → ∀ t, t < 145 → vf_n64 (FP.ddiv (FP.i2d (nI t - nI n)) (FP.i2d (nI n))) := by
  unfold vf_n64
  decide +kernel
