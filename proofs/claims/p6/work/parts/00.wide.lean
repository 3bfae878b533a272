/-! over the whole library from the first part on -/
theorem wd_0 : Bundle.tN = Bundle.tN := rfl
