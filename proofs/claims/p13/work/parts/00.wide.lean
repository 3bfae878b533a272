/-! over the whole library from the first part on -/
theorem wd_0 : @Bundle.chainSX = @Bundle.chainSX := rfl
theorem wd_1 : @Bundle.ownAtomsX = @Bundle.ownAtomsX := rfl
theorem wd_2 : @Bundle.chainSAtomsX = @Bundle.chainSAtomsX := rfl
theorem wd_4 : @Jvm.Free.Multi.outerC = @Jvm.Free.Multi.outerC := rfl
theorem wd_5 : @Jvm.Free.Multi.innerC = @Jvm.Free.Multi.innerC := rfl
