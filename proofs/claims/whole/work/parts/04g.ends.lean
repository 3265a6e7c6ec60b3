/-! ===== the library's own, ends ===== -/
