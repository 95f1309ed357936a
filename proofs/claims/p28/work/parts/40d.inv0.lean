/-! ===== a new plate and a new model tell of one plate ===== -/
theorem ch0 : chOk (0 : Int32) := chOk_n (q := 0) (by decide)
theorem xnZ : xn XZ = 0 := by decide
theorem xpZ : xp XZ = 0 := by decide
theorem xEZ : xE XZ = 0 := by decide
theorem mnZ : mn (MZ 0) = 0 := by decide
theorem mpZ : mp (MZ 0) = 0 := by decide
theorem okX_Z : okX XZ := ⟨by rw [xnZ]; rfl, by rw [xnZ]; decide, fun k _ => ⟨rfl, Nat.zero_le _⟩, by rw [xpZ]; rfl, by rw [xpZ]; decide, fun _ _ => ch0, fun _ _ => ⟨ch0, ch0⟩⟩
theorem okM_Z : okM (MZ 0) := ⟨by rw [mnZ]; rfl, by rw [mnZ]; decide, fun k hk => by rw [mnZ] at hk; exact absurd hk (Nat.not_lt_zero k), by rw [mpZ]; rfl, by rw [mpZ]; decide, by decide⟩
theorem Rl_Z : Rl XZ (MZ 0) := by
  refine ⟨okX_Z, okM_Z, ⟨by rw [xnZ, mnZ], fun k hk => ?_, fun k j hk _ => ?_⟩, ⟨by rw [xEZ]; rfl, by rw [xEZ]; exact Nat.two_pow_pos _, fun k hk => ?_, fun q => absurd xEZ q⟩, ⟨by rw [xpZ, mpZ], fun j hj => ?_⟩, ⟨rfl, rfl, rfl, rfl, rfl, rfl⟩, by decide, by decide, by decide, by decide⟩
  · rw [xnZ] at hk
    exact absurd hk (Nat.not_lt_zero k)
  · rw [xnZ] at hk
    exact absurd hk (Nat.not_lt_zero k)
  · rw [xnZ] at hk
    exact absurd hk (Nat.not_lt_zero k)
  · rw [xpZ] at hj
    exact absurd hj (Nat.not_lt_zero j)
theorem yqZ : yq YZ = 0 := by decide
theorem yoZ : yo YZ = 0 := by decide
theorem ytZ : yt YZ = 0 := by decide
theorem inv_0 : Inv YZ MZ := by
  refine ⟨Rl_Z, ⟨⟨by rw [yoZ]; rfl, by rw [yoZ]; decide, by rw [yqZ]; rfl, by rw [yqZ]; decide⟩, rfl, fun j hj => ?_⟩, ⟨⟨by rw [ytZ]; rfl, by rw [ytZ]; decide, fun _ _ => ch0⟩, rfl, fun _ _ => rfl⟩, ⟨rfl, fun q => absurd rfl q⟩, fun i hi => ?_⟩
  · rw [yqZ] at hj
    exact absurd hj (Nat.not_lt_zero j)
  · show okX (if i = 7 then (fun _ _ => 0) else XZ)
    rw [if_neg (by omega)]
    exact okX_Z
