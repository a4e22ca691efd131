/-! WHERE THE RUN BEGINS -/
theorem If_g {g k : Nat} (h : xG g) (hk : k ≠ 2) : Ifin g k = 0 := Ifin_v (by rcases h with h | h | ⟨j, h1, h⟩ <;> omega) hk
theorem If_a {g : Nat} (h : xG g) : Ifin (g + 9) = fun _ => 0 := Ifin_0 (by rw [(xG_kn h 9 (by decide)).1]; decide) (by rcases h with h | h | ⟨j, h1, h⟩ <;> omega)
theorem GW_0 : GW Ifin 8 (Ifin 311) 0 := by
  have e : Ifin 311 = fun _ => 0 := Ifin_0 (by decide) (by decide)
  rw [e]
  refine ⟨0, 0, 0, 0, ⟨⟨by decide +kernel, by decide +kernel, by decide +kernel, by decide +kernel⟩, fun q hq => ?_, fun t ht => absurd ht (by omega), fun k hk => absurd hk (by omega), ⟨0, -1000000, by decide +kernel, by decide +kernel, by decide, by decide, by decide, by decide, fun m hm => by omega⟩⟩, ⟨⟨by decide +kernel, by decide +kernel, by decide, by decide⟩, ?_, fun t ht => absurd ht (by omega), fun t ht => absurd ht (by omega), fun t u ht => absurd ht (by omega), fun k hk => absurd hk (by omega), Or.inl rfl, by decide +kernel, by decide, by decide +kernel, by decide⟩, ⟨fun q hq => ⟨Int.le_of_eq rfl, show (0 : Int32).toInt ≤ 60 from by decide⟩, fun t ht => absurd ht (by omega), fun k hk => absurd hk (by omega), Int.le_of_eq rfl, by decide⟩, fun t ht => absurd ht (by omega)⟩
  · show Ifin 9 q = 0
    rw [Ifin_0 (by decide) (by decide)]
  · exact fun k hk => absurd hk (by omega)
theorem L2_0 : L2 Ifin := by
  intro r hr
  rcases (show r = 0 ∨ r = 1 ∨ r = 2 ∨ r = 3 ∨ r = 4 ∨ r = 5 ∨ r = 6 ∨ r = 7 by omega) with rfl | rfl | rfl | rfl | rfl | rfl | rfl | rfl <;> exact Or.inl ⟨by decide +kernel, by decide +kernel⟩
theorem LR_0 : LR Ifin 8 18 0 := by
  refine ⟨Or.inl ⟨rfl, rfl⟩, L2_0, ⟨fun _ => 0, 0, ⟨by decide +kernel, by decide, fun k hk => absurd hk (by omega)⟩, ⟨by decide +kernel, by decide, fun k hk => absurd hk (by omega)⟩⟩, ⟨by decide +kernel, by decide +kernel⟩, Or.inl ⟨by decide +kernel, by decide +kernel⟩, GW_0, ⟨0, 0, by decide, by decide, by decide +kernel, by decide +kernel, by decide +kernel, fun d hd => absurd hd (by omega)⟩, ?_, ⟨0, by decide, by decide +kernel, by decide +kernel, fun i hi => absurd hi (by omega)⟩, ?_, ?_⟩
  · intro k hk
    exact Or.inl ⟨by rw [Ifin_0 (by decide) (by decide)]; rfl, by rw [Ifin_0 (by decide) (by decide)]; rfl⟩
  · intro t ht
    rw [Ifin_0 (by decide) (by decide)]
  · intro g hg
    refine ⟨fun k hk => ?_, ?_⟩
    · rw [If_a hg]; rfl
    · rw [If_g hg (by decide)]; rfl
