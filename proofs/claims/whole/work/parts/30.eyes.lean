theorem sh_e : ∀ e, e < 32 → (nI e &&& 31) = nI e ∧ (nI e).toBitVec.smod 32 = BitVec.ofNat 32 e ∧ (BitVec.ofNat 32 e).toNat = e := by decide +kernel
theorem inP_bit {x : Int32} {e : Nat} (he : e < 32) : inP x e ↔ x.toBitVec.getLsbD e = true := by
  obtain ⟨h1, h2, h3⟩ := sh_e e he
  unfold inP
  rw [and_1, h1, Int32.toBitVec_shiftRight, h2, BitVec.sshiftRight', h3, BitVec.getLsbD_sshiftRight]
  by_cases hb : x.toBitVec.getLsbD e = true
  · simp [hb, he]
  · simp [hb, he]
theorem bit_1 : ∀ n, n < 32 → (nI 1 <<< (nI n &&& 31)).toBitVec = BitVec.twoPow 32 n := by decide +kernel
theorem bitsI_bit {P : Nat → Prop} : ∀ {n : Nat}, n ≤ 31 → ∀ i, (bitsI P n).toBitVec.getLsbD i = true ↔ i < n ∧ P i
  | 0, _, i => by
    show (0 : Int32).toBitVec.getLsbD i = true ↔ _
    simp
  | n + 1, h, i => by
    have ih := bitsI_bit (P := P) (n := n) (by omega) i
    rw [bitsI, Int32.toBitVec_or, BitVec.getLsbD_or, Bool.or_eq_true, ih]
    rcases Classical.em (P n) with hp | hp
    · rw [bsel_t hp, bit_1 n (by omega), BitVec.getLsbD_twoPow]
      simp only [Bool.and_eq_true, decide_eq_true_eq]
      constructor
      · rintro (⟨a, b⟩ | ⟨a, b⟩)
        · exact ⟨by omega, b⟩
        · exact ⟨by omega, by rw [← b]; exact hp⟩
      · rintro ⟨a, b⟩
        by_cases e : i = n
        · exact Or.inr ⟨by omega, e.symm⟩
        · exact Or.inl ⟨by omega, b⟩
    · rw [bsel_f hp]
      constructor
      · rintro (⟨a, b⟩ | q)
        · exact ⟨by omega, b⟩
        · exact absurd q (by simp)
      · rintro ⟨a, b⟩
        by_cases e : i = n
        · exact absurd (e ▸ b) hp
        · exact Or.inl ⟨by omega, b⟩
theorem top_bit {x : Int32} (h : 0 ≤ x.toInt) : x.toBitVec.getLsbD 31 = false := by
  have h2 : x.toBitVec.msb = false := by
    cases hm : x.toBitVec.msb with
    | false => rfl
    | true =>
      have h3 : x.toBitVec.toInt < 0 := BitVec.toInt_neg_iff.mpr (by have := BitVec.msb_eq_true_iff_two_mul_ge.mp hm; omega)
      exact absurd h (Int.not_le.mpr h3)
  rw [BitVec.msb_eq_getLsbD_last] at h2
  exact h2
/-- all eyes of a set are met -/
theorem met_all {x : Int32} {P : Nat → Prop} (h : 0 ≤ x.toInt) : (bitsI (fun e => inP x e ∧ P e) 31).toInt = x.toInt ↔ ∀ e, e < 31 → inP x e → P e := by
  constructor
  · intro he e h1 h2
    have hx : bitsI (fun e => inP x e ∧ P e) 31 = x := toInt_eq.mpr he
    have h3 := (inP_bit (by omega)).mp h2
    rw [← hx] at h3
    exact ((bitsI_bit (Nat.le_refl 31) e).mp h3).2.2
  · intro ha
    refine congrArg Int32.toInt (Int32.toBitVec_inj.mp (BitVec.eq_of_getLsbD_eq (fun i hi => ?_)))
    rw [Bool.eq_iff_iff, bitsI_bit (Nat.le_refl 31)]
    constructor
    · rintro ⟨a, b, _⟩
      exact (inP_bit (by omega)).mp b
    · intro hb
      have h31 : i < 31 := by
        by_cases e : i = 31
        · subst e; rw [top_bit h] at hb; exact absurd hb (by decide)
        · omega
      have h4 := (inP_bit (x := x) (by omega)).mpr hb
      exact ⟨h31, h4, ha i h31 h4⟩
