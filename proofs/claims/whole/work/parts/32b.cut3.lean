section
variable {X Y x sm H K : Nat} {v7 v8 : Int32}
theorem cut_hit (hX : X ≤ H) (hH : H ≤ 99) (h : v7.toInt = -1000000) (hs : (v7.toInt = -1000000 ∧ sm ≤ X + Y ∧ (sm = X + Y → x ≤ X)) ∨ (v7 = nI X ∧ v8 = nI (X + Y))) (hl : X ≤ x ∧ Y ≤ sm - x) (hxs : x ≤ sm) {w : Int32} :
    (w.toInt = -1000000 ∧ sm ≤ X + Y ∧ (sm = X + Y → x + 1 ≤ X)) ∨ (nI x = nI X ∧ nI sm = nI (X + Y)) := by
  rcases hs with ⟨_, h2, h3⟩ | ⟨h2, _⟩
  · exact Or.inr ⟨by rw [show x = X by omega], by rw [show sm = X + Y by omega]⟩
  · rw [h2, nI_toInt (by omega)] at h; omega
theorem cut_mis (hX : X ≤ H) (hY : Y ≤ K) (hs : (v7.toInt = -1000000 ∧ sm ≤ X + Y ∧ (sm = X + Y → x ≤ X)) ∨ (v7 = nI X ∧ v8 = nI (X + Y))) (hn : ¬ (x ≤ H ∧ sm - x ≤ K)) (hxs : x ≤ sm) :
    (v7.toInt = -1000000 ∧ sm ≤ X + Y ∧ (sm = X + Y → x + 1 ≤ X)) ∨ (v7 = nI X ∧ v8 = nI (X + Y)) := by
  rcases hs with ⟨h1, h2, h3⟩ | h
  · refine Or.inl ⟨h1, h2, fun e => ?_⟩
    have := h3 e
    omega
  · exact Or.inr h
theorem cut_mis2 {M : Nat → Nat → Prop} (hm : M X Y) (hX : X ≤ H) (hH : H ≤ 99) (h : v7.toInt = -1000000) (hs : (v7.toInt = -1000000 ∧ sm ≤ X + Y ∧ (sm = X + Y → x ≤ X)) ∨ (v7 = nI X ∧ v8 = nI (X + Y))) (hn : ¬ M x (sm - x)) {w : Int32} (hw : w.toInt = -1000000) {A : Prop} :
    (w.toInt = -1000000 ∧ sm ≤ X + Y ∧ (sm = X + Y → x + 1 ≤ X)) ∨ A := by
  rcases hs with ⟨h1, h2, h3⟩ | ⟨h2, _⟩
  · refine Or.inl ⟨hw, h2, fun e => ?_⟩
    have h4 := h3 e
    by_cases k : x = X
    · subst k
      exact absurd (show M x (sm - x) by rw [show sm - x = Y by omega]; exact hm) hn
    · omega
  · rw [h2, nI_toInt (by omega)] at h; omega
end
