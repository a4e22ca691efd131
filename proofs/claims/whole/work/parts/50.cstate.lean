/-! WHERE THE READER OF THE PROGRAM IS -/
def goodF (f : Nat → Int32) (T S F W : Nat) : Prop := WF f T S F W ∧ BD f T S ∧ f 2 = nI 0 ∧ f 3 = nI 0 ∧ ∀ t, t < 6 → f (26 + 5 * t + 4) = nI 0
def ccF (g : Nat) (B J : xM) : Prop := (∀ o, o ≠ 2 → (o < g ∨ g + 10 ≤ o) → J o = B o) ∧ (∀ j, (j < 2 ∨ 7 < j) → J 2 j = B 2 j) ∧ BZ J g
def cOK (tp : Nat → Nat) (n g : Nat) (B J : xM) (t : xT) (f : Nat → Int32) : Prop :=
  ccF g B J ∧ tokW tp n t ∧ cxT tp J t ∧ (∃ T S F W, GX J g f T S F W ∧ goodF f T S F W) ∧ (f 4 = nI 20 → f 5 = nI 0 ∧ J g 2 = -1000000)
def cNO (g : Nat) (B J : xM) (e : Nat × Nat) : Prop := ccF g B J ∧ J 2 6 = nI e.1 ∧ J 2 7 = nI e.2
def cR (tp : Nat → Nat) (n g : Nat) (B : xM) (x : Int32) (J : xM) (r : xS) : Prop := (∃ t f, r = .inr (t, f) ∧ x = nI 1 ∧ cOK tp n g B J t f) ∨ ∃ e, r = .inl e ∧ x = nI 0 ∧ cNO g B J e
def cN (tp : Nat → Nat) (n g : Nat) (B I : xM) (lo hi : Nat) (x : Int32) (J : xM) (r : xS) : Prop := (x = nI 1 ∧ isNR tp lo hi r ∧ I = J) ∨ (x = nI 0 ∧ ¬ isNR tp lo hi r ∧ ∃ e, numR tp n lo hi r = .inl e ∧ cNO g B J e)
section
variable {tp : Nat → Nat} {n g : Nat} {B I J K : xM} {t : xT} {f : Nat → Int32} {r : xS} {x : Int32} {e : Nat × Nat} {k lo hi : Nat}
theorem cc_tape (hg : 8 ≤ g) (h : ccF g B J) (ht : cbP B tp n) : cbP J tp n := ⟨(h.2.1 1 (by omega)).trans ht.1, ht.2.1, fun k hk => by rw [h.1 3 (by decide) (by omega)]; exact ht.2.2 k hk⟩
theorem cc_x (hg : 8 ≤ g) (h : ccF g B J) (hK : cxF J K) : ccF g B K :=
  ⟨fun o h1 h2 => (hK.1 o h1).trans (h.1 o h1 h2), fun j hj => (hK.2 j (by omega)).trans (h.2.1 j hj), h.2.2.ext (fun i h1 h2 => hK.1 i (by omega))⟩
theorem ok_adv (hg : 8 ≤ g) (h : cOK tp n g B J t f) (hK : cxJ tp J K (lx tp n t.2.2)) : cOK tp n g B K (lx tp n t.2.2) f := by
  obtain ⟨hc, hw, hx, ⟨T, S, F, W, hG, hf⟩, hl⟩ := h
  exact ⟨cc_x hg hc hK.1, lx_W hw.2.1, hK.2, ⟨T, S, F, W, hG.ext (fun i h1 h2 => hK.1.1 i (by omega)), hf⟩, fun q => ⟨(hl q).1, (congrFun (hK.1.1 g (by omega)) 2).trans (hl q).2⟩⟩
theorem ok_ref (hg : 8 ≤ g) (h : cOK tp n g B J t f) : cNO g B (xput (xput J 2 6 (nI k)) 2 7 (nI t.2.1)) (k, t.2.1) :=
  ⟨⟨fun o h1 h2 => (xput_ne h1).trans ((xput_ne h1).trans (h.1.1 o h1 h2)), fun j hj => xput_i (by omega) (xput_i (by omega) (h.1.2.1 j hj)), h.1.2.2.ext (fun i h1 h2 => (xput_ne (by omega)).trans (xput_ne (by omega)))⟩, xput_i (by decide) xput_e, xput_e⟩
theorem cR_ok (e : r = .inr (t, f)) (h : cOK tp n g B J t f) : cR tp n g B (nI 1) J r := Or.inl ⟨t, f, e, rfl, h⟩
theorem cR_bad (e' : r = .inl e) (h : cNO g B J e) : cR tp n g B (nI 0) J r := Or.inr ⟨e, e', rfl, h⟩
theorem cR_y (h : cR tp n g B x J r) (h2 : x.toInt ≠ 0) : ∃ t f, r = .inr (t, f) ∧ cOK tp n g B J t f := by
  rcases h with ⟨t, f, a, -, b⟩ | ⟨e, -, b, -⟩
  · exact ⟨t, f, a, b⟩
  · rw [b] at h2; exact absurd rfl h2
theorem cR_n (h : cR tp n g B x J r) (h2 : x.toInt = 0) : ∃ e, r = .inl e ∧ cNO g B J e := by
  rcases h with ⟨t, f, -, b, -⟩ | ⟨e, a, -, b⟩
  · rw [b] at h2; exact absurd h2 (by decide)
  · exact ⟨e, a, b⟩
theorem cR_nar (h : cR tp n g B x J r) : narrow .boolean (.int x) = .int x := by
  rcases h with ⟨t, f, -, b, -⟩ | ⟨e, a, b, -⟩ <;> rw [b] <;> decide
theorem cN_y (h : cN tp n g B I lo hi x J r) (h2 : x.toInt ≠ 0) : isNR tp lo hi r ∧ I = J := by
  rcases h with ⟨-, a, b⟩ | ⟨b, -⟩
  · exact ⟨a, b⟩
  · rw [b] at h2; exact absurd rfl h2
theorem cN_n (h : cN tp n g B I lo hi x J r) (h2 : x.toInt = 0) : ¬ isNR tp lo hi r ∧ ∃ e, numR tp n lo hi r = .inl e ∧ cNO g B J e := by
  rcases h with ⟨b, -⟩ | ⟨-, a, b⟩
  · rw [b] at h2; exact absurd h2 (by decide)
  · exact ⟨a, b⟩
theorem fig_v (h : cxT tp J t) (h2 : t.1 = 2) : J 2 5 = nI (figR tp (.inr (t, f))) := by
  rw [h.2.2.2 h2]
  exact congrArg nI (if_pos h2 : (if t.1 = 2 then valF tp t.2.1 (t.2.2 - t.2.1) else 0) = _).symm
theorem cc_put (hg : 8 ≤ g) (h : ccF g B J) {o i : Nat} {v : Int32} (ho : g ≤ o ∧ o < g + 10) (hb : BZ (xput J o i v) g) : ccF g B (xput J o i v) :=
  ⟨fun a h1 h2 => (xput_ne (by omega)).trans (h.1 a h1 h2), fun j hj => (congrFun (xput_ne (by omega)) j).trans (h.2.1 j hj), hb⟩
theorem bz_put (h : BZ J g) {o i : Nat} {v : Int32} (ho : o ≠ g + 9) (hi : o ≠ g ∨ i ≠ 14) : BZ (xput J o i v) g := by
  refine ⟨fun k hk => ?_, ?_⟩
  · rw [xput_ne (Ne.symm ho)]; exact h.1 k hk
  · by_cases e : o = g
    · subst e; rw [xput_i (w := J o 14) (by omega) rfl]; exact h.2
    · rw [xput_ne (Ne.symm e)]; exact h.2
theorem cx_put (hg : 8 ≤ g) (h : cxT tp J t) {o i : Nat} {v : Int32} (ho : g ≤ o) : cxT tp (xput J o i v) t := by
  unfold cxT
  rw [xput_ne (show (2 : Nat) ≠ o by omega)]
  exact h
theorem WF.grd {T S F W : Nat} (h : WF f T S F W) {v : Int32} {q : Nat} (hq : q < 20) : WF (upd f (6 + q) v) T S F W := by
  have hT := h.T6
  refine ⟨⟨?_, ?_, h.T6, h.S6⟩, fun k hk => ?_, fun u hu => ?_, fun u hu => ?_, fun u x hu hx => ?_, fun k hk => ?_, ?_, ?_⟩
  · rw [upd_ne (by omega)]; exact h.T0
  · rw [upd_ne (by omega)]; exact h.S0
  · rw [tsF_upd (by omega), upd_ne (by omega)]; exact ⟨h.ts hk, h.ts9 hk⟩
  · rw [upd_ne (by omega)]; exact h.kd hu
  · rw [upd_ne (by omega)]; exact h.st hu
  · rw [upd_ne (by omega), upd_ne (by omega)]; exact h.ne hu hx
  · rw [upd_ne (by omega)]; exact h.sh hk
  · rw [upd_ne (by omega)]; exact h.wi
  · rw [upd_ne (by omega), upd_ne (by omega)]; exact h.lk
theorem ok_gr (hg : 8 ≤ g) (h : cOK tp n g B J t f) {q v : Nat} (hq : q < 20) (hv : v ≤ 60) : cOK tp n g B (xput J (g + 1) q (nI v)) t (upd f (6 + q) (nI v)) := by
  obtain ⟨hc, hw, hx, ⟨T, S, F, W, hG, hf, hb, h2, h3, h4⟩, hl⟩ := h
  have hS6 := hf.S6
  have hT6 := hf.T6
  refine ⟨cc_put hg hc (by omega) (bz_put hc.2.2 (by omega) (by omega)), hw, cx_put hg hx (by omega), ⟨T, S, F, W, ⟨⟨xput_o (by omega) hG.tr, xput_o (by omega) hG.th, ?_, ?_⟩, fun p hp => ?_, fun u hu => ⟨?_, ?_, ?_, ?_, ?_⟩, fun k hk => ⟨?_, ?_, ?_⟩, ?_⟩, hf.grd hq, ⟨fun p hp => ?_, fun u hu => ?_, fun k hk => ?_, ?_⟩, ?_, ?_, fun u hu => ?_⟩, ?_⟩
  · rw [upd_ne (by omega)]; exact xput_o (by omega) hG.ye
  · rw [upd_ne (by omega)]; exact xput_o (by omega) hG.wi
  · by_cases e : p = q
    · subst e; rw [upd_eq]; exact xput_e
    · rw [upd_ne (by omega)]; exact xput_i e (hG.gr hp)
  · rw [upd_ne (by omega)]; exact xput_o (by omega) (hG.k0 hu)
  · rw [upd_ne (by omega)]; exact xput_o (by omega) (hG.k1 hu)
  · rw [upd_ne (by omega)]; exact xput_o (by omega) (hG.k2 hu)
  · rw [upd_ne (by omega)]; exact xput_o (by omega) (hG.k3 hu)
  · rw [upd_ne (by omega)]; exact xput_o (by omega) (hG.k4 hu)
  · rw [upd_ne (by omega)]; exact xput_o (by omega) (hG.s0 hk)
  · rw [upd_ne (by omega)]; exact xput_o (by omega) (hG.s1 hk)
  · rw [upd_ne (by omega)]; exact xput_o (by omega) (hG.s2 hk)
  · obtain ⟨a, b, e1, e2, r⟩ := hG.la
    exact ⟨a, b, xput_o (by omega) e1, xput_o (by omega) e2, r⟩
  · by_cases e : p = q
    · subst e; rw [upd_eq, nI_toInt (by omega)]; omega
    · rw [upd_ne (by omega)]; exact hb.1 p hp
  · rw [upd_ne (by omega), upd_ne (by omega), upd_ne (by omega)]; exact hb.2.1 u hu
  · rw [upd_ne (by omega)]; exact hb.2.2.1 k hk
  · rw [upd_ne (by omega)]; exact hb.2.2.2
  · rw [upd_ne (by omega)]; exact h2
  · rw [upd_ne (by omega)]; exact h3
  · rw [upd_ne (by omega)]; exact h4 u hu
  · rw [upd_ne (by omega), upd_ne (by omega)]
    exact fun q => ⟨(hl q).1, xput_o (by omega) (hl q).2⟩
theorem gx_lake {T S F W F2 W2 i : Nat} {v w : Int32} (hG : GX J g f T S F W) (hi : i = 4 ∨ i = 5) (hS : S ≤ 6) (hL : LX (xput J g (i - 3) w) g F2 W2) : GX (xput J g (i - 3) w) g (upd f i v) T S F2 W2 := by
  refine ⟨⟨xput_i (by omega) hG.tr, xput_i (by omega) hG.th, ?_, ?_⟩, fun p hp => ?_, fun u hu => ⟨?_, ?_, ?_, ?_, ?_⟩, fun k hk => ⟨?_, ?_, ?_⟩, hL⟩
  · rw [upd_ne (by omega)]; exact xput_i (by omega) hG.ye
  · rw [upd_ne (by omega)]; exact xput_i (by omega) hG.wi
  · rw [upd_ne (by omega)]; exact xput_o (by omega) (hG.gr hp)
  · rw [upd_ne (by omega)]; exact xput_o (by omega) (hG.k0 hu)
  · rw [upd_ne (by omega)]; exact xput_o (by omega) (hG.k1 hu)
  · rw [upd_ne (by omega)]; exact xput_o (by omega) (hG.k2 hu)
  · rw [upd_ne (by omega)]; exact xput_o (by omega) (hG.k3 hu)
  · rw [upd_ne (by omega)]; exact xput_o (by omega) (hG.k4 hu)
  · rw [upd_ne (by omega)]; exact xput_o (by omega) (hG.s0 hk)
  · rw [upd_ne (by omega)]; exact xput_o (by omega) (hG.s1 hk)
  · rw [upd_ne (by omega)]; exact xput_o (by omega) (hG.s2 hk)
theorem good_lake {T S F W F2 W2 i : Nat} {v : Int32} (h : goodF f T S F W) (hi : i = 4 ∨ i = 5) (hL : upd f i v 4 = nI F2 ∧ F2 ≤ 20 ∧ upd f i v 5 = nI W2 ∧ W2 ≤ 20) : goodF (upd f i v) T S F2 W2 := by
  obtain ⟨hf, hb, h2, h3, h4⟩ := h
  refine ⟨⟨⟨?_, ?_, hf.T6, hf.S6⟩, fun k hk => ?_, fun u hu => ?_, fun u hu => ?_, fun u x hu hx => ?_, fun k hk => ?_, ?_, hL⟩, ⟨fun p hp => ?_, fun u hu => ?_, fun k hk => ?_, ?_⟩, ?_, ?_, fun u hu => ?_⟩
  · rw [upd_ne (by omega)]; exact hf.T0
  · rw [upd_ne (by omega)]; exact hf.S0
  · rw [tsF_upd (by omega), upd_ne (by omega)]; exact ⟨hf.ts hk, hf.ts9 hk⟩
  · rw [upd_ne (by omega)]; exact hf.kd hu
  · rw [upd_ne (by omega)]; exact hf.st hu
  · rw [upd_ne (by omega), upd_ne (by omega)]; exact hf.ne hu hx
  · rw [upd_ne (by omega)]; exact hf.sh hk
  · rw [upd_ne (by omega)]; exact hf.wi
  · rw [upd_ne (by omega)]; exact hb.1 p hp
  · rw [upd_ne (by omega), upd_ne (by omega), upd_ne (by omega)]; exact hb.2.1 u hu
  · rw [upd_ne (by omega)]; exact hb.2.2.1 k hk
  · rw [upd_ne (by omega)]; exact hb.2.2.2
  · rw [upd_ne (by omega)]; exact h2
  · rw [upd_ne (by omega)]; exact h3
  · rw [upd_ne (by omega)]; exact h4 u hu
theorem ok_lf (hg : 8 ≤ g) (h : cOK tp n g B J t f) (h4 : f 4 = nI 20) {v : Nat} (hv : v ≤ 19) : cOK tp n g B (xput J g 1 (nI v)) t (upd f 4 (nI v)) := by
  obtain ⟨hc, hw, hx, ⟨T, S, F, W, hG, hf⟩, hl⟩ := h
  obtain ⟨h5, hn⟩ := hl h4
  refine ⟨cc_put hg hc (by omega) (bz_put hc.2.2 (by omega) (by omega)), hw, cx_put hg hx (by omega), ⟨T, S, v, 0, gx_lake (i := 4) hG (Or.inl rfl) hf.1.S6 ⟨v, -1000000, by rw [show 4 - 3 = 1 from rfl, zN]; exact xput_e, xput_i (by decide) (hn.trans (by decide)), by omega, by omega, by omega, by omega, fun m hm => by omega⟩, good_lake hf (Or.inl rfl) ⟨upd_eq, by omega, (upd_ne (by decide)).trans h5, by omega⟩⟩, fun q => ?_⟩
  rw [upd_eq] at q
  have := nI_inj (by omega) (by decide) q
  omega
theorem ok_lt (hg : 8 ≤ g) (h : cOK tp n g B J t f) {u v : Nat} (h4 : f 4 = nI u) (hu : u ≤ 19) (h1 : J g 1 = nI u) (hv : v ≤ 19) : cOK tp n g B (xput J g 2 (nI v)) t (upd f 5 (nI v)) := by
  obtain ⟨hc, hw, hx, ⟨T, S, F, W, hG, hf⟩, hl⟩ := h
  refine ⟨cc_put hg hc (by omega) (bz_put hc.2.2 (by omega) (by omega)), hw, cx_put hg hx (by omega), ⟨T, S, u, v, gx_lake (i := 5) hG (Or.inr rfl) hf.1.S6 ⟨u, v, by rw [show 5 - 3 = 2 from rfl, zN]; exact xput_i (by decide) h1, by rw [zN]; exact xput_e, by omega, by omega, by omega, by omega, fun m hm => by omega⟩, good_lake hf (Or.inr rfl) ⟨(upd_ne (by decide)).trans h4, by omega, upd_eq, by omega⟩⟩, fun q => ?_⟩
  rw [upd_ne (by decide), h4] at q
  have := nI_inj (by omega) (by decide) q
  omega
end
/-! a tree, a thing is told -/
def adF (f : Nat → Int32) (T : Nat) (a b c d : Int32) : Nat → Int32 := upd (upd (upd (upd (upd f (26 + 5 * T) a) (26 + 5 * T + 1) b) (26 + 5 * T + 2) c) (26 + 5 * T + 3) d) 0 (nI (T + 1))
def ahF (f : Nat → Int32) (S : Nat) (a b c : Int32) : Nat → Int32 := upd (upd (upd (upd f (56 + 3 * S) a) (56 + 3 * S + 1) b) (56 + 3 * S + 2) c) 1 (nI (S + 1))
section
variable {f : Nat → Int32} {T S F W : Nat} {a b c d : Int32}
theorem adF_o {i : Nat} (h0 : i ≠ 0) (h : i < 26 + 5 * T ∨ 26 + 5 * T + 4 ≤ i) : adF f T a b c d i = f i := by
  unfold adF
  rw [upd_ne h0, upd_ne (by omega), upd_ne (by omega), upd_ne (by omega), upd_ne (by omega)]
theorem adF_0 : adF f T a b c d 0 = nI (T + 1) := upd_eq
theorem adF_1 : adF f T a b c d (26 + 5 * T + 0) = a := by
  unfold adF
  rw [upd_ne (by omega), upd_ne (by omega), upd_ne (by omega), upd_ne (by omega)]; exact upd_eq
theorem adF_2 : adF f T a b c d (26 + 5 * T + 1) = b := by
  unfold adF
  rw [upd_ne (by omega), upd_ne (by omega), upd_ne (by omega)]; exact upd_eq
theorem adF_3 : adF f T a b c d (26 + 5 * T + 2) = c := by
  unfold adF
  rw [upd_ne (by omega), upd_ne (by omega)]; exact upd_eq
theorem adF_4 : adF f T a b c d (26 + 5 * T + 3) = d := by
  unfold adF
  rw [upd_ne (by omega)]; exact upd_eq
theorem ahF_o {i : Nat} (h0 : i ≠ 1) (h : i < 56 + 3 * S ∨ 56 + 3 * S + 3 ≤ i) : ahF f S a b c i = f i := by
  unfold ahF
  rw [upd_ne h0, upd_ne (by omega), upd_ne (by omega), upd_ne (by omega)]
theorem ahF_0 : ahF f S a b c 1 = nI (S + 1) := upd_eq
theorem ahF_1 : ahF f S a b c (56 + 3 * S) = a := by
  unfold ahF
  rw [upd_ne (by omega), upd_ne (by omega), upd_ne (by omega)]; exact upd_eq
theorem ahF_2 : ahF f S a b c (56 + 3 * S + 1) = b := by
  unfold ahF
  rw [upd_ne (by omega), upd_ne (by omega)]; exact upd_eq
theorem ahF_3 : ahF f S a b c (56 + 3 * S + 2) = c := by
  unfold ahF
  rw [upd_ne (by omega)]; exact upd_eq
theorem good_ad (h : goodF f T S F W) (hT : T < 6) {s hh cc : Nat} (ha : 1 ≤ a.toInt ∧ a.toInt ≤ 5) (hs : s < 20) (hn : ∀ u, u < T → f (26 + 5 * u + 1) ≠ nI s) (hh9 : hh ≤ 99) (hc : cc ≤ 9) : goodF (adF f T a (nI s) (nI hh) (nI cc)) (T + 1) S F W := by
  obtain ⟨hf, hb, h2, h3, h4⟩ := h
  have hS := hf.S6
  have lt : ∀ {u}, u < T + 1 → u = T ∨ u < T := fun h => by omega
  refine ⟨⟨⟨adF_0, ?_, hT, hS⟩, fun k hk => ?_, fun u hu => ?_, fun u hu => ?_, fun u x hu hx => ?_, fun k hk => ?_, ?_, ?_⟩, ⟨fun p hp => ?_, fun u hu => ?_, fun k hk => ?_, ?_⟩, ?_, ?_, fun u hu => ?_⟩
  · rw [adF_o (by omega) (by omega)]; exact hf.S0
  · have e : tsF (adF f T a (nI s) (nI hh) (nI cc)) k = tsF f k := by unfold tsF; rw [adF_o (by omega) (by omega)]
    rw [e, adF_o (by omega) (by omega)]; exact ⟨hf.ts hk, hf.ts9 hk⟩
  · rcases lt hu with rfl | hu
    · rw [adF_1]; exact ha
    · rw [adF_o (by omega) (by omega)]; exact hf.kd hu
  · rcases lt hu with rfl | hu
    · rw [adF_2]; exact ⟨s, hs, rfl⟩
    · rw [adF_o (by omega) (by omega)]; exact hf.st hu
  · rcases lt hu with rfl | hu <;> rcases lt hx with rfl | hx
    · exact fun _ => rfl
    · rw [adF_2, adF_o (by omega) (by omega)]; exact fun q => absurd q.symm (hn x hx)
    · rw [adF_2, adF_o (by omega) (by omega)]; exact fun q => absurd q (hn u hu)
    · rw [adF_o (by omega) (by omega), adF_o (by omega) (by omega)]; exact hf.ne hu hx
  · rw [adF_o (by omega) (by omega)]; exact hf.sh hk
  · rw [adF_o (by omega) (by omega)]; exact hf.wi
  · rw [adF_o (by omega) (by omega), adF_o (by omega) (by omega)]; exact hf.lk
  · rw [adF_o (by omega) (by omega)]; exact hb.1 p hp
  · rcases lt hu with rfl | hu
    · rw [adF_3, adF_4, adF_o (by omega) (by omega), h4 _ hT, nI_toInt (by omega), nI_toInt (by omega), nI_toInt (by omega)]
      omega
    · rw [adF_o (by omega) (by omega), adF_o (by omega) (by omega), adF_o (by omega) (by omega)]; exact hb.2.1 u hu
  · rw [adF_o (by omega) (by omega)]; exact hb.2.2.1 k hk
  · rw [adF_o (by omega) (by omega)]; exact hb.2.2.2
  · rw [adF_o (by omega) (by omega)]; exact h2
  · rw [adF_o (by omega) (by omega)]; exact h3
  · rw [adF_o (by omega) (by omega)]; exact h4 u hu
theorem good_ah (h : goodF f T S F W) (hS : S < 6) {s hh : Nat} (hs : s ≤ 19) (hh9 : hh ≤ 99) (hc : c.toInt = 0 ∨ c.toInt = 1) : goodF (ahF f S (nI s) (nI hh) c) T (S + 1) F W := by
  obtain ⟨hf, hb, h2, h3, h4⟩ := h
  have hT := hf.T6
  have lt : ∀ {u}, u < S + 1 → u = S ∨ u < S := fun h => by omega
  have e0 : tsF (ahF f S (nI s) (nI hh) c) S = s := by
    unfold tsF
    first
      | (rw [ahF_1, nI_toInt (by omega)]; omega)
      | (rw [ahF_1]; rw [nI_toInt (by omega)]; rfl)
  refine ⟨⟨⟨?_, ahF_0, hT, hS⟩, fun k hk => ?_, fun u hu => ?_, fun u hu => ?_, fun u x hu hx => ?_, fun k hk => ?_, ?_, ?_⟩, ⟨fun p hp => ?_, fun u hu => ?_, fun k hk => ?_, ?_⟩, ?_, ?_, fun u hu => ?_⟩
  · rw [ahF_o (by omega) (by omega)]; exact hf.T0
  · rcases lt hk with rfl | hk
    · rw [e0, ahF_1]; exact ⟨rfl, hs⟩
    · have e : tsF (ahF f S (nI s) (nI hh) c) k = tsF f k := by unfold tsF; rw [ahF_o (by omega) (by omega)]
      rw [e, ahF_o (by omega) (by omega)]; exact ⟨hf.ts hk, hf.ts9 hk⟩
  · rw [ahF_o (by omega) (by omega)]; exact hf.kd hu
  · rw [ahF_o (by omega) (by omega)]; exact hf.st hu
  · rw [ahF_o (by omega) (by omega), ahF_o (by omega) (by omega)]; exact hf.ne hu hx
  · rcases lt hk with rfl | hk
    · rw [ahF_3]; exact hc
    · rw [ahF_o (by omega) (by omega)]; exact hf.sh hk
  · rw [ahF_o (by omega) (by omega)]; exact hf.wi
  · rw [ahF_o (by omega) (by omega), ahF_o (by omega) (by omega)]; exact hf.lk
  · rw [ahF_o (by omega) (by omega)]; exact hb.1 p hp
  · rw [ahF_o (by omega) (by omega), ahF_o (by omega) (by omega), ahF_o (by omega) (by omega)]; exact hb.2.1 u hu
  · rcases lt hk with rfl | hk
    · rw [ahF_2, nI_toInt (by omega)]; omega
    · rw [ahF_o (by omega) (by omega)]; exact hb.2.2.1 k hk
  · rw [ahF_o (by omega) (by omega)]; exact hb.2.2.2
  · rw [ahF_o (by omega) (by omega)]; exact h2
  · rw [ahF_o (by omega) (by omega)]; exact h3
  · rw [ahF_o (by omega) (by omega)]; exact h4 u hu
end
/-- the memory with a tree, a thing more -/
def adM (J : xM) (g T : Nat) (a b c d : Int32) : xM := xput (xput (xput (xput (xput (xput J (g + 2) T a) (g + 3) T b) (g + 4) T c) (g + 5) T d) (g + 6) T (nI 0)) g 3 (nI (T + 1))
def ahM (J : xM) (g S : Nat) (a b c : Int32) : xM := xput (xput (xput (xput J (g + 7) S a) (g + 8) S b) (g + 9) S c) g 9 (nI (S + 1))
section
variable {tp : Nat → Nat} {n g : Nat} {B J : xM} {t : xT} {f : Nat → Int32} {T S F W : Nat} {a b c d : Int32}
theorem adM_o {o : Nat} (h : o ≠ g) (h2 : o < g + 2 ∨ g + 6 < o) : adM J g T a b c d o = J o := by
  unfold adM
  rw [xput_ne h, xput_ne (by omega), xput_ne (by omega), xput_ne (by omega), xput_ne (by omega), xput_ne (by omega)]
theorem adM_g {j : Nat} (h : j ≠ 3) : adM J g T a b c d g j = J g j := by
  unfold adM
  exact xput_i h (xput_o (by omega) (xput_o (by omega) (xput_o (by omega) (xput_o (by omega) (xput_o (by omega) rfl)))))
theorem ahM_o {o : Nat} (h : o ≠ g) (h2 : o < g + 7 ∨ g + 9 < o) : ahM J g S a b c o = J o := by
  unfold ahM
  rw [xput_ne h, xput_ne (by omega), xput_ne (by omega), xput_ne (by omega)]
theorem ahM_g {j : Nat} (h : j ≠ 9) : ahM J g S a b c g j = J g j := by
  unfold ahM
  exact xput_i h (xput_o (by omega) (xput_o (by omega) (xput_o (by omega) rfl)))
theorem gx_ad (hG : GX J g f T S F W) (hT : T < 6) (hS : S ≤ 6) (h4 : f (26 + 5 * T + 4) = nI 0) : GX (adM J g T a b c d) g (adF f T a b c d) (T + 1) S F W := by
  have lt : ∀ {u}, u < T + 1 → u = T ∨ u < T := fun h => by omega
  refine ⟨⟨xput_e, (adM_g (by decide)).trans hG.th, ?_, ?_⟩, fun p hp => ?_, fun u hu => ?_, fun k hk => ⟨?_, ?_, ?_⟩, ?_⟩
  · rw [adF_o (by omega) (by omega)]; exact (adM_g (by decide)).trans hG.ye
  · rw [adF_o (by omega) (by omega)]; exact (adM_g (by decide)).trans hG.wi
  · rw [adF_o (by omega) (by omega), adM_o (by omega) (by omega)]; exact hG.gr hp
  · rcases lt hu with rfl | hu
    · rw [adF_1, adF_2, adF_3, adF_4, adF_o (by omega) (by omega), h4]
      unfold adM
      exact ⟨xput_o (by omega) (xput_o (by omega) (xput_o (by omega) (xput_o (by omega) (xput_o (by omega) xput_e)))), xput_o (by omega) (xput_o (by omega) (xput_o (by omega) (xput_o (by omega) xput_e))), xput_o (by omega) (xput_o (by omega) (xput_o (by omega) xput_e)), xput_o (by omega) (xput_o (by omega) xput_e), xput_o (by omega) xput_e⟩
    · rw [adF_o (by omega) (by omega), adF_o (by omega) (by omega), adF_o (by omega) (by omega), adF_o (by omega) (by omega), adF_o (by omega) (by omega)]
      unfold adM
      exact ⟨xput_o (by omega) (xput_o (by omega) (xput_o (by omega) (xput_o (by omega) (xput_o (by omega) (xput_i (by omega) (hG.k0 hu)))))), xput_o (by omega) (xput_o (by omega) (xput_o (by omega) (xput_o (by omega) (xput_i (by omega) (xput_o (by omega) (hG.k1 hu)))))), xput_o (by omega) (xput_o (by omega) (xput_o (by omega) (xput_i (by omega) (xput_o (by omega) (xput_o (by omega) (hG.k2 hu)))))), xput_o (by omega) (xput_o (by omega) (xput_i (by omega) (xput_o (by omega) (xput_o (by omega) (xput_o (by omega) (hG.k3 hu)))))), xput_o (by omega) (xput_i (by omega) (xput_o (by omega) (xput_o (by omega) (xput_o (by omega) (xput_o (by omega) (hG.k4 hu))))))⟩
  · rw [adF_o (by omega) (by omega), adM_o (by omega) (by omega)]; exact hG.s0 hk
  · rw [adF_o (by omega) (by omega), adM_o (by omega) (by omega)]; exact hG.s1 hk
  · rw [adF_o (by omega) (by omega), adM_o (by omega) (by omega)]; exact hG.s2 hk
  · obtain ⟨x, y, e1, e2, r⟩ := hG.la
    exact ⟨x, y, (adM_g (by decide)).trans e1, (adM_g (by decide)).trans e2, r⟩
theorem gx_ah (hG : GX J g f T S F W) (hS : S < 6) (hT : T ≤ 6) : GX (ahM J g S a b c) g (ahF f S a b c) T (S + 1) F W := by
  have lt : ∀ {u}, u < S + 1 → u = S ∨ u < S := fun h => by omega
  refine ⟨⟨(ahM_g (by decide)).trans hG.tr, xput_e, ?_, ?_⟩, fun p hp => ?_, fun u hu => ⟨?_, ?_, ?_, ?_, ?_⟩, fun k hk => ?_, ?_⟩
  · rw [ahF_o (by omega) (by omega)]; exact (ahM_g (by decide)).trans hG.ye
  · rw [ahF_o (by omega) (by omega)]; exact (ahM_g (by decide)).trans hG.wi
  · rw [ahF_o (by omega) (by omega), ahM_o (by omega) (by omega)]; exact hG.gr hp
  · rw [ahF_o (by omega) (by omega), ahM_o (by omega) (by omega)]; exact hG.k0 hu
  · rw [ahF_o (by omega) (by omega), ahM_o (by omega) (by omega)]; exact hG.k1 hu
  · rw [ahF_o (by omega) (by omega), ahM_o (by omega) (by omega)]; exact hG.k2 hu
  · rw [ahF_o (by omega) (by omega), ahM_o (by omega) (by omega)]; exact hG.k3 hu
  · rw [ahF_o (by omega) (by omega), ahM_o (by omega) (by omega)]; exact hG.k4 hu
  · rcases lt hk with rfl | hk
    · rw [ahF_1, ahF_2, ahF_3]
      unfold ahM
      exact ⟨xput_o (by omega) (xput_o (by omega) (xput_o (by omega) xput_e)), xput_o (by omega) (xput_o (by omega) xput_e), xput_o (by omega) xput_e⟩
    · rw [ahF_o (by omega) (by omega), ahF_o (by omega) (by omega), ahF_o (by omega) (by omega)]
      unfold ahM
      exact ⟨xput_o (by omega) (xput_o (by omega) (xput_o (by omega) (xput_i (by omega) (hG.s0 hk)))), xput_o (by omega) (xput_o (by omega) (xput_i (by omega) (xput_o (by omega) (hG.s1 hk)))), xput_o (by omega) (xput_i (by omega) (xput_o (by omega) (xput_o (by omega) (hG.s2 hk))))⟩
  · obtain ⟨x, y, e1, e2, r⟩ := hG.la
    exact ⟨x, y, (ahM_g (by decide)).trans e1, (ahM_g (by decide)).trans e2, r⟩
theorem ok_ad (hg : 8 ≤ g) (h : cOK tp n g B J t f) (h0 : f 0 = nI T) (hT : T < 6) {s hh cc : Nat} (ha : 1 ≤ a.toInt ∧ a.toInt ≤ 5) (hs : s < 20) (hn : ∀ u, u < T → f (26 + 5 * u + 1) ≠ nI s) (hh9 : hh ≤ 99) (hc9 : cc ≤ 9) : cOK tp n g B (adM J g T a (nI s) (nI hh) (nI cc)) t (adF f T a (nI s) (nI hh) (nI cc)) := by
  obtain ⟨hc, hw, hx, ⟨T', S, F, W, hG, hf⟩, hl⟩ := h
  obtain rfl : T = T' := nI_inj (by omega) (by have := hf.1.T6; omega) (h0.symm.trans hf.1.T0)
  have hS6 := hf.1.S6
  refine ⟨⟨fun o h1 h2 => (adM_o (by omega) (by omega)).trans (hc.1 o h1 h2), fun j hj => (congrFun (adM_o (by omega) (by omega)) j).trans (hc.2.1 j hj), ⟨fun k hk => ?_, ?_⟩⟩, hw, ?_, ⟨T + 1, S, F, W, gx_ad hG hT hS6 (hf.2.2.2.2 T hT), good_ad hf hT ha hs hn hh9 hc9⟩, ?_⟩
  · rw [adM_o (by omega) (by omega)]; exact hc.2.2.1 k hk
  · rw [adM_g (by decide)]; exact hc.2.2.2
  · unfold cxT; rw [adM_o (by omega) (by omega)]; exact hx
  · rw [adF_o (by omega) (by omega), adF_o (by omega) (by omega), adM_g (by decide)]; exact hl
theorem ok_ah (hg : 8 ≤ g) (h : cOK tp n g B J t f) (h0 : f 1 = nI S) (hS : S < 6) {s hh : Nat} {Q : Prop} (hs : s ≤ 19) (hh9 : hh ≤ 99) : cOK tp n g B (ahM J g S (nI s) (nI hh) (xb Q)) t (ahF f S (nI s) (nI hh) (xb Q)) := by
  obtain ⟨hc, hw, hx, ⟨T, S', F, W, hG, hf⟩, hl⟩ := h
  obtain rfl : S = S' := nI_inj (by omega) (by have := hf.1.S6; omega) (h0.symm.trans hf.1.S0)
  have hT6 := hf.1.T6
  refine ⟨⟨fun o h1 h2 => (ahM_o (by omega) (by omega)).trans (hc.1 o h1 h2), fun j hj => (congrFun (ahM_o (by omega) (by omega)) j).trans (hc.2.1 j hj), ⟨fun k hk => ?_, ?_⟩⟩, hw, ?_, ⟨T, S + 1, F, W, gx_ah hG hS hT6, good_ah hf hS hs hh9 ?_⟩, ?_⟩
  · unfold ahM
    rw [xput_ne (by omega)]
    by_cases e : k = S
    · subst e; rw [xput_e]; exact xb_fit
    · rw [xput_i (w := J (g + 9) k) e ((congrFun (xput_ne (by omega)) k).trans (congrFun (xput_ne (by omega)) k))]; exact hc.2.2.1 k hk
  · rw [ahM_g (by decide)]; exact hc.2.2.2
  · unfold cxT; rw [ahM_o (by omega) (by omega)]; exact hx
  · rcases xb_or Q with ⟨-, e⟩ | ⟨-, e⟩ <;> rw [e]
    · first | exact Or.inr rfl | exact Or.inl rfl
    · first | exact Or.inl rfl | exact Or.inr rfl
  · rw [ahF_o (by omega) (by omega), ahF_o (by omega) (by omega), ahM_g (by decide)]; exact hl
end
