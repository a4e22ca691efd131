theorem c_X1_refuse (l : Launch) {nw sp : Nat} {I : xM} {tp : Nat → Nat} {n g : Nat} {B : xM} {t : xT} {f : Nat → Int32} {k : Nat} (hB : cbP B tp n) (hg : xG g) (hc : cOK tp n g B I t f) : xC l 1 0 0 yX1_refuse cX1_refuse 2 (some .boolean) 319 [.ref 2, .int (nI k)] I (xRL nw sp) (xpR 319 (xRL nw sp) (fun x J => x = nI 0 ∧ cNO g B J (k, t.2.1))) := by
  refine xC_of (by decide) (Nat.le_of_ble_eq_true rfl) (fun X hXl hX hR => ?_)
  have hX : xOK X RX1 cX1_refuse 2 1 0 0 := hX
  show G X 319 0 0 I (xRL nw sp) 0 [(0, .ref 2), (1, .int (nI k))] []
  have hg8 := xG_8 hg
  have hg9 := hg8.1
  have ht := cc_tape hg9 hc.1 hB
  have htw := hc.2.1
  have htx := hc.2.2.1
  refine g_aload_n hX dX1_refuse_0 rfl 0 rfl ?_
  refine g_iload_n hX dX1_refuse_1 rfl 1 rfl ?_
  refine g_putI hX (by decide) (by decide) xCl1 6 (by decide) (by decide) (by decide) kX1_31 dX1_refuse_2 rfl rfl ?_
  refine g_aload_n hX dX1_refuse_5 rfl 0 rfl ?_
  refine g_aload_n hX dX1_refuse_6 rfl 0 rfl ?_
  refine g_getI (v := nI t.2.1) hX (by decide) (by decide) xCl1 2 (by decide) (by decide) kX1_19 dX1_refuse_7 (xput_i (by decide) (hc.2.2.1.1)) ?_
  refine g_putI hX (by decide) (by decide) xCl1 7 (by decide) (by decide) (by decide) kX1_34 dX1_refuse_10 rfl rfl ?_
  refine g_iconst (v := nI 0) hX dX1_refuse_13 (by decide) ?_
  exact g_zret hX hR dX1_refuse_14 (by decide) (by decide) (by decide) ⟨_, rfl, rfl, ⟨rfl, ok_ref hg9 hc⟩, rfl⟩

theorem c_X1_isNumber (l : Launch) {nw sp : Nat} {I : xM} {tp : Nat → Nat} {n g : Nat} {B : xM} {t : xT} {f : Nat → Int32} {lo hi : Nat} (hB : cbP B tp n) (hg : xG g) (hc : cOK tp n g B I t f) (hlo : lo ≤ 1000) (hhi : hi ≤ 1000) : xC l 2 0 0 yX1_isNumber cX1_isNumber 3 (some .boolean) 319 [.ref 2, .int (nI lo), .int (nI hi)] I (xRL nw sp) (xpR 319 (xRL nw sp) (fun x J => cN tp n g B I lo hi x J (.inr (t, f)))) := by
  refine xC_of (by decide) (Nat.le_of_ble_eq_true rfl) (fun X hXl hX hR => ?_)
  have hX : xOK X RX1 cX1_isNumber 3 2 0 0 := hX
  show G X 319 0 0 I (xRL nw sp) 0 [(0, .ref 2), (1, .int (nI lo)), (2, .int (nI hi))] []
  have hg8 := xG_8 hg
  have hg9 := hg8.1
  have ht := cc_tape hg9 hc.1 hB
  have htw := hc.2.1
  have htx := hc.2.2.1
  have hw3 := htw.2.2.1
  have hfl := fig_le (f := f) htw
  refine g_aload_n hX dX1_isNumber_0 rfl 0 rfl ?_
  refine g_getI (v := nI t.1) hX (by decide) (by decide) xCl1 4 (by decide) (by decide) kX1_25 dX1_isNumber_1 (hc.2.2.1.2.2.1) ?_
  refine g_iconst (v := nI 2) hX dX1_isNumber_4 (by decide) ?_
  refine g_ci_eq (a := ((t.1 : Nat) : Int)) (b := (2 : Int)) (tgt := 14) hX dX1_isNumber_5 (by decide) (nI_toInt (by omega)) (by decide) (fun h5 => ?_) (fun h5 => ?_)
  · refine g_aload_n hX dX1_isNumber_14 rfl 0 rfl ?_
    refine g_getI (v := nI (figR tp (.inr (t, f)))) hX (by decide) (by decide) xCl1 5 (by decide) (by decide) kX1_28 dX1_isNumber_15 (fig_v hc.2.2.1 (by omega)) ?_
    refine g_iload_n hX dX1_isNumber_18 rfl 1 rfl ?_
    refine g_ci_lt (a := ((figR tp (.inr (t, f)) : Nat) : Int)) (b := ((lo : Nat) : Int)) (tgt := 30) hX dX1_isNumber_19 (by decide) (nI_toInt (by omega)) (nI_toInt (by omega)) (fun h19 => ?_) (fun h19 => ?_)
    · refine g_aload_n hX dX1_isNumber_30 rfl 0 rfl ?_
      refine g_iconst (v := nI 2) hX dX1_isNumber_31 (by decide) ?_
      refine g_callVr hX (as := [.int (nI 2)]) (fun l => c_X1_refuse l (I := I) (tp := tp) (n := n) (g := g) (B := B) (t := t) (f := f) (k := 2) (hB := hB) (hg := (by first | assumption | omega)) (hc := hc)) mX1_refuse vX1_refuse lX1_68 (by decide) (by decide) xCl1 rfl rfl dX1_isNumber_32 rfl (by decide) (Nat.le_of_ble_eq_true rfl) (by decide) (by decide) (fun xK K h1 => ?_)
      obtain ⟨rfl, h1⟩ := h1
      refine g_cz_eq (a := (0 : Int)) (tgt := 42) hX dX1_isNumber_35 (by decide) (by decide) (fun _ => ?_) (fun q => absurd q (by decide))
      refine g_iconst (v := nI 0) hX dX1_isNumber_42 (by decide) ?_
      exact g_zret hX hR dX1_isNumber_43 (by decide) (by decide) (by decide) ⟨_, rfl, rfl, (by first | exact Or.inl ⟨rfl, ⟨(show t.1 = 2 by omega), by omega, by omega⟩, rfl⟩ | exact Or.inr ⟨rfl, (fun q => by have q2 : lo ≤ figR tp (.inr (t, f)) := q.2.1; have q3 : figR tp (.inr (t, f)) ≤ hi := q.2.2; omega), (2, t.2.1), (num_2 (fun q => by have q2 : lo ≤ figR tp (.inr (t, f)) := q.2.1; have q3 : figR tp (.inr (t, f)) ≤ hi := q.2.2; omega) (show t.1 = 2 by omega)), h1⟩), rfl⟩
    · refine g_aload_n hX dX1_isNumber_22 rfl 0 rfl ?_
      refine g_getI (v := nI (figR tp (.inr (t, f)))) hX (by decide) (by decide) xCl1 5 (by decide) (by decide) kX1_28 dX1_isNumber_23 (fig_v hc.2.2.1 (by omega)) ?_
      refine g_iload_n hX dX1_isNumber_26 rfl 2 rfl ?_
      refine g_ci_le (a := ((figR tp (.inr (t, f)) : Nat) : Int)) (b := ((hi : Nat) : Int)) (tgt := 38) hX dX1_isNumber_27 (by decide) (nI_toInt (by omega)) (nI_toInt (by omega)) (fun h27 => ?_) (fun h27 => ?_)
      · refine g_iconst (v := nI 1) hX dX1_isNumber_38 (by decide) ?_
        refine g_goto (tgt := 43) hX dX1_isNumber_39 (by decide) ?_
        exact g_zret hX hR dX1_isNumber_43 (by decide) (by decide) (by decide) ⟨_, rfl, rfl, (by first | exact Or.inl ⟨rfl, ⟨(show t.1 = 2 by omega), by omega, by omega⟩, rfl⟩ | exact Or.inr ⟨rfl, (fun q => by have q2 : lo ≤ figR tp (.inr (t, f)) := q.2.1; have q3 : figR tp (.inr (t, f)) ≤ hi := q.2.2; omega), (2, t.2.1), (num_2 (fun q => by have q2 : lo ≤ figR tp (.inr (t, f)) := q.2.1; have q3 : figR tp (.inr (t, f)) ≤ hi := q.2.2; omega) (show t.1 = 2 by omega)), h1⟩), rfl⟩
      · refine g_aload_n hX dX1_isNumber_30 rfl 0 rfl ?_
        refine g_iconst (v := nI 2) hX dX1_isNumber_31 (by decide) ?_
        refine g_callVr hX (as := [.int (nI 2)]) (fun l => c_X1_refuse l (I := I) (tp := tp) (n := n) (g := g) (B := B) (t := t) (f := f) (k := 2) (hB := hB) (hg := (by first | assumption | omega)) (hc := hc)) mX1_refuse vX1_refuse lX1_68 (by decide) (by decide) xCl1 rfl rfl dX1_isNumber_32 rfl (by decide) (Nat.le_of_ble_eq_true rfl) (by decide) (by decide) (fun xK K h1 => ?_)
        obtain ⟨rfl, h1⟩ := h1
        refine g_cz_eq (a := (0 : Int)) (tgt := 42) hX dX1_isNumber_35 (by decide) (by decide) (fun _ => ?_) (fun q => absurd q (by decide))
        refine g_iconst (v := nI 0) hX dX1_isNumber_42 (by decide) ?_
        exact g_zret hX hR dX1_isNumber_43 (by decide) (by decide) (by decide) ⟨_, rfl, rfl, (by first | exact Or.inl ⟨rfl, ⟨(show t.1 = 2 by omega), by omega, by omega⟩, rfl⟩ | exact Or.inr ⟨rfl, (fun q => by have q2 : lo ≤ figR tp (.inr (t, f)) := q.2.1; have q3 : figR tp (.inr (t, f)) ≤ hi := q.2.2; omega), (2, t.2.1), (num_2 (fun q => by have q2 : lo ≤ figR tp (.inr (t, f)) := q.2.1; have q3 : figR tp (.inr (t, f)) ≤ hi := q.2.2; omega) (show t.1 = 2 by omega)), h1⟩), rfl⟩
  · refine g_aload_n hX dX1_isNumber_8 rfl 0 rfl ?_
    refine g_iconst (v := nI 1) hX dX1_isNumber_9 (by decide) ?_
    refine g_callVr hX (as := [.int (nI 1)]) (fun l => c_X1_refuse l (I := I) (tp := tp) (n := n) (g := g) (B := B) (t := t) (f := f) (k := 1) (hB := hB) (hg := (by first | assumption | omega)) (hc := hc)) mX1_refuse vX1_refuse lX1_68 (by decide) (by decide) xCl1 rfl rfl dX1_isNumber_10 rfl (by decide) (Nat.le_of_ble_eq_true rfl) (by decide) (by decide) (fun xK K h1 => ?_)
    obtain ⟨rfl, h1⟩ := h1
    exact g_zret hX hR dX1_isNumber_13 (by decide) (by decide) (by decide) ⟨_, rfl, rfl, (Or.inr ⟨rfl, (fun q => h5 (by have q1 : t.1 = 2 := q.1; omega)), (1, t.2.1), (num_1 (fun q => h5 (by have q1 : t.1 = 2 := q; omega))), h1⟩), rfl⟩

theorem c_X1_pass (l : Launch) {nw sp : Nat} {I : xM} {tp : Nat → Nat} {n g : Nat} {B : xM} {t : xT} {f : Nat → Int32} (hB : cbP B tp n) (hg : xG g) (hc : cOK tp n g B I t f) (h2 : t.1 = 2) : xC l 4 0 0 yX1_pass cX1_pass 2 (some .int) 319 [.ref 2] I (xRL nw sp) (xpR 319 (xRL nw sp) (fun x J => x = nI (figR tp (.inr (t, f))) ∧ cxJ tp I J (lx tp n t.2.2))) := by
  refine xC_of (by decide) (Nat.le_of_ble_eq_true rfl) (fun X hXl hX hR => ?_)
  have hX : xOK X RX1 cX1_pass 2 4 0 0 := hX
  show G X 319 0 0 I (xRL nw sp) 0 [(0, .ref 2)] []
  have hg8 := xG_8 hg
  have hg9 := hg8.1
  have ht := cc_tape hg9 hc.1 hB
  have htw := hc.2.1
  have htx := hc.2.2.1
  refine g_aload_n hX dX1_pass_0 rfl 0 rfl ?_
  refine g_getI (v := nI (figR tp (.inr (t, f)))) hX (by decide) (by decide) xCl1 5 (by decide) (by decide) kX1_28 dX1_pass_1 (fig_v hc.2.2.1 h2) ?_
  refine g_istore_n (L' := [(0, .ref 2), (1, .int (nI (figR tp (.inr (t, f)))))]) hX dX1_pass_4 rfl (by decide) rfl ?_
  refine g_aload_n hX dX1_pass_5 rfl 0 rfl ?_
  refine g_callVrv hX (as := []) (fun l => c_X1_advance l (I := I) (tp := tp) (n := n) (p0 := t.2.2) (ht := (cc_tape hg9 hc.1 hB)) (hp0 := hc.2.1.2.1) (hc0 := hc.2.2.1.2.1)) mX1_advance vX1_advance lX1_42 (by decide) (by decide) xCl1 rfl rfl dX1_pass_6 rfl (by decide) (Nat.le_of_ble_eq_true rfl) (by decide) (by decide) (fun K hK => ?_)
  refine g_iload_n hX dX1_pass_9 rfl 1 rfl ?_
  exact g_iret hX hR dX1_pass_10 (by decide) (by decide) ⟨_, rfl, rfl, ⟨rfl, hK⟩, rfl⟩

theorem c_X1_passSign (l : Launch) {nw sp : Nat} {I : xM} {tp : Nat → Nat} {n g : Nat} {B : xM} {t : xT} {f : Nat → Int32} (hB : cbP B tp n) (hg : xG g) (hc : cOK tp n g B I t f) : xC l 4 0 0 yX1_passSign cX1_passSign 1 (some .boolean) 319 [.ref 2] I (xRL nw sp) (xpR 319 (xRL nw sp) (fun x J => cR tp n g B x J (sgnR tp n (.inr (t, f))))) := by
  refine xC_of (by decide) (Nat.le_of_ble_eq_true rfl) (fun X hXl hX hR => ?_)
  have hX : xOK X RX1 cX1_passSign 1 4 0 0 := hX
  show G X 319 0 0 I (xRL nw sp) 0 [(0, .ref 2)] []
  have hg8 := xG_8 hg
  have hg9 := hg8.1
  have ht := cc_tape hg9 hc.1 hB
  have htw := hc.2.1
  have htx := hc.2.2.1
  have hw3 := htw.2.2.1
  refine g_aload_n hX dX1_passSign_0 rfl 0 rfl ?_
  refine g_getI (v := nI t.1) hX (by decide) (by decide) xCl1 4 (by decide) (by decide) kX1_25 dX1_passSign_1 (hc.2.2.1.2.2.1) ?_
  refine g_iconst (v := nI 3) hX dX1_passSign_4 (by decide) ?_
  refine g_ci_eq (a := ((t.1 : Nat) : Int)) (b := (3 : Int)) (tgt := 14) hX dX1_passSign_5 (by decide) (nI_toInt (by omega)) (by decide) (fun h5 => ?_) (fun h5 => ?_)
  · refine g_aload_n hX dX1_passSign_14 rfl 0 rfl ?_
    refine g_callVrv hX (as := []) (fun l => c_X1_advance l (I := I) (tp := tp) (n := n) (p0 := t.2.2) (ht := (cc_tape hg9 hc.1 hB)) (hp0 := hc.2.1.2.1) (hc0 := hc.2.2.1.2.1)) mX1_advance vX1_advance lX1_42 (by decide) (by decide) xCl1 rfl rfl dX1_passSign_15 rfl (by decide) (Nat.le_of_ble_eq_true rfl) (by decide) (by decide) (fun K hK => ?_)
    refine g_iconst (v := nI 1) hX dX1_passSign_18 (by decide) ?_
    exact g_zret hX hR dX1_passSign_19 (by decide) (by decide) (by decide) ⟨_, rfl, rfl, (cR_ok (sgn_y (r := (.inr (t, f))) (show t.1 = 3 by omega)) (ok_adv hg9 hc hK)), rfl⟩
  · refine g_aload_n hX dX1_passSign_8 rfl 0 rfl ?_
    refine g_iconst (v := nI 1) hX dX1_passSign_9 (by decide) ?_
    refine g_callVr hX (as := [.int (nI 1)]) (fun l => c_X1_refuse l (I := I) (tp := tp) (n := n) (g := g) (B := B) (t := t) (f := f) (k := 1) (hB := hB) (hg := (by first | assumption | omega)) (hc := hc)) mX1_refuse vX1_refuse lX1_68 (by decide) (by decide) xCl1 rfl rfl dX1_passSign_10 rfl (by decide) (Nat.le_of_ble_eq_true rfl) (by decide) (by decide) (fun xK K h1 => ?_)
    obtain ⟨rfl, h1⟩ := h1
    exact g_zret hX hR dX1_passSign_13 (by decide) (by decide) (by decide) ⟨_, rfl, rfl, (cR_bad (sgn_n (fun q => h5 (by have q1 : t.1 = 3 := q; omega))) h1), rfl⟩

theorem c_X1_passWord (l : Launch) {nw sp : Nat} {I : xM} {tp : Nat → Nat} {n g : Nat} {B : xM} {t : xT} {f : Nat → Int32} {k : Nat} (hB : cbP B tp n) (hg : xG g) (hc : cOK tp n g B I t f) (hk : k < 11) : xC l 6 0 0 yX1_passWord cX1_passWord 2 (some .boolean) 319 [.ref 2, .ref (2000000 + k)] I (xRL nw sp) (xpR 319 (xRL nw sp) (fun x J => cR tp n g B x J (wrdR tp n (wlist k) (.inr (t, f))))) := by
  refine xC_of (by decide) (Nat.le_of_ble_eq_true rfl) (fun X hXl hX hR => ?_)
  have hX : xOK X RX1 cX1_passWord 2 6 0 0 := hX
  show G X 319 0 0 I (xRL nw sp) 0 [(0, .ref 2), (1, .ref (2000000 + k))] []
  have hg8 := xG_8 hg
  have hg9 := hg8.1
  have ht := cc_tape hg9 hc.1 hB
  have htw := hc.2.1
  have htx := hc.2.2.1
  refine g_aload_n hX dX1_passWord_0 rfl 0 rfl ?_
  refine g_aload_n hX dX1_passWord_1 rfl 1 rfl ?_
  refine g_callVi hX (as := [.ref (2000000 + k)]) (fun l => c_X1_isWord l (I := I) (tp := tp) (n := n) (k := k) (t := t) (ht := ht) (hk := hk) (htw := htw) (htx := htx)) mX1_isWord vX1_isWord lX1_51 (by decide) (by decide) xCl1 rfl rfl dX1_passWord_2 rfl (by decide) (Nat.le_of_ble_eq_true rfl) (by decide) (by decide) ?_
  refine g_cb_ne (tgt := 14) hX dX1_passWord_5 (by decide) (fun h5 => ?_) (fun h5 => ?_)
  · refine g_aload_n hX dX1_passWord_14 rfl 0 rfl ?_
    refine g_callVrv hX (as := []) (fun l => c_X1_advance l (I := I) (tp := tp) (n := n) (p0 := t.2.2) (ht := (cc_tape hg9 hc.1 hB)) (hp0 := hc.2.1.2.1) (hc0 := hc.2.2.1.2.1)) mX1_advance vX1_advance lX1_42 (by decide) (by decide) xCl1 rfl rfl dX1_passWord_15 rfl (by decide) (Nat.le_of_ble_eq_true rfl) (by decide) (by decide) (fun K hK => ?_)
    refine g_iconst (v := nI 1) hX dX1_passWord_18 (by decide) ?_
    exact g_zret hX hR dX1_passWord_19 (by decide) (by decide) (by decide) ⟨_, rfl, rfl, (cR_ok (wrd_y (r := (.inr (t, f))) h5) (ok_adv hg9 hc hK)), rfl⟩
  · refine g_aload_n hX dX1_passWord_8 rfl 0 rfl ?_
    refine g_iconst (v := nI 1) hX dX1_passWord_9 (by decide) ?_
    refine g_callVr hX (as := [.int (nI 1)]) (fun l => c_X1_refuse l (I := I) (tp := tp) (n := n) (g := g) (B := B) (t := t) (f := f) (k := 1) (hB := hB) (hg := (by first | assumption | omega)) (hc := hc)) mX1_refuse vX1_refuse lX1_68 (by decide) (by decide) xCl1 rfl rfl dX1_passWord_10 rfl (by decide) (Nat.le_of_ble_eq_true rfl) (by decide) (by decide) (fun xK K h1 => ?_)
    obtain ⟨rfl, h1⟩ := h1
    exact g_zret hX hR dX1_passWord_13 (by decide) (by decide) (by decide) ⟨_, rfl, rfl, (cR_bad (wrd_n (fun q => h5 q)) h1), rfl⟩

theorem c_X1_sortTold (l : Launch) {nw sp : Nat} {I : xM} {tp : Nat → Nat} {n g : Nat} {B : xM} {t : xT} {f : Nat → Int32} (hB : cbP B tp n) (hg : xG g) (hc : cOK tp n g B I t f) : xC l 6 0 0 yX1_sortTold cX1_sortTold 1 (some .int) 319 [.ref 2] I (xRL nw sp) (xpI (kbV (nmV tp (.inr (t, f)))) 319 I (xRL nw sp)) := by
  refine xC_of (by decide) (Nat.le_of_ble_eq_true rfl) (fun X hXl hX hR => ?_)
  have hX : xOK X RX1 cX1_sortTold 1 6 0 0 := hX
  show G X 319 0 0 I (xRL nw sp) 0 [(0, .ref 2)] []
  have hg8 := xG_8 hg
  have hg9 := hg8.1
  have ht := cc_tape hg9 hc.1 hB
  have htw := hc.2.1
  have htx := hc.2.2.1
  have a0 := nm_Ash (n := n) (r := (.inr (t, f))) htw
  have a1 := nm_Yew (n := n) (r := (.inr (t, f))) htw
  have a2 := nm_Oak (n := n) (r := (.inr (t, f))) htw
  have a3 := nm_Hedge (n := n) (r := (.inr (t, f))) htw
  have a4 := nm_False (n := n) (r := (.inr (t, f))) htw
  refine g_aload_n hX dX1_sortTold_0 rfl 0 rfl ?_
  refine g_ldcS 3 hX rfl (by decide) dX1_sortTold_1 rfl ?_
  refine g_callVi hX (as := [.ref (2000000 + 3)]) (fun l => c_X1_isWord l (I := I) (tp := tp) (n := n) (k := 3) (t := t) (ht := ht) (hk := (by decide)) (htw := htw) (htx := htx)) mX1_isWord vX1_isWord lX1_51 (by decide) (by decide) xCl1 rfl rfl dX1_sortTold_3 rfl (by decide) (Nat.le_of_ble_eq_true rfl) (by decide) (by decide) ?_
  refine g_cb_eq (tgt := 11) hX dX1_sortTold_6 (by decide) (fun h6 => ?_) (fun h6 => ?_)
  · refine g_aload_n hX dX1_sortTold_11 rfl 0 rfl ?_
    refine g_ldcS 4 hX rfl (by decide) dX1_sortTold_12 rfl ?_
    refine g_callVi hX (as := [.ref (2000000 + 4)]) (fun l => c_X1_isWord l (I := I) (tp := tp) (n := n) (k := 4) (t := t) (ht := ht) (hk := (by decide)) (htw := htw) (htx := htx)) mX1_isWord vX1_isWord lX1_51 (by decide) (by decide) xCl1 rfl rfl dX1_sortTold_14 rfl (by decide) (Nat.le_of_ble_eq_true rfl) (by decide) (by decide) ?_
    refine g_cb_eq (tgt := 22) hX dX1_sortTold_17 (by decide) (fun h17 => ?_) (fun h17 => ?_)
    · refine g_aload_n hX dX1_sortTold_22 rfl 0 rfl ?_
      refine g_ldcS 5 hX rfl (by decide) dX1_sortTold_23 rfl ?_
      refine g_callVi hX (as := [.ref (2000000 + 5)]) (fun l => c_X1_isWord l (I := I) (tp := tp) (n := n) (k := 5) (t := t) (ht := ht) (hk := (by decide)) (htw := htw) (htx := htx)) mX1_isWord vX1_isWord lX1_51 (by decide) (by decide) xCl1 rfl rfl dX1_sortTold_25 rfl (by decide) (Nat.le_of_ble_eq_true rfl) (by decide) (by decide) ?_
      refine g_cb_eq (tgt := 33) hX dX1_sortTold_28 (by decide) (fun h28 => ?_) (fun h28 => ?_)
      · refine g_aload_n hX dX1_sortTold_33 rfl 0 rfl ?_
        refine g_ldcS 6 hX rfl (by decide) dX1_sortTold_34 rfl ?_
        refine g_callVi hX (as := [.ref (2000000 + 6)]) (fun l => c_X1_isWord l (I := I) (tp := tp) (n := n) (k := 6) (t := t) (ht := ht) (hk := (by decide)) (htw := htw) (htx := htx)) mX1_isWord vX1_isWord lX1_51 (by decide) (by decide) xCl1 rfl rfl dX1_sortTold_36 rfl (by decide) (Nat.le_of_ble_eq_true rfl) (by decide) (by decide) ?_
        refine g_cb_eq (tgt := 44) hX dX1_sortTold_39 (by decide) (fun h39 => ?_) (fun h39 => ?_)
        · refine g_aload_n hX dX1_sortTold_44 rfl 0 rfl ?_
          refine g_ldcS 7 hX rfl (by decide) dX1_sortTold_45 rfl ?_
          refine g_callVi hX (as := [.ref (2000000 + 7)]) (fun l => c_X1_isWord l (I := I) (tp := tp) (n := n) (k := 7) (t := t) (ht := ht) (hk := (by decide)) (htw := htw) (htx := htx)) mX1_isWord vX1_isWord lX1_51 (by decide) (by decide) xCl1 rfl rfl dX1_sortTold_47 rfl (by decide) (Nat.le_of_ble_eq_true rfl) (by decide) (by decide) ?_
          refine g_cb_eq (tgt := 57) hX dX1_sortTold_50 (by decide) (fun h50 => ?_) (fun h50 => ?_)
          · refine g_ldc (v := -1000000) hX cX1_104 dX1_sortTold_57 ?_
            exact g_iret hX hR dX1_sortTold_59 (by decide) (by decide) ⟨congrArg (fun z => some (Value.int z)) (by unfold kbV; first | (rw [if_pos (a0.mpr h6)]) | (rw [if_neg (fun q => h6 (a0.mp q)), if_pos (a1.mpr h17)]) | (rw [if_neg (fun q => h6 (a0.mp q)), if_neg (fun q => h17 (a1.mp q)), if_pos (a2.mpr h28)]) | (rw [if_neg (fun q => h6 (a0.mp q)), if_neg (fun q => h17 (a1.mp q)), if_neg (fun q => h28 (a2.mp q)), if_pos (a3.mpr h39)]) | (rw [if_neg (fun q => h6 (a0.mp q)), if_neg (fun q => h17 (a1.mp q)), if_neg (fun q => h28 (a2.mp q)), if_neg (fun q => h39 (a3.mp q)), if_pos (a4.mpr h50)]) | (rw [if_neg (fun q => h6 (a0.mp q)), if_neg (fun q => h17 (a1.mp q)), if_neg (fun q => h28 (a2.mp q)), if_neg (fun q => h39 (a3.mp q)), if_neg (fun q => h50 (a4.mp q))])), rfl, rfl, rfl⟩
          · refine g_iconst (v := nI 5) hX dX1_sortTold_53 (by decide) ?_
            refine g_goto (tgt := 59) hX dX1_sortTold_54 (by decide) ?_
            exact g_iret hX hR dX1_sortTold_59 (by decide) (by decide) ⟨congrArg (fun z => some (Value.int z)) (by unfold kbV; first | (rw [if_pos (a0.mpr h6)]) | (rw [if_neg (fun q => h6 (a0.mp q)), if_pos (a1.mpr h17)]) | (rw [if_neg (fun q => h6 (a0.mp q)), if_neg (fun q => h17 (a1.mp q)), if_pos (a2.mpr h28)]) | (rw [if_neg (fun q => h6 (a0.mp q)), if_neg (fun q => h17 (a1.mp q)), if_neg (fun q => h28 (a2.mp q)), if_pos (a3.mpr h39)]) | (rw [if_neg (fun q => h6 (a0.mp q)), if_neg (fun q => h17 (a1.mp q)), if_neg (fun q => h28 (a2.mp q)), if_neg (fun q => h39 (a3.mp q)), if_pos (a4.mpr h50)]) | (rw [if_neg (fun q => h6 (a0.mp q)), if_neg (fun q => h17 (a1.mp q)), if_neg (fun q => h28 (a2.mp q)), if_neg (fun q => h39 (a3.mp q)), if_neg (fun q => h50 (a4.mp q))])), rfl, rfl, rfl⟩
        · refine g_iconst (v := nI 4) hX dX1_sortTold_42 (by decide) ?_
          exact g_iret hX hR dX1_sortTold_43 (by decide) (by decide) ⟨congrArg (fun z => some (Value.int z)) (by unfold kbV; first | (rw [if_pos (a0.mpr h6)]) | (rw [if_neg (fun q => h6 (a0.mp q)), if_pos (a1.mpr h17)]) | (rw [if_neg (fun q => h6 (a0.mp q)), if_neg (fun q => h17 (a1.mp q)), if_pos (a2.mpr h28)]) | (rw [if_neg (fun q => h6 (a0.mp q)), if_neg (fun q => h17 (a1.mp q)), if_neg (fun q => h28 (a2.mp q)), if_pos (a3.mpr h39)]) | (rw [if_neg (fun q => h6 (a0.mp q)), if_neg (fun q => h17 (a1.mp q)), if_neg (fun q => h28 (a2.mp q)), if_neg (fun q => h39 (a3.mp q)), if_pos (a4.mpr h50)]) | (rw [if_neg (fun q => h6 (a0.mp q)), if_neg (fun q => h17 (a1.mp q)), if_neg (fun q => h28 (a2.mp q)), if_neg (fun q => h39 (a3.mp q)), if_neg (fun q => h50 (a4.mp q))])), rfl, rfl, rfl⟩
      · refine g_iconst (v := nI 2) hX dX1_sortTold_31 (by decide) ?_
        exact g_iret hX hR dX1_sortTold_32 (by decide) (by decide) ⟨congrArg (fun z => some (Value.int z)) (by unfold kbV; first | (rw [if_pos (a0.mpr h6)]) | (rw [if_neg (fun q => h6 (a0.mp q)), if_pos (a1.mpr h17)]) | (rw [if_neg (fun q => h6 (a0.mp q)), if_neg (fun q => h17 (a1.mp q)), if_pos (a2.mpr h28)]) | (rw [if_neg (fun q => h6 (a0.mp q)), if_neg (fun q => h17 (a1.mp q)), if_neg (fun q => h28 (a2.mp q)), if_pos (a3.mpr h39)]) | (rw [if_neg (fun q => h6 (a0.mp q)), if_neg (fun q => h17 (a1.mp q)), if_neg (fun q => h28 (a2.mp q)), if_neg (fun q => h39 (a3.mp q)), if_pos (a4.mpr h50)]) | (rw [if_neg (fun q => h6 (a0.mp q)), if_neg (fun q => h17 (a1.mp q)), if_neg (fun q => h28 (a2.mp q)), if_neg (fun q => h39 (a3.mp q)), if_neg (fun q => h50 (a4.mp q))])), rfl, rfl, rfl⟩
    · refine g_iconst (v := nI 3) hX dX1_sortTold_20 (by decide) ?_
      exact g_iret hX hR dX1_sortTold_21 (by decide) (by decide) ⟨congrArg (fun z => some (Value.int z)) (by unfold kbV; first | (rw [if_pos (a0.mpr h6)]) | (rw [if_neg (fun q => h6 (a0.mp q)), if_pos (a1.mpr h17)]) | (rw [if_neg (fun q => h6 (a0.mp q)), if_neg (fun q => h17 (a1.mp q)), if_pos (a2.mpr h28)]) | (rw [if_neg (fun q => h6 (a0.mp q)), if_neg (fun q => h17 (a1.mp q)), if_neg (fun q => h28 (a2.mp q)), if_pos (a3.mpr h39)]) | (rw [if_neg (fun q => h6 (a0.mp q)), if_neg (fun q => h17 (a1.mp q)), if_neg (fun q => h28 (a2.mp q)), if_neg (fun q => h39 (a3.mp q)), if_pos (a4.mpr h50)]) | (rw [if_neg (fun q => h6 (a0.mp q)), if_neg (fun q => h17 (a1.mp q)), if_neg (fun q => h28 (a2.mp q)), if_neg (fun q => h39 (a3.mp q)), if_neg (fun q => h50 (a4.mp q))])), rfl, rfl, rfl⟩
  · refine g_iconst (v := nI 1) hX dX1_sortTold_9 (by decide) ?_
    exact g_iret hX hR dX1_sortTold_10 (by decide) (by decide) ⟨congrArg (fun z => some (Value.int z)) (by unfold kbV; first | (rw [if_pos (a0.mpr h6)]) | (rw [if_neg (fun q => h6 (a0.mp q)), if_pos (a1.mpr h17)]) | (rw [if_neg (fun q => h6 (a0.mp q)), if_neg (fun q => h17 (a1.mp q)), if_pos (a2.mpr h28)]) | (rw [if_neg (fun q => h6 (a0.mp q)), if_neg (fun q => h17 (a1.mp q)), if_neg (fun q => h28 (a2.mp q)), if_pos (a3.mpr h39)]) | (rw [if_neg (fun q => h6 (a0.mp q)), if_neg (fun q => h17 (a1.mp q)), if_neg (fun q => h28 (a2.mp q)), if_neg (fun q => h39 (a3.mp q)), if_pos (a4.mpr h50)]) | (rw [if_neg (fun q => h6 (a0.mp q)), if_neg (fun q => h17 (a1.mp q)), if_neg (fun q => h28 (a2.mp q)), if_neg (fun q => h39 (a3.mp q)), if_neg (fun q => h50 (a4.mp q))])), rfl, rfl, rfl⟩

theorem c_X1_readGround (l : Launch) {nw sp : Nat} {I : xM} {tp : Nat → Nat} {n g : Nat} {B : xM} {t : xT} {f : Nat → Int32} (hB : cbP B tp n) (hg : xG g) (hc : cOK tp n g B I t f) : xC l 7 0 0 yX1_readGround cX1_readGround 3 (some .boolean) 319 [.ref 2, .ref g] I (xRL nw sp) (xpR 319 (xRL nw sp) (fun x J => cR tp n g B x J (gndR tp n (.inr (t, f))))) := by
  refine xC_of (by decide) (Nat.le_of_ble_eq_true rfl) (fun X hXl hX hR => ?_)
  have hX : xOK X RX1 cX1_readGround 3 7 0 0 := hX
  show G X 319 0 0 I (xRL nw sp) 0 [(0, .ref 2), (1, .ref g)] []
  have hg8 := xG_8 hg
  have hg9 := hg8.1
  have ht := cc_tape hg9 hc.1 hB
  have htw := hc.2.1
  have htx := hc.2.2.1
  refine g_aload_n hX dX1_readGround_0 rfl 0 rfl ?_
  refine g_ldcS 0 hX rfl (by decide) dX1_readGround_1 rfl ?_
  refine g_callVr hX (as := [.ref (2000000 + 0)]) (fun l => c_X1_passWord l (I := I) (tp := tp) (n := n) (g := g) (B := B) (t := t) (f := f) (k := 0) (hB := hB) (hg := (by first | assumption | omega)) (hc := hc) (hk := (by decide))) mX1_passWord vX1_passWord lX1_74 (by decide) (by decide) xCl1 rfl rfl dX1_readGround_3 rfl (by decide) (Nat.le_of_ble_eq_true rfl) (by decide) (by decide) (fun x1 K h1 => ?_)
  refine g_cz_ne (a := x1.toInt) (tgt := 11) hX dX1_readGround_6 (by decide) rfl (fun h6 => ?_) (fun h6 => ?_)
  · obtain ⟨t1, f1, e1, h1⟩ := cR_y h1 h6
    refine g_iconst (v := nI 0) hX dX1_readGround_11 (by decide) ?_
    refine g_istore_n (L' := [(0, .ref 2), (1, .ref g), (2, .int (nI 0))]) hX dX1_readGround_12 rfl (by decide) rfl ?_
    have cut13 : ∀ (fuel : Nat) (k : Nat) (t1 : xT) (f1 : Nat → Int32) (K : xM) (hk : k ≤ 20) (he : grI tp n k (wrdR tp n wGround (.inr (t, f))) = .inr (t1, f1)) (h1 : cOK tp n g B K t1 f1), 20 - k < fuel → G X 319 0 0 K (xRL nw sp) 13 [(0, .ref 2), (1, .ref g), (2, .int (nI k))] [] := by
      intro fuel
      induction fuel with
      | zero => intro k t1 f1 K hk he h1 hfuel; omega
      | succ fuel ih =>
        intro k t1 f1 K hk he h1 hfuel
        refine g_iload_n hX dX1_readGround_13 rfl 2 rfl ?_
        refine g_bipush (v := nI 20) hX dX1_readGround_14 (by decide) ?_
        refine g_ci_ge (a := ((k : Nat) : Int)) (b := (20 : Int)) (tgt := 47) hX dX1_readGround_16 (by decide) (nI_toInt (by omega)) (by decide) (fun h16 => ?_) (fun h16 => ?_)
        · obtain rfl : k = 20 := by omega
          refine g_aload_n hX dX1_readGround_47 rfl 0 rfl ?_
          refine g_callVr hX (as := []) (fun l => c_X1_passSign l (I := K) (tp := tp) (n := n) (g := g) (B := B) (t := t1) (f := f1) (hB := hB) (hg := (by first | assumption | omega)) (hc := h1)) mX1_passSign vX1_passSign lX1_88 (by decide) (by decide) xCl1 rfl rfl dX1_readGround_48 rfl (by decide) (Nat.le_of_ble_eq_true rfl) (by decide) (by decide) (fun xK4 K4 h4 => ?_)
          exact g_zret hX hR dX1_readGround_51 (cR_nar h4) (by decide) (by decide) ⟨_, rfl, rfl, (by show cR _ _ _ _ _ _ (sgnR tp n (grI tp n 20 _)); rw [he]; exact h4), rfl⟩
        · refine g_aload_n hX dX1_readGround_19 rfl 0 rfl ?_
          refine g_iconst (v := nI 0) hX dX1_readGround_20 (by decide) ?_
          refine g_bipush (v := nI 60) hX dX1_readGround_21 (by decide) ?_
          refine g_callVr hX (as := [.int (nI 0), .int (nI 60)]) (fun l => c_X1_isNumber l (I := K) (tp := tp) (n := n) (g := g) (B := B) (t := t1) (f := f1) (lo := 0) (hi := 60) (hB := hB) (hg := (by first | assumption | omega)) (hc := h1) (hlo := (by decide)) (hhi := (by decide))) mX1_isNumber vX1_isNumber lX1_77 (by decide) (by decide) xCl1 rfl rfl dX1_readGround_23 rfl (by decide) (Nat.le_of_ble_eq_true rfl) (by decide) (by decide) (fun xK2 K2 h2 => ?_)
          refine g_cz_ne (a := xK2.toInt) (tgt := 31) hX dX1_readGround_26 (by decide) rfl (fun h26 => ?_) (fun h26 => ?_)
          · obtain ⟨n2, rfl⟩ := cN_y h2 h26
            refine g_aload_n hX dX1_readGround_31 rfl 1 rfl ?_
            refine g_getR (j := g + 1) hX (xG_n (j := 0) hg (by decide)) (xG_K0 hg) xCl0 0 (by decide) (by decide) kX1_81 dX1_readGround_32 (xRL_g0 hg) ?_
            refine g_iload_n hX dX1_readGround_35 rfl 2 rfl ?_
            refine g_aload_n hX dX1_readGround_36 rfl 0 rfl ?_
            refine g_callVr hX (as := []) (fun l => c_X1_pass l (I := K) (tp := tp) (n := n) (g := g) (B := B) (t := t1) (f := f1) (hB := hB) (hg := (by first | assumption | omega)) (hc := h1) (h2 := n2.1)) mX1_pass vX1_pass lX1_84 (by decide) (by decide) xCl1 rfl rfl dX1_readGround_37 rfl (by decide) (Nat.le_of_ble_eq_true rfl) (by decide) (by decide) (fun xK3 K3 h3 => ?_)
            obtain ⟨rfl, h3⟩ := h3
            refine g_iast hX (xG_n (j := 1) hg (by decide)) (xG_K1 hg) k rfl (by rw [(xG_N1 hg)]; omega) dX1_readGround_40 ?_
            refine g_iinc (v := nI (k + 1)) (L' := [(0, .ref 2), (1, .ref g), (2, .int (nI (k + 1)))]) hX dX1_readGround_41 (by decide) 2 rfl (nI_add k 1) rfl ?_
            refine g_goto (tgt := 13) hX dX1_readGround_44 (by decide) ?_
            exact ih (k + 1) (lx tp n t1.2.2) (upd f1 (6 + k) (nI (figR tp (.inr (t1, f1))))) (xput K3 (g + 1) k (nI (figR tp (.inr (t1, f1))))) (by first | assumption | omega) (gri_s he n2) (ok_gr hg9 (ok_adv hg9 h1 h3) (by omega) n2.2.2) (by omega)
          · obtain ⟨hn, e, e2, h2⟩ := cN_n h2 h26
            refine g_iconst (v := nI 0) hX dX1_readGround_29 (by decide) ?_
            exact g_zret hX hR dX1_readGround_30 (by decide) (by decide) (by decide) ⟨_, rfl, rfl, (cR_bad (gnd_s he (by omega) e2) h2), rfl⟩
    exact cut13 _ 0 t1 f1 K (by first | assumption | omega) e1 h1 (Nat.lt_succ_self _)
  · obtain ⟨e, e1, h1⟩ := cR_n h1 h6
    refine g_iconst (v := nI 0) hX dX1_readGround_9 (by decide) ?_
    exact g_zret hX hR dX1_readGround_10 (by decide) (by decide) (by decide) ⟨_, rfl, rfl, (cR_bad (gnd_l e1) h1), rfl⟩

theorem c_X1_readLake (l : Launch) {nw sp : Nat} {I : xM} {tp : Nat → Nat} {n g : Nat} {B : xM} {t : xT} {f : Nat → Int32} (hB : cbP B tp n) (hg : xG g) (hc : cOK tp n g B I t f) (h4 : f 4 = nI 20) : xC l 5 0 0 yX1_readLake cX1_readLake 2 (some .boolean) 319 [.ref 2, .ref g] I (xRL nw sp) (xpR 319 (xRL nw sp) (fun x J => cR tp n g B x J (lakR tp n (.inr (t, f))))) := by
  refine xC_of (by decide) (Nat.le_of_ble_eq_true rfl) (fun X hXl hX hR => ?_)
  have hX : xOK X RX1 cX1_readLake 2 5 0 0 := hX
  show G X 319 0 0 I (xRL nw sp) 0 [(0, .ref 2), (1, .ref g)] []
  have hg8 := xG_8 hg
  have hg9 := hg8.1
  have ht := cc_tape hg9 hc.1 hB
  have htw := hc.2.1
  have htx := hc.2.2.1
  refine g_aload_n hX dX1_readLake_0 rfl 0 rfl ?_
  refine g_callVrv hX (as := []) (fun l => c_X1_advance l (I := I) (tp := tp) (n := n) (p0 := t.2.2) (ht := (cc_tape hg9 hc.1 hB)) (hp0 := hc.2.1.2.1) (hc0 := hc.2.2.1.2.1)) mX1_advance vX1_advance lX1_42 (by decide) (by decide) xCl1 rfl rfl dX1_readLake_1 rfl (by decide) (Nat.le_of_ble_eq_true rfl) (by decide) (by decide) (fun K hK => ?_)
  have k1 := ok_adv hg9 hc hK
  have e1 : nexR tp n (.inr (t, f)) = .inr (lx tp n t.2.2, f) := rfl
  generalize lx tp n t.2.2 = t1 at k1 e1 hK
  refine g_aload_n hX dX1_readLake_4 rfl 0 rfl ?_
  refine g_iconst (v := nI 0) hX dX1_readLake_5 (by decide) ?_
  refine g_bipush (v := nI 19) hX dX1_readLake_6 (by decide) ?_
  refine g_callVr hX (as := [.int (nI 0), .int (nI 19)]) (fun l => c_X1_isNumber l (I := K) (tp := tp) (n := n) (g := g) (B := B) (t := t1) (f := f) (lo := 0) (hi := 19) (hB := hB) (hg := (by first | assumption | omega)) (hc := k1) (hlo := (by decide)) (hhi := (by decide))) mX1_isNumber vX1_isNumber lX1_77 (by decide) (by decide) xCl1 rfl rfl dX1_readLake_8 rfl (by decide) (Nat.le_of_ble_eq_true rfl) (by decide) (by decide) (fun xK2 K2 h2 => ?_)
  refine g_cz_ne (a := xK2.toInt) (tgt := 16) hX dX1_readLake_11 (by decide) rfl (fun h11 => ?_) (fun h11 => ?_)
  · obtain ⟨n1, rfl⟩ := cN_y h2 h11
    refine g_aload_n hX dX1_readLake_16 rfl 1 rfl ?_
    refine g_aload_n hX dX1_readLake_17 rfl 0 rfl ?_
    refine g_callVr hX (as := []) (fun l => c_X1_pass l (I := K) (tp := tp) (n := n) (g := g) (B := B) (t := t1) (f := f) (hB := hB) (hg := (by first | assumption | omega)) (hc := k1) (h2 := n1.1)) mX1_pass vX1_pass lX1_84 (by decide) (by decide) xCl1 rfl rfl dX1_readLake_18 rfl (by decide) (Nat.le_of_ble_eq_true rfl) (by decide) (by decide) (fun xK3 K3 h3 => ?_)
    obtain ⟨rfl, h3⟩ := h3
    have k2 := ok_adv hg9 k1 h3
    have e3 := num_y (n := n) n1
    generalize lx tp n t1.2.2 = t2 at k2 e3 h3
    refine g_putI hX (xG_n (j := 0) hg (by decide)) (xG_K0 hg) xCl0 1 (by decide) (by decide) (by decide) kX1_92 dX1_readLake_21 rfl rfl ?_
    have k3 := ok_lf hg9 k2 h4 (v := figR tp (.inr (t1, f))) n1.2.2
    refine g_aload_n hX dX1_readLake_24 rfl 0 rfl ?_
    refine g_aload_n hX dX1_readLake_25 rfl 1 rfl ?_
    refine g_getI (v := nI (figR tp (.inr (t1, f)))) hX (xG_n (j := 0) hg (by decide)) (xG_K0 hg) xCl0 1 (by decide) (by decide) kX1_92 dX1_readLake_26 xput_e ?_
    refine g_bipush (v := nI 19) hX dX1_readLake_29 (by decide) ?_
    refine g_callVr hX (as := [.int (nI (figR tp (.inr (t1, f)))), .int (nI 19)]) (fun l => c_X1_isNumber l (I := (xput K3 g 1 (nI (figR tp (.inr (t1, f)))))) (tp := tp) (n := n) (g := g) (B := B) (t := t2) (f := upd f 4 (nI (figR tp (.inr (t1, f))))) (lo := (figR tp (.inr (t1, f)))) (hi := 19) (hB := hB) (hg := (by first | assumption | omega)) (hc := k3) (hlo := (Nat.le_trans n1.2.2 (by decide))) (hhi := (by decide))) mX1_isNumber vX1_isNumber lX1_77 (by decide) (by decide) xCl1 rfl rfl dX1_readLake_31 rfl (by decide) (Nat.le_of_ble_eq_true rfl) (by decide) (by decide) (fun xK4 K4 h5 => ?_)
    refine g_cz_ne (a := xK4.toInt) (tgt := 39) hX dX1_readLake_34 (by decide) rfl (fun h34 => ?_) (fun h34 => ?_)
    · obtain ⟨n2, rfl⟩ := cN_y h5 h34
      refine g_aload_n hX dX1_readLake_39 rfl 1 rfl ?_
      refine g_aload_n hX dX1_readLake_40 rfl 0 rfl ?_
      refine g_callVr hX (as := []) (fun l => c_X1_pass l (I := (xput K3 g 1 (nI (figR tp (.inr (t1, f)))))) (tp := tp) (n := n) (g := g) (B := B) (t := t2) (f := upd f 4 (nI (figR tp (.inr (t1, f))))) (hB := hB) (hg := (by first | assumption | omega)) (hc := k3) (h2 := n2.1)) mX1_pass vX1_pass lX1_84 (by decide) (by decide) xCl1 rfl rfl dX1_readLake_41 rfl (by decide) (Nat.le_of_ble_eq_true rfl) (by decide) (by decide) (fun xK5 K5 h6 => ?_)
      obtain ⟨rfl, h6⟩ := h6
      have k5 := ok_adv hg9 k3 h6
      have e5 := num_y (n := n) n2
      generalize lx tp n t2.2.2 = t3 at k5 e5 h6
      refine g_putI hX (xG_n (j := 0) hg (by decide)) (xG_K0 hg) xCl0 2 (by decide) (by decide) (by decide) kX1_95 dX1_readLake_44 rfl rfl ?_
      have k6 := ok_lt hg9 k5 (u := figR tp (.inr (t1, f))) (v := figR tp (.inr (t2, upd f 4 (nI (figR tp (.inr (t1, f))))))) upd_eq n1.2.2 ((congrFun (h6.1.1 g (by omega)) 1).trans xput_e) n2.2.2
      refine g_aload_n hX dX1_readLake_47 rfl 0 rfl ?_
      refine g_callVr hX (as := []) (fun l => c_X1_passSign l (I := (xput K5 g 2 (nI (figR tp (.inr (t2, upd f 4 (nI (figR tp (.inr (t1, f)))))))))) (tp := tp) (n := n) (g := g) (B := B) (t := t3) (f := upd (upd f 4 (nI (figR tp (.inr (t1, f))))) 5 (nI (figR tp (.inr (t2, upd f 4 (nI (figR tp (.inr (t1, f))))))))) (hB := hB) (hg := (by first | assumption | omega)) (hc := k6)) mX1_passSign vX1_passSign lX1_88 (by decide) (by decide) xCl1 rfl rfl dX1_readLake_48 rfl (by decide) (Nat.le_of_ble_eq_true rfl) (by decide) (by decide) (fun xK6 K6 h7 => ?_)
      exact g_zret hX hR dX1_readLake_51 (cR_nar h7) (by decide) (by decide) ⟨_, rfl, rfl, (by rw [lak_3 e1 e3 e5]; exact h7), rfl⟩
    · obtain ⟨hn, e, e4, h5⟩ := cN_n h5 h34
      refine g_iconst (v := nI 0) hX dX1_readLake_37 (by decide) ?_
      exact g_zret hX hR dX1_readLake_38 (by decide) (by decide) (by decide) ⟨_, rfl, rfl, (cR_bad (lak_2 e1 e3 e4) h5), rfl⟩
  · obtain ⟨hn, e, e2, h2⟩ := cN_n h2 h11
    refine g_iconst (v := nI 0) hX dX1_readLake_14 (by decide) ?_
    exact g_zret hX hR dX1_readLake_15 (by decide) (by decide) (by decide) ⟨_, rfl, rfl, (cR_bad (lak_1 e1 e2) h2), rfl⟩

theorem c_X0_addTree (l : Launch) {nw sp : Nat} {I : xM} {g T : Nat} {a b c d : Int32} (hg : xG g) (hT : I g 3 = nI T) (hT6 : T < 6) : xC l 1 0 0 yX0_addTree cX0_addTree 5 none 319 [.ref g, .int a, .int b, .int c, .int d] I (xRL nw sp) (xpV 319 (adM I g T a b c d) (xRL nw sp)) := by
  refine xC_of (by decide) (Nat.le_of_ble_eq_true rfl) (fun X hXl hX hR => ?_)
  have hX : xOK X RX0 cX0_addTree 5 1 0 0 := hX
  show G X 319 0 0 I (xRL nw sp) 0 [(0, .ref g), (1, .int a), (2, .int b), (3, .int c), (4, .int d)] []
  have hg8 := xG_8 hg
  refine g_aload_n hX dX0_addTree_0 rfl 0 rfl ?_
  refine g_getI (v := nI T) hX (xG_n (j := 0) hg (by decide)) (xG_K0 hg) xCl0 3 (by decide) (by decide) kX0_23 dX0_addTree_1 hT ?_
  refine g_bipush (v := nI 6) hX dX0_addTree_4 (by decide) ?_
  refine g_ci_ge (a := ((T : Nat) : Int)) (b := (6 : Int)) (tgt := 70) hX dX0_addTree_6 (by decide) (nI_toInt (by omega)) (by decide) (fun h6 => ?_) (fun h6 => ?_)
  · exfalso; omega
  · refine g_aload_n hX dX0_addTree_9 rfl 0 rfl ?_
    refine g_getR (j := g + 2) hX (xG_n (j := 0) hg (by decide)) (xG_K0 hg) xCl0 4 (by decide) (by decide) kX0_26 dX0_addTree_10 (xRL_g4 hg) ?_
    refine g_aload_n hX dX0_addTree_13 rfl 0 rfl ?_
    refine g_getI (v := nI T) hX (xG_n (j := 0) hg (by decide)) (xG_K0 hg) xCl0 3 (by decide) (by decide) kX0_23 dX0_addTree_14 hT ?_
    refine g_iload_n hX dX0_addTree_17 rfl 1 rfl ?_
    refine g_iast hX (xG_n (j := 2) hg (by decide)) (xG_K2 hg) T rfl (by rw [(xG_N2 hg)]; omega) dX0_addTree_18 ?_
    refine g_aload_n hX dX0_addTree_19 rfl 0 rfl ?_
    refine g_getR (j := g + 3) hX (xG_n (j := 0) hg (by decide)) (xG_K0 hg) xCl0 5 (by decide) (by decide) kX0_29 dX0_addTree_20 (xRL_g5 hg) ?_
    refine g_aload_n hX dX0_addTree_23 rfl 0 rfl ?_
    refine g_getI (v := nI T) hX (xG_n (j := 0) hg (by decide)) (xG_K0 hg) xCl0 3 (by decide) (by decide) kX0_23 dX0_addTree_24 (xput_o (by omega) hT) ?_
    refine g_iload_n hX dX0_addTree_27 rfl 2 rfl ?_
    refine g_iast hX (xG_n (j := 3) hg (by decide)) (xG_K3 hg) T rfl (by rw [(xG_N3 hg)]; omega) dX0_addTree_28 ?_
    refine g_aload_n hX dX0_addTree_29 rfl 0 rfl ?_
    refine g_getR (j := g + 4) hX (xG_n (j := 0) hg (by decide)) (xG_K0 hg) xCl0 6 (by decide) (by decide) kX0_32 dX0_addTree_30 (xRL_g6 hg) ?_
    refine g_aload_n hX dX0_addTree_33 rfl 0 rfl ?_
    refine g_getI (v := nI T) hX (xG_n (j := 0) hg (by decide)) (xG_K0 hg) xCl0 3 (by decide) (by decide) kX0_23 dX0_addTree_34 (xput_o (by omega) (xput_o (by omega) hT)) ?_
    refine g_iload_n hX dX0_addTree_37 rfl 3 rfl ?_
    refine g_iast hX (xG_n (j := 4) hg (by decide)) (xG_K4 hg) T rfl (by rw [(xG_N4 hg)]; omega) dX0_addTree_38 ?_
    refine g_aload_n hX dX0_addTree_39 rfl 0 rfl ?_
    refine g_getR (j := g + 5) hX (xG_n (j := 0) hg (by decide)) (xG_K0 hg) xCl0 7 (by decide) (by decide) kX0_35 dX0_addTree_40 (xRL_g7 hg) ?_
    refine g_aload_n hX dX0_addTree_43 rfl 0 rfl ?_
    refine g_getI (v := nI T) hX (xG_n (j := 0) hg (by decide)) (xG_K0 hg) xCl0 3 (by decide) (by decide) kX0_23 dX0_addTree_44 (xput_o (by omega) (xput_o (by omega) (xput_o (by omega) hT))) ?_
    refine g_iload hX dX0_addTree_47 4 rfl ?_
    refine g_iast hX (xG_n (j := 5) hg (by decide)) (xG_K5 hg) T rfl (by rw [(xG_N5 hg)]; omega) dX0_addTree_49 ?_
    refine g_aload_n hX dX0_addTree_50 rfl 0 rfl ?_
    refine g_getR (j := g + 6) hX (xG_n (j := 0) hg (by decide)) (xG_K0 hg) xCl0 8 (by decide) (by decide) kX0_38 dX0_addTree_51 (xRL_g8 hg) ?_
    refine g_aload_n hX dX0_addTree_54 rfl 0 rfl ?_
    refine g_getI (v := nI T) hX (xG_n (j := 0) hg (by decide)) (xG_K0 hg) xCl0 3 (by decide) (by decide) kX0_23 dX0_addTree_55 (xput_o (by omega) (xput_o (by omega) (xput_o (by omega) (xput_o (by omega) hT)))) ?_
    refine g_iconst (v := nI 0) hX dX0_addTree_58 (by decide) ?_
    refine g_iast hX (xG_n (j := 6) hg (by decide)) (xG_K6 hg) T rfl (by rw [(xG_N6 hg)]; omega) dX0_addTree_59 ?_
    refine g_aload_n hX dX0_addTree_60 rfl 0 rfl ?_
    refine g_dup hX rfl dX0_addTree_61 ?_
    refine g_getI (v := nI T) hX (xG_n (j := 0) hg (by decide)) (xG_K0 hg) xCl0 3 (by decide) (by decide) kX0_23 dX0_addTree_62 (xput_o (by omega) (xput_o (by omega) (xput_o (by omega) (xput_o (by omega) (xput_o (by omega) hT))))) ?_
    refine g_iconst (v := nI 1) hX dX0_addTree_65 (by decide) ?_
    refine g_iadd (v := nI (T + 1)) hX dX0_addTree_66 (nI_add T 1) ?_
    refine g_putI hX (xG_n (j := 0) hg (by decide)) (xG_K0 hg) xCl0 3 (by decide) (by decide) (by decide) kX0_23 dX0_addTree_67 rfl rfl ?_
    exact g_vret hX hR dX0_addTree_70 (by decide) (by decide) ⟨rfl, rfl, rfl, rfl⟩

theorem c_X0_addThing (l : Launch) {nw sp : Nat} {I : xM} {g S : Nat} {a b : Int32} {Q : Prop} (hg : xG g) (hT : I g 9 = nI S) (hT6 : S < 6) : xC l 1 0 0 yX0_addThing cX0_addThing 4 none 319 [.ref g, .int a, .int b, .int (xb (Q))] I (xRL nw sp) (xpV 319 (ahM I g S a b (xb Q)) (xRL nw sp)) := by
  refine xC_of (by decide) (Nat.le_of_ble_eq_true rfl) (fun X hXl hX hR => ?_)
  have hX : xOK X RX0 cX0_addThing 4 1 0 0 := hX
  show G X 319 0 0 I (xRL nw sp) 0 [(0, .ref g), (1, .int a), (2, .int b), (3, .int (xb (Q)))] []
  have hg8 := xG_8 hg
  refine g_aload_n hX dX0_addThing_0 rfl 0 rfl ?_
  refine g_getI (v := nI S) hX (xG_n (j := 0) hg (by decide)) (xG_K0 hg) xCl0 9 (by decide) (by decide) kX0_41 dX0_addThing_1 hT ?_
  refine g_bipush (v := nI 6) hX dX0_addThing_4 (by decide) ?_
  refine g_ci_ge (a := ((S : Nat) : Int)) (b := (6 : Int)) (tgt := 49) hX dX0_addThing_6 (by decide) (nI_toInt (by omega)) (by decide) (fun h6 => ?_) (fun h6 => ?_)
  · exfalso; omega
  · refine g_aload_n hX dX0_addThing_9 rfl 0 rfl ?_
    refine g_getR (j := g + 7) hX (xG_n (j := 0) hg (by decide)) (xG_K0 hg) xCl0 10 (by decide) (by decide) kX0_44 dX0_addThing_10 (xRL_g10 hg) ?_
    refine g_aload_n hX dX0_addThing_13 rfl 0 rfl ?_
    refine g_getI (v := nI S) hX (xG_n (j := 0) hg (by decide)) (xG_K0 hg) xCl0 9 (by decide) (by decide) kX0_41 dX0_addThing_14 hT ?_
    refine g_iload_n hX dX0_addThing_17 rfl 1 rfl ?_
    refine g_iast hX (xG_n (j := 7) hg (by decide)) (xG_K7 hg) S rfl (by rw [(xG_N7 hg)]; omega) dX0_addThing_18 ?_
    refine g_aload_n hX dX0_addThing_19 rfl 0 rfl ?_
    refine g_getR (j := g + 8) hX (xG_n (j := 0) hg (by decide)) (xG_K0 hg) xCl0 11 (by decide) (by decide) kX0_47 dX0_addThing_20 (xRL_g11 hg) ?_
    refine g_aload_n hX dX0_addThing_23 rfl 0 rfl ?_
    refine g_getI (v := nI S) hX (xG_n (j := 0) hg (by decide)) (xG_K0 hg) xCl0 9 (by decide) (by decide) kX0_41 dX0_addThing_24 (xput_o (by omega) hT) ?_
    refine g_iload_n hX dX0_addThing_27 rfl 2 rfl ?_
    refine g_iast hX (xG_n (j := 8) hg (by decide)) (xG_K8 hg) S rfl (by rw [(xG_N8 hg)]; omega) dX0_addThing_28 ?_
    refine g_aload_n hX dX0_addThing_29 rfl 0 rfl ?_
    refine g_getR (j := g + 9) hX (xG_n (j := 0) hg (by decide)) (xG_K0 hg) xCl0 12 (by decide) (by decide) kX0_50 dX0_addThing_30 (xRL_g12 hg) ?_
    refine g_aload_n hX dX0_addThing_33 rfl 0 rfl ?_
    refine g_getI (v := nI S) hX (xG_n (j := 0) hg (by decide)) (xG_K0 hg) xCl0 9 (by decide) (by decide) kX0_41 dX0_addThing_34 (xput_o (by omega) (xput_o (by omega) hT)) ?_
    refine g_iload_n hX dX0_addThing_37 rfl 3 rfl ?_
    refine g_zast hX (xG_n (j := 9) hg (by decide)) (xG_K9 hg) S rfl (by rw [(xG_N9 hg)]; omega) dX0_addThing_38 (xb_nar9) ?_
    refine g_aload_n hX dX0_addThing_39 rfl 0 rfl ?_
    refine g_dup hX rfl dX0_addThing_40 ?_
    refine g_getI (v := nI S) hX (xG_n (j := 0) hg (by decide)) (xG_K0 hg) xCl0 9 (by decide) (by decide) kX0_41 dX0_addThing_41 (xput_o (by omega) (xput_o (by omega) (xput_o (by omega) hT))) ?_
    refine g_iconst (v := nI 1) hX dX0_addThing_44 (by decide) ?_
    refine g_iadd (v := nI (S + 1)) hX dX0_addThing_45 (nI_add S 1) ?_
    refine g_putI hX (xG_n (j := 0) hg (by decide)) (xG_K0 hg) xCl0 9 (by decide) (by decide) (by decide) kX0_41 dX0_addThing_46 rfl rfl ?_
    exact g_vret hX hR dX0_addThing_49 (by decide) (by decide) ⟨rfl, rfl, rfl, rfl⟩

theorem c_X1_readTree (l : Launch) {nw sp : Nat} {I : xM} {tp : Nat → Nat} {n g : Nat} {B : xM} {t : xT} {f : Nat → Int32} (hB : cbP B tp n) (hg : xG g) (hc : cOK tp n g B I t f) : xC l 7 0 0 yX1_readTree cX1_readTree 5 (some .boolean) 319 [.ref 2, .ref g] I (xRL nw sp) (xpR 319 (xRL nw sp) (fun x J => cR tp n g B x J (treR tp n (.inr (t, f))))) := by
  refine xC_of (by decide) (Nat.le_of_ble_eq_true rfl) (fun X hXl hX hR => ?_)
  have hX : xOK X RX1 cX1_readTree 5 7 0 0 := hX
  show G X 319 0 0 I (xRL nw sp) 0 [(0, .ref 2), (1, .ref g)] []
  have hg8 := xG_8 hg
  have hg9 := hg8.1
  have ht := cc_tape hg9 hc.1 hB
  have htw := hc.2.1
  have htx := hc.2.2.1
  obtain ⟨T, S, F, W, hG, hgf⟩ := hc.2.2.2.1
  have hW := hgf.1
  have hT6 := hgf.1.T6
  refine g_aload_n hX dX1_readTree_0 rfl 1 rfl ?_
  refine g_getI (v := nI T) hX (xG_n (j := 0) hg (by decide)) (xG_K0 hg) xCl0 3 (by decide) (by decide) kX1_98 dX1_readTree_1 hG.tr ?_
  refine g_bipush (v := nI 6) hX dX1_readTree_4 (by decide) ?_
  refine g_ci_lt (a := ((T : Nat) : Int)) (b := (6 : Int)) (tgt := 15) hX dX1_readTree_6 (by decide) (nI_toInt (by omega)) (by decide) (fun h6 => ?_) (fun h6 => ?_)
  · refine g_aload_n hX dX1_readTree_15 rfl 0 rfl ?_
    refine g_callVrv hX (as := []) (fun l => c_X1_advance l (I := I) (tp := tp) (n := n) (p0 := t.2.2) (ht := (cc_tape hg9 hc.1 hB)) (hp0 := hc.2.1.2.1) (hc0 := hc.2.2.1.2.1)) mX1_advance vX1_advance lX1_42 (by decide) (by decide) xCl1 rfl rfl dX1_readTree_16 rfl (by decide) (Nat.le_of_ble_eq_true rfl) (by decide) (by decide) (fun K1 hK => ?_)
    have k1 := ok_adv hg9 hc hK
    have e1 := beg_g (tp := tp) (n := n) (t := t) (st := 0) hgf.1.T0 (by omega)
    generalize lx tp n t.2.2 = t1 at k1 e1 hK
    refine g_aload_n hX dX1_readTree_19 rfl 0 rfl ?_
    refine g_callVi hX (as := []) (fun l => c_X1_sortTold l (I := K1) (tp := tp) (n := n) (g := g) (B := B) (t := t1) (f := f) (hB := hB) (hg := (by first | assumption | omega)) (hc := k1)) mX1_sortTold vX1_sortTold lX1_101 (by decide) (by decide) xCl1 rfl rfl dX1_readTree_20 rfl (by decide) (Nat.le_of_ble_eq_true rfl) (by decide) (by decide) ?_
    refine g_istore_n (L' := [(0, .ref 2), (1, .ref g), (2, .int (kbV (nmV tp (.inr (t1, f)))))]) hX dX1_readTree_23 rfl (by decide) rfl ?_
    refine g_iload_n hX dX1_readTree_24 rfl 2 rfl ?_
    refine g_ldc (v := -1000000) hX cX1_104 dX1_readTree_25 ?_
    refine g_ci_ne (a := (kbV (nmV tp (.inr (t1, f)))).toInt) (b := (-1000000 : Int)) (tgt := 36) hX dX1_readTree_27 (by decide) rfl (by decide) (fun h27 => ?_) (fun h27 => ?_)
    · have hkd : kbV (nmV tp (.inr (t1, f))) ≠ -1000000 := fun q => h27 (congrArg Int32.toInt q)
      refine g_aload_n hX dX1_readTree_36 rfl 0 rfl ?_
      refine g_callVrv hX (as := []) (fun l => c_X1_advance l (I := K1) (tp := tp) (n := n) (p0 := t1.2.2) (ht := (cc_tape hg9 k1.1 hB)) (hp0 := k1.2.1.2.1) (hc0 := k1.2.2.1.2.1)) mX1_advance vX1_advance lX1_42 (by decide) (by decide) xCl1 rfl rfl dX1_readTree_37 rfl (by decide) (Nat.le_of_ble_eq_true rfl) (by decide) (by decide) (fun K2 hK2 => ?_)
      have k2 := ok_adv hg9 k1 hK2
      have e2 := km_2 e1 hkd
      generalize lx tp n t1.2.2 = t2 at k2 e2 hK2
      refine g_aload_n hX dX1_readTree_40 rfl 0 rfl ?_
      refine g_iconst (v := nI 0) hX dX1_readTree_41 (by decide) ?_
      refine g_bipush (v := nI 19) hX dX1_readTree_42 (by decide) ?_
      refine g_callVr hX (as := [.int (nI 0), .int (nI 19)]) (fun l => c_X1_isNumber l (I := K2) (tp := tp) (n := n) (g := g) (B := B) (t := t2) (f := f) (lo := 0) (hi := 19) (hB := hB) (hg := (by first | assumption | omega)) (hc := k2) (hlo := (by decide)) (hhi := (by decide))) mX1_isNumber vX1_isNumber lX1_77 (by decide) (by decide) xCl1 rfl rfl dX1_readTree_44 rfl (by decide) (Nat.le_of_ble_eq_true rfl) (by decide) (by decide) (fun xK3 K3 h3 => ?_)
      refine g_cz_ne (a := xK3.toInt) (tgt := 52) hX dX1_readTree_47 (by decide) rfl (fun h47 => ?_) (fun h47 => ?_)
      · obtain ⟨n2, rfl⟩ := cN_y h3 h47
        obtain ⟨T2, S2, F2, W2, hG2, hgf2⟩ := k2.2.2.2.1
        have hT62 := hgf2.1.T6
        refine g_aload_n hX dX1_readTree_52 rfl 1 rfl ?_
        refine g_aload_n hX dX1_readTree_53 rfl 0 rfl ?_
        refine g_getI (v := nI (figR tp (.inr (t2, f)))) hX (by decide) (by decide) xCl1 5 (by decide) (by decide) kX1_28 dX1_readTree_54 (fig_v k2.2.2.1 n2.1) ?_
        refine g_callVi hX (as := [.int (nI (figR tp (.inr (t2, f))))]) (fun l => c_X0_treeAt l (I := K2) (g := g) (T := T2) (S := S2) (F := F2) (W := W2) (f := f) (x := (nI (figR tp (.inr (t2, f))))) (hg := hg) (hG := hG2) (hW := hgf2.1)) mX0_treeAt vX0_treeAt lX1_105 (xG_n (j := 0) hg (by decide)) (xG_K0 hg) xCl0 rfl rfl dX1_readTree_57 rfl (by decide) (Nat.le_of_ble_eq_true rfl) (by decide) (by decide) ?_
        rcases Option.eq_none_or_eq_some (taF f T2 (nI (figR tp (.inr (t2, f))))) with ho57 | ⟨u, ho57⟩
        · refine g_top (y := (-1000000)) (by rw [ho57]; rfl) ?_
          refine g_ldc (v := -1000000) hX cX1_104 dX1_readTree_60 ?_
          refine g_ci_eq (a := (-1000000 : Int)) (b := (-1000000 : Int)) (tgt := 71) hX dX1_readTree_62 (by decide) (by decide) (by decide) (fun _ => ?_) (fun q => absurd q (by decide))
          refine g_aload_n hX dX1_readTree_71 rfl 0 rfl ?_
          refine g_callVr hX (as := []) (fun l => c_X1_pass l (I := K2) (tp := tp) (n := n) (g := g) (B := B) (t := t2) (f := f) (hB := hB) (hg := (by first | assumption | omega)) (hc := k2) (h2 := n2.1)) mX1_pass vX1_pass lX1_84 (by decide) (by decide) xCl1 rfl rfl dX1_readTree_72 rfl (by decide) (Nat.le_of_ble_eq_true rfl) (by decide) (by decide) (fun xK4 K4 h4 => ?_)
          obtain ⟨rfl, h4⟩ := h4
          have k3 := ok_adv hg9 k2 h4
          have e4 := tr4_y e2 hgf2.1.T0 hT62 ho57
          have e3 := tr3_y e4 n2
          generalize lx tp n t2.2.2 = t3 at k3 e3 h4
          refine g_istore_n (L' := [(0, .ref 2), (1, .ref g), (2, .int (kbV (nmV tp (.inr (t1, f))))), (3, .int (nI (figR tp (.inr (t2, f)))))]) hX dX1_readTree_75 rfl (by decide) rfl ?_
          refine g_aload_n hX dX1_readTree_76 rfl 0 rfl ?_
          refine g_iconst (v := nI 1) hX dX1_readTree_77 (by decide) ?_
          refine g_bipush (v := nI 99) hX dX1_readTree_78 (by decide) ?_
          refine g_callVr hX (as := [.int (nI 1), .int (nI 99)]) (fun l => c_X1_isNumber l (I := K4) (tp := tp) (n := n) (g := g) (B := B) (t := t3) (f := f) (lo := 1) (hi := 99) (hB := hB) (hg := (by first | assumption | omega)) (hc := k3) (hlo := (by decide)) (hhi := (by decide))) mX1_isNumber vX1_isNumber lX1_77 (by decide) (by decide) xCl1 rfl rfl dX1_readTree_80 rfl (by decide) (Nat.le_of_ble_eq_true rfl) (by decide) (by decide) (fun xK5 K5 h5 => ?_)
          refine g_cz_ne (a := xK5.toInt) (tgt := 88) hX dX1_readTree_83 (by decide) rfl (fun h83 => ?_) (fun h83 => ?_)
          · obtain ⟨n3, rfl⟩ := cN_y h5 h83
            refine g_aload_n hX dX1_readTree_88 rfl 0 rfl ?_
            refine g_callVr hX (as := []) (fun l => c_X1_pass l (I := K4) (tp := tp) (n := n) (g := g) (B := B) (t := t3) (f := f) (hB := hB) (hg := (by first | assumption | omega)) (hc := k3) (h2 := n3.1)) mX1_pass vX1_pass lX1_84 (by decide) (by decide) xCl1 rfl rfl dX1_readTree_89 rfl (by decide) (Nat.le_of_ble_eq_true rfl) (by decide) (by decide) (fun xK6 K6 h6 => ?_)
            obtain ⟨rfl, h6⟩ := h6
            have k4 := ok_adv hg9 k3 h6
            have e5 := tr2_y e3 n3
            generalize lx tp n t3.2.2 = t4 at k4 e5 h6
            refine g_istore (L' := [(0, .ref 2), (1, .ref g), (2, .int (kbV (nmV tp (.inr (t1, f))))), (3, .int (nI (figR tp (.inr (t2, f))))), (4, .int (nI (figR tp (.inr (t3, f)))))]) hX dX1_readTree_92 (by decide) rfl ?_
            refine g_aload_n hX dX1_readTree_94 rfl 0 rfl ?_
            refine g_iconst (v := nI 0) hX dX1_readTree_95 (by decide) ?_
            refine g_bipush (v := nI 9) hX dX1_readTree_96 (by decide) ?_
            refine g_callVr hX (as := [.int (nI 0), .int (nI 9)]) (fun l => c_X1_isNumber l (I := K6) (tp := tp) (n := n) (g := g) (B := B) (t := t4) (f := f) (lo := 0) (hi := 9) (hB := hB) (hg := (by first | assumption | omega)) (hc := k4) (hlo := (by decide)) (hhi := (by decide))) mX1_isNumber vX1_isNumber lX1_77 (by decide) (by decide) xCl1 rfl rfl dX1_readTree_98 rfl (by decide) (Nat.le_of_ble_eq_true rfl) (by decide) (by decide) (fun xK7 K7 h7 => ?_)
            refine g_cz_ne (a := xK7.toInt) (tgt := 106) hX dX1_readTree_101 (by decide) rfl (fun h101 => ?_) (fun h101 => ?_)
            · obtain ⟨n4, rfl⟩ := cN_y h7 h101
              refine g_aload_n hX dX1_readTree_106 rfl 1 rfl ?_
              refine g_iload_n hX dX1_readTree_107 rfl 2 rfl ?_
              refine g_iload_n hX dX1_readTree_108 rfl 3 rfl ?_
              refine g_iload hX dX1_readTree_109 4 rfl ?_
              refine g_aload_n hX dX1_readTree_111 rfl 0 rfl ?_
              refine g_callVr hX (as := []) (fun l => c_X1_pass l (I := K6) (tp := tp) (n := n) (g := g) (B := B) (t := t4) (f := f) (hB := hB) (hg := (by first | assumption | omega)) (hc := k4) (h2 := n4.1)) mX1_pass vX1_pass lX1_84 (by decide) (by decide) xCl1 rfl rfl dX1_readTree_112 rfl (by decide) (Nat.le_of_ble_eq_true rfl) (by decide) (by decide) (fun xK8 K8 h8 => ?_)
              obtain ⟨rfl, h8⟩ := h8
              have k5 := ok_adv hg9 k4 h8
              have e6 := num_y (n := n) n4
              generalize lx tp n t4.2.2 = t5 at k5 e6 h8
              obtain ⟨T5, S5, F5, W5, hG5, hgf5⟩ := k5.2.2.2.1
              have hT25 : T2 = T5 := nI_inj (by omega) (by have := hgf5.1.T6; omega) (hgf2.1.T0.symm.trans hgf5.1.T0)
              have hTT : T = T2 := nI_inj (by omega) (by omega) (hgf.1.T0.symm.trans hgf2.1.T0)
              have hT26 : T2 < 6 := by omega
              have k6 := ok_ad (a := kbV (nmV tp (.inr (t1, f)))) (s := figR tp (.inr (t2, f))) (hh := figR tp (.inr (t3, f))) (cc := figR tp (.inr (t4, f))) hg9 k5 hgf2.1.T0 hT26 (kbV_b hkd) (by have := n2.2.2; omega) (fun u hu q => xfind_no ho57 u hu q) n3.2.2 n4.2.2
              refine g_callVv hX (as := [.int (kbV (nmV tp (.inr (t1, f)))), .int (nI (figR tp (.inr (t2, f)))), .int (nI (figR tp (.inr (t3, f)))), .int (nI (figR tp (.inr (t4, f))))]) (fun l => c_X0_addTree l (I := K8) (g := g) (T := T2) (a := (kbV (nmV tp (.inr (t1, f))))) (b := (nI (figR tp (.inr (t2, f))))) (c := (nI (figR tp (.inr (t3, f))))) (d := (nI (figR tp (.inr (t4, f))))) (hg := hg) (hT := (hG5.tr.trans (by rw [hT25]))) (hT6 := hT26)) mX0_addTree vX0_addTree lX1_109 (xG_n (j := 0) hg (by decide)) (xG_K0 hg) xCl0 rfl rfl dX1_readTree_115 rfl (by decide) (Nat.le_of_ble_eq_true rfl) (by decide) (by decide) ?_
              refine g_aload_n hX dX1_readTree_118 rfl 0 rfl ?_
              refine g_callVr hX (as := []) (fun l => c_X1_passSign l (I := (adM K8 g T2 (kbV (nmV tp (.inr (t1, f)))) (nI (figR tp (.inr (t2, f)))) (nI (figR tp (.inr (t3, f)))) (nI (figR tp (.inr (t4, f)))))) (tp := tp) (n := n) (g := g) (B := B) (t := t5) (f := adF f T2 (kbV (nmV tp (.inr (t1, f)))) (nI (figR tp (.inr (t2, f)))) (nI (figR tp (.inr (t3, f)))) (nI (figR tp (.inr (t4, f))))) (hB := hB) (hg := (by first | assumption | omega)) (hc := k6)) mX1_passSign vX1_passSign lX1_88 (by decide) (by decide) xCl1 rfl rfl dX1_readTree_119 rfl (by decide) (Nat.le_of_ble_eq_true rfl) (by decide) (by decide) (fun xK9 K9 h9 => ?_)
              exact g_zret hX hR dX1_readTree_122 (cR_nar h9) (by decide) (by decide) ⟨_, rfl, rfl, (by rw [tr_ok hgf2.1.T0 hT62 rfl e1 e4 e3 e5 e6]; exact h9), rfl⟩
            · obtain ⟨hn, e, e6, h7⟩ := cN_n h7 h101
              refine g_iconst (v := nI 0) hX dX1_readTree_104 (by decide) ?_
              exact g_zret hX hR dX1_readTree_105 (by decide) (by decide) (by decide) ⟨_, rfl, rfl, (cR_bad (tr_l5 (by rw [e5]; exact e6)) h7), rfl⟩
          · obtain ⟨hn, e, e5, h5⟩ := cN_n h5 h83
            refine g_iconst (v := nI 0) hX dX1_readTree_86 (by decide) ?_
            exact g_zret hX hR dX1_readTree_87 (by decide) (by decide) (by decide) ⟨_, rfl, rfl, (cR_bad (tr_l4 (tr2_n e3 e5)) h5), rfl⟩
        · refine g_top (y := nI u) (by rw [ho57]; rfl) ?_
          have hu := (xfind_spec ho57).1
          refine g_ldc (v := -1000000) hX cX1_104 dX1_readTree_60 ?_
          refine g_ci_eq (a := ((u : Nat) : Int)) (b := (-1000000 : Int)) (tgt := 71) hX dX1_readTree_62 (by decide) (nI_toInt (by omega)) (by decide) (fun q => absurd q (by omega)) (fun _ => ?_)
          refine g_aload_n hX dX1_readTree_65 rfl 0 rfl ?_
          refine g_iconst (v := nI 2) hX dX1_readTree_66 (by decide) ?_
          refine g_callVr hX (as := [.int (nI 2)]) (fun l => c_X1_refuse l (I := K2) (tp := tp) (n := n) (g := g) (B := B) (t := t2) (f := f) (k := 2) (hB := hB) (hg := (by first | assumption | omega)) (hc := k2)) mX1_refuse vX1_refuse lX1_68 (by decide) (by decide) xCl1 rfl rfl dX1_readTree_67 rfl (by decide) (Nat.le_of_ble_eq_true rfl) (by decide) (by decide) (fun xK K h1 => ?_)
          obtain ⟨rfl, h1⟩ := h1
          exact g_zret hX hR dX1_readTree_70 (by decide) (by decide) (by decide) ⟨_, rfl, rfl, (cR_bad (tr_l3 (tr3_d e2 hgf2.1.T0 hT62 n2.1 ho57)) h1), rfl⟩
      · obtain ⟨hn, e, e3, h3⟩ := cN_n h3 h47
        refine g_iconst (v := nI 0) hX dX1_readTree_50 (by decide) ?_
        exact g_zret hX hR dX1_readTree_51 (by decide) (by decide) (by decide) ⟨_, rfl, rfl, (cR_bad (tr_l3 (tr3_n e2 hn e3)) h3), rfl⟩
    · have hkd : kbV (nmV tp (.inr (t1, f))) = -1000000 := Int32.toInt_inj.mp h27
      refine g_aload_n hX dX1_readTree_30 rfl 0 rfl ?_
      refine g_iconst (v := nI 1) hX dX1_readTree_31 (by decide) ?_
      refine g_callVr hX (as := [.int (nI 1)]) (fun l => c_X1_refuse l (I := K1) (tp := tp) (n := n) (g := g) (B := B) (t := t1) (f := f) (k := 1) (hB := hB) (hg := (by first | assumption | omega)) (hc := k1)) mX1_refuse vX1_refuse lX1_68 (by decide) (by decide) xCl1 rfl rfl dX1_readTree_32 rfl (by decide) (Nat.le_of_ble_eq_true rfl) (by decide) (by decide) (fun xK K h1 => ?_)
      obtain ⟨rfl, h1⟩ := h1
      exact g_zret hX hR dX1_readTree_35 (by decide) (by decide) (by decide) ⟨_, rfl, rfl, (cR_bad (tr_l2 (km_1 e1 hkd)) h1), rfl⟩
  · refine g_aload_n hX dX1_readTree_9 rfl 0 rfl ?_
    refine g_iconst (v := nI 3) hX dX1_readTree_10 (by decide) ?_
    refine g_callVr hX (as := [.int (nI 3)]) (fun l => c_X1_refuse l (I := I) (tp := tp) (n := n) (g := g) (B := B) (t := t) (f := f) (k := 3) (hB := hB) (hg := (by first | assumption | omega)) (hc := hc)) mX1_refuse vX1_refuse lX1_68 (by decide) (by decide) xCl1 rfl rfl dX1_readTree_11 rfl (by decide) (Nat.le_of_ble_eq_true rfl) (by decide) (by decide) (fun xK K h1 => ?_)
    obtain ⟨rfl, h1⟩ := h1
    exact g_zret hX hR dX1_readTree_14 (by decide) (by decide) (by decide) ⟨_, rfl, rfl, (cR_bad (tr_l1 (beg_3 (by rw [hgf.1.T0, show T = 6 by omega]))) h1), rfl⟩

theorem c_X1_readThing (l : Launch) {nw sp : Nat} {I : xM} {tp : Nat → Nat} {n g : Nat} {B : xM} {t : xT} {f : Nat → Int32} (hB : cbP B tp n) (hg : xG g) (hc : cOK tp n g B I t f) : xC l 6 0 0 yX1_readThing cX1_readThing 5 (some .boolean) 319 [.ref 2, .ref g] I (xRL nw sp) (xpR 319 (xRL nw sp) (fun x J => cR tp n g B x J (thiR tp n (.inr (t, f))))) := by
  refine xC_of (by decide) (Nat.le_of_ble_eq_true rfl) (fun X hXl hX hR => ?_)
  have hX : xOK X RX1 cX1_readThing 5 6 0 0 := hX
  show G X 319 0 0 I (xRL nw sp) 0 [(0, .ref 2), (1, .ref g)] []
  have hg8 := xG_8 hg
  have hg9 := hg8.1
  have ht := cc_tape hg9 hc.1 hB
  have htw := hc.2.1
  have htx := hc.2.2.1
  obtain ⟨T, S, F, W, hG, hgf⟩ := hc.2.2.2.1
  have hW := hgf.1
  have hS6 := hgf.1.S6
  refine g_aload_n hX dX1_readThing_0 rfl 1 rfl ?_
  refine g_getI (v := nI S) hX (xG_n (j := 0) hg (by decide)) (xG_K0 hg) xCl0 9 (by decide) (by decide) kX1_113 dX1_readThing_1 hG.th ?_
  refine g_bipush (v := nI 6) hX dX1_readThing_4 (by decide) ?_
  refine g_ci_lt (a := ((S : Nat) : Int)) (b := (6 : Int)) (tgt := 15) hX dX1_readThing_6 (by decide) (nI_toInt (by omega)) (by decide) (fun h6 => ?_) (fun h6 => ?_)
  · refine g_aload_n hX dX1_readThing_15 rfl 0 rfl ?_
    refine g_callVrv hX (as := []) (fun l => c_X1_advance l (I := I) (tp := tp) (n := n) (p0 := t.2.2) (ht := (cc_tape hg9 hc.1 hB)) (hp0 := hc.2.1.2.1) (hc0 := hc.2.2.1.2.1)) mX1_advance vX1_advance lX1_42 (by decide) (by decide) xCl1 rfl rfl dX1_readThing_16 rfl (by decide) (Nat.le_of_ble_eq_true rfl) (by decide) (by decide) (fun K1 hK => ?_)
    have k1 := ok_adv hg9 hc hK
    have e1 := beg_g (tp := tp) (n := n) (t := t) (st := 1) hgf.1.S0 (by omega)
    generalize lx tp n t.2.2 = t1 at k1 e1 hK
    refine g_aload_n hX dX1_readThing_19 rfl 0 rfl ?_
    refine g_iconst (v := nI 0) hX dX1_readThing_20 (by decide) ?_
    refine g_bipush (v := nI 19) hX dX1_readThing_21 (by decide) ?_
    refine g_callVr hX (as := [.int (nI 0), .int (nI 19)]) (fun l => c_X1_isNumber l (I := K1) (tp := tp) (n := n) (g := g) (B := B) (t := t1) (f := f) (lo := 0) (hi := 19) (hB := hB) (hg := (by first | assumption | omega)) (hc := k1) (hlo := (by decide)) (hhi := (by decide))) mX1_isNumber vX1_isNumber lX1_77 (by decide) (by decide) xCl1 rfl rfl dX1_readThing_23 rfl (by decide) (Nat.le_of_ble_eq_true rfl) (by decide) (by decide) (fun xK3 K3 h3 => ?_)
    refine g_cz_ne (a := xK3.toInt) (tgt := 31) hX dX1_readThing_26 (by decide) rfl (fun h26 => ?_) (fun h26 => ?_)
    · obtain ⟨n1, rfl⟩ := cN_y h3 h26
      refine g_aload_n hX dX1_readThing_31 rfl 0 rfl ?_
      refine g_callVr hX (as := []) (fun l => c_X1_pass l (I := K1) (tp := tp) (n := n) (g := g) (B := B) (t := t1) (f := f) (hB := hB) (hg := (by first | assumption | omega)) (hc := k1) (h2 := n1.1)) mX1_pass vX1_pass lX1_84 (by decide) (by decide) xCl1 rfl rfl dX1_readThing_32 rfl (by decide) (Nat.le_of_ble_eq_true rfl) (by decide) (by decide) (fun xK4 K4 h4 => ?_)
      obtain ⟨rfl, h4⟩ := h4
      have k2 := ok_adv hg9 k1 h4
      have e3 := th3_y e1 n1
      generalize lx tp n t1.2.2 = t2 at k2 e3 h4
      refine g_istore_n (L' := [(0, .ref 2), (1, .ref g), (2, .int (nI (figR tp (.inr (t1, f)))))]) hX dX1_readThing_35 rfl (by decide) rfl ?_
      refine g_aload_n hX dX1_readThing_36 rfl 0 rfl ?_
      refine g_iconst (v := nI 1) hX dX1_readThing_37 (by decide) ?_
      refine g_bipush (v := nI 99) hX dX1_readThing_38 (by decide) ?_
      refine g_callVr hX (as := [.int (nI 1), .int (nI 99)]) (fun l => c_X1_isNumber l (I := K4) (tp := tp) (n := n) (g := g) (B := B) (t := t2) (f := f) (lo := 1) (hi := 99) (hB := hB) (hg := (by first | assumption | omega)) (hc := k2) (hlo := (by decide)) (hhi := (by decide))) mX1_isNumber vX1_isNumber lX1_77 (by decide) (by decide) xCl1 rfl rfl dX1_readThing_40 rfl (by decide) (Nat.le_of_ble_eq_true rfl) (by decide) (by decide) (fun xK5 K5 h5 => ?_)
      refine g_cz_ne (a := xK5.toInt) (tgt := 48) hX dX1_readThing_43 (by decide) rfl (fun h43 => ?_) (fun h43 => ?_)
      · obtain ⟨n2, rfl⟩ := cN_y h5 h43
        refine g_aload_n hX dX1_readThing_48 rfl 0 rfl ?_
        refine g_callVr hX (as := []) (fun l => c_X1_pass l (I := K4) (tp := tp) (n := n) (g := g) (B := B) (t := t2) (f := f) (hB := hB) (hg := (by first | assumption | omega)) (hc := k2) (h2 := n2.1)) mX1_pass vX1_pass lX1_84 (by decide) (by decide) xCl1 rfl rfl dX1_readThing_49 rfl (by decide) (Nat.le_of_ble_eq_true rfl) (by decide) (by decide) (fun xK6 K6 h6 => ?_)
        obtain ⟨rfl, h6⟩ := h6
        have k3 := ok_adv hg9 k2 h6
        have e5 := th2_y e3 n2
        generalize lx tp n t2.2.2 = t3 at k3 e5 h6
        refine g_istore_n (L' := [(0, .ref 2), (1, .ref g), (2, .int (nI (figR tp (.inr (t1, f))))), (3, .int (nI (figR tp (.inr (t2, f)))))]) hX dX1_readThing_52 rfl (by decide) rfl ?_
        refine g_aload_n hX dX1_readThing_53 rfl 0 rfl ?_
        refine g_ldcS 9 hX rfl (by decide) dX1_readThing_54 rfl ?_
        refine g_callVi hX (as := [.ref (2000000 + 9)]) (fun l => c_X1_isWord l (I := K6) (tp := tp) (n := n) (k := 9) (t := t3) (ht := (cc_tape hg9 k3.1 hB)) (hk := (by decide)) (htw := k3.2.1) (htx := k3.2.2.1)) mX1_isWord vX1_isWord lX1_51 (by decide) (by decide) xCl1 rfl rfl dX1_readThing_56 rfl (by decide) (Nat.le_of_ble_eq_true rfl) (by decide) (by decide) ?_
        refine g_top (y := xb (wrdP tp wShow (.inr (t3, f)))) (xb_iff Iff.rfl) ?_
        refine g_istore (L' := [(0, .ref 2), (1, .ref g), (2, .int (nI (figR tp (.inr (t1, f))))), (3, .int (nI (figR tp (.inr (t2, f))))), (4, .int (xb (wrdP tp wShow (.inr (t3, f)))))]) hX dX1_readThing_59 (by decide) rfl ?_
        refine g_iload hX dX1_readThing_61 4 rfl ?_
        refine g_cb_ne (tgt := 81) hX dX1_readThing_63 (by decide) (fun h63 => ?_) (fun h63 => ?_)
        · refine g_aload_n hX dX1_readThing_81 rfl 0 rfl ?_
          refine g_callVrv hX (as := []) (fun l => c_X1_advance l (I := K6) (tp := tp) (n := n) (p0 := t3.2.2) (ht := (cc_tape hg9 k3.1 hB)) (hp0 := k3.2.1.2.1) (hc0 := k3.2.2.1.2.1)) mX1_advance vX1_advance lX1_42 (by decide) (by decide) xCl1 rfl rfl dX1_readThing_82 rfl (by decide) (Nat.le_of_ble_eq_true rfl) (by decide) (by decide) (fun K8 hK8 => ?_)
          have k4 := ok_adv hg9 k3 hK8
          have e6 := shm_2 e5 (by first | exact Or.inl h63 | exact Or.inr h72)
          generalize lx tp n t3.2.2 = t4 at k4 e6 hK8
          obtain ⟨T5, S5, F5, W5, hG5, hgf5⟩ := k4.2.2.2.1
          have hS55 : S = S5 := nI_inj (by omega) (by have := hgf5.1.S6; omega) (hgf.1.S0.symm.trans hgf5.1.S0)
          have hS2 : S < 6 := by omega
          have k5 := ok_ah (Q := wrdP tp wShow (.inr (t3, f))) (s := figR tp (.inr (t1, f))) (hh := figR tp (.inr (t2, f))) hg9 k4 hgf.1.S0 hS2 n1.2.2 n2.2.2
          refine g_aload_n hX dX1_readThing_85 rfl 1 rfl ?_
          refine g_iload_n hX dX1_readThing_86 rfl 2 rfl ?_
          refine g_iload_n hX dX1_readThing_87 rfl 3 rfl ?_
          refine g_iload hX dX1_readThing_88 4 rfl ?_
          refine g_callVv hX (as := [.int (nI (figR tp (.inr (t1, f)))), .int (nI (figR tp (.inr (t2, f)))), .int (xb (wrdP tp wShow (.inr (t3, f))))]) (fun l => c_X0_addThing l (I := K8) (g := g) (S := S) (a := (nI (figR tp (.inr (t1, f))))) (b := (nI (figR tp (.inr (t2, f))))) (Q := (wrdP tp wShow (.inr (t3, f)))) (hg := hg) (hT := (hG5.th.trans (by rw [hS55]))) (hT6 := hS2)) mX0_addThing vX0_addThing lX1_120 (xG_n (j := 0) hg (by decide)) (xG_K0 hg) xCl0 rfl rfl dX1_readThing_90 rfl (by decide) (Nat.le_of_ble_eq_true rfl) (by decide) (by decide) ?_
          refine g_aload_n hX dX1_readThing_93 rfl 0 rfl ?_
          refine g_callVr hX (as := []) (fun l => c_X1_passSign l (I := (ahM K8 g S (nI (figR tp (.inr (t1, f)))) (nI (figR tp (.inr (t2, f)))) (xb (wrdP tp wShow (.inr (t3, f)))))) (tp := tp) (n := n) (g := g) (B := B) (t := t4) (f := ahF f S (nI (figR tp (.inr (t1, f)))) (nI (figR tp (.inr (t2, f)))) (xb (wrdP tp wShow (.inr (t3, f))))) (hB := hB) (hg := (by first | assumption | omega)) (hc := k5)) mX1_passSign vX1_passSign lX1_88 (by decide) (by decide) xCl1 rfl rfl dX1_readThing_94 rfl (by decide) (Nat.le_of_ble_eq_true rfl) (by decide) (by decide) (fun xK9 K9 h9 => ?_)
          exact g_zret hX hR dX1_readThing_97 (cR_nar h9) (by decide) (by decide) ⟨_, rfl, rfl, (by rw [th_ok hgf.1.S0 hS6 rfl e1 e3 e5 e6]; exact h9), rfl⟩
        · refine g_aload_n hX dX1_readThing_66 rfl 0 rfl ?_
          refine g_ldcS 10 hX rfl (by decide) dX1_readThing_67 rfl ?_
          refine g_callVi hX (as := [.ref (2000000 + 10)]) (fun l => c_X1_isWord l (I := K6) (tp := tp) (n := n) (k := 10) (t := t3) (ht := (cc_tape hg9 k3.1 hB)) (hk := (by decide)) (htw := k3.2.1) (htx := k3.2.2.1)) mX1_isWord vX1_isWord lX1_51 (by decide) (by decide) xCl1 rfl rfl dX1_readThing_69 rfl (by decide) (Nat.le_of_ble_eq_true rfl) (by decide) (by decide) ?_
          refine g_cb_ne (tgt := 81) hX dX1_readThing_72 (by decide) (fun h72 => ?_) (fun h72 => ?_)
          · refine g_aload_n hX dX1_readThing_81 rfl 0 rfl ?_
            refine g_callVrv hX (as := []) (fun l => c_X1_advance l (I := K6) (tp := tp) (n := n) (p0 := t3.2.2) (ht := (cc_tape hg9 k3.1 hB)) (hp0 := k3.2.1.2.1) (hc0 := k3.2.2.1.2.1)) mX1_advance vX1_advance lX1_42 (by decide) (by decide) xCl1 rfl rfl dX1_readThing_82 rfl (by decide) (Nat.le_of_ble_eq_true rfl) (by decide) (by decide) (fun K8 hK8 => ?_)
            have k4 := ok_adv hg9 k3 hK8
            have e6 := shm_2 e5 (by first | exact Or.inl h63 | exact Or.inr h72)
            generalize lx tp n t3.2.2 = t4 at k4 e6 hK8
            obtain ⟨T5, S5, F5, W5, hG5, hgf5⟩ := k4.2.2.2.1
            have hS55 : S = S5 := nI_inj (by omega) (by have := hgf5.1.S6; omega) (hgf.1.S0.symm.trans hgf5.1.S0)
            have hS2 : S < 6 := by omega
            have k5 := ok_ah (Q := wrdP tp wShow (.inr (t3, f))) (s := figR tp (.inr (t1, f))) (hh := figR tp (.inr (t2, f))) hg9 k4 hgf.1.S0 hS2 n1.2.2 n2.2.2
            refine g_aload_n hX dX1_readThing_85 rfl 1 rfl ?_
            refine g_iload_n hX dX1_readThing_86 rfl 2 rfl ?_
            refine g_iload_n hX dX1_readThing_87 rfl 3 rfl ?_
            refine g_iload hX dX1_readThing_88 4 rfl ?_
            refine g_callVv hX (as := [.int (nI (figR tp (.inr (t1, f)))), .int (nI (figR tp (.inr (t2, f)))), .int (xb (wrdP tp wShow (.inr (t3, f))))]) (fun l => c_X0_addThing l (I := K8) (g := g) (S := S) (a := (nI (figR tp (.inr (t1, f))))) (b := (nI (figR tp (.inr (t2, f))))) (Q := (wrdP tp wShow (.inr (t3, f)))) (hg := hg) (hT := (hG5.th.trans (by rw [hS55]))) (hT6 := hS2)) mX0_addThing vX0_addThing lX1_120 (xG_n (j := 0) hg (by decide)) (xG_K0 hg) xCl0 rfl rfl dX1_readThing_90 rfl (by decide) (Nat.le_of_ble_eq_true rfl) (by decide) (by decide) ?_
            refine g_aload_n hX dX1_readThing_93 rfl 0 rfl ?_
            refine g_callVr hX (as := []) (fun l => c_X1_passSign l (I := (ahM K8 g S (nI (figR tp (.inr (t1, f)))) (nI (figR tp (.inr (t2, f)))) (xb (wrdP tp wShow (.inr (t3, f)))))) (tp := tp) (n := n) (g := g) (B := B) (t := t4) (f := ahF f S (nI (figR tp (.inr (t1, f)))) (nI (figR tp (.inr (t2, f)))) (xb (wrdP tp wShow (.inr (t3, f))))) (hB := hB) (hg := (by first | assumption | omega)) (hc := k5)) mX1_passSign vX1_passSign lX1_88 (by decide) (by decide) xCl1 rfl rfl dX1_readThing_94 rfl (by decide) (Nat.le_of_ble_eq_true rfl) (by decide) (by decide) (fun xK9 K9 h9 => ?_)
            exact g_zret hX hR dX1_readThing_97 (cR_nar h9) (by decide) (by decide) ⟨_, rfl, rfl, (by rw [th_ok hgf.1.S0 hS6 rfl e1 e3 e5 e6]; exact h9), rfl⟩
          · refine g_aload_n hX dX1_readThing_75 rfl 0 rfl ?_
            refine g_iconst (v := nI 1) hX dX1_readThing_76 (by decide) ?_
            refine g_callVr hX (as := [.int (nI 1)]) (fun l => c_X1_refuse l (I := K6) (tp := tp) (n := n) (g := g) (B := B) (t := t3) (f := f) (k := 1) (hB := hB) (hg := (by first | assumption | omega)) (hc := k3)) mX1_refuse vX1_refuse lX1_68 (by decide) (by decide) xCl1 rfl rfl dX1_readThing_77 rfl (by decide) (Nat.le_of_ble_eq_true rfl) (by decide) (by decide) (fun xK7 K7 h7 => ?_)
            obtain ⟨rfl, h7⟩ := h7
            exact g_zret hX hR dX1_readThing_80 (by decide) (by decide) (by decide) ⟨_, rfl, rfl, (cR_bad (th_l4 (shm_1 e5 h63 h72)) h7), rfl⟩
      · obtain ⟨hn, e, e5, h5⟩ := cN_n h5 h43
        refine g_iconst (v := nI 0) hX dX1_readThing_46 (by decide) ?_
        exact g_zret hX hR dX1_readThing_47 (by decide) (by decide) (by decide) ⟨_, rfl, rfl, (cR_bad (th_l3 (th2_n e3 e5)) h5), rfl⟩
    · obtain ⟨hn, e, e3, h3⟩ := cN_n h3 h26
      refine g_iconst (v := nI 0) hX dX1_readThing_29 (by decide) ?_
      exact g_zret hX hR dX1_readThing_30 (by decide) (by decide) (by decide) ⟨_, rfl, rfl, (cR_bad (th_l2 (th3_n e1 e3)) h3), rfl⟩
  · refine g_aload_n hX dX1_readThing_9 rfl 0 rfl ?_
    refine g_iconst (v := nI 3) hX dX1_readThing_10 (by decide) ?_
    refine g_callVr hX (as := [.int (nI 3)]) (fun l => c_X1_refuse l (I := I) (tp := tp) (n := n) (g := g) (B := B) (t := t) (f := f) (k := 3) (hB := hB) (hg := (by first | assumption | omega)) (hc := hc)) mX1_refuse vX1_refuse lX1_68 (by decide) (by decide) xCl1 rfl rfl dX1_readThing_11 rfl (by decide) (Nat.le_of_ble_eq_true rfl) (by decide) (by decide) (fun xK K h1 => ?_)
    obtain ⟨rfl, h1⟩ := h1
    exact g_zret hX hR dX1_readThing_14 (by decide) (by decide) (by decide) ⟨_, rfl, rfl, (cR_bad (th_l1 (beg_3 (by rw [hgf.1.S0, show S = 6 by omega]))) h1), rfl⟩
