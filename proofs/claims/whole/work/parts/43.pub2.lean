/-! ===== the class: mark, drop, rule, sign, ink, back, backAt, ways, first ===== -/
def m_mark (s : mS) (r : Int) : Int × mS := if 0 ≤ r ∧ r < s.2.1.length then ((((s.2.2.1 ^^^ 2 ^ r.toNat) / 2 ^ r.toNat % 2 : Nat) : Int), (s.1, s.2.1, s.2.2.1 ^^^ 2 ^ r.toNat, s.2.2.2)) else (-101, s)
def m_drop (s : mS) (r : Int) : Int × mS := if 0 ≤ r ∧ r < s.2.1.length then ((s.2.1.length : Int) - 1, (s.1.eraseIdx r.toNat, s.2.1.eraseIdx r.toNat, mt_drop s.2.2.1 r.toNat, s.2.2.2)) else (-101, s)
theorem ev_X10_mark {σ : am_St} {s : mS} {r : Int} (h : RepC σ s) (hr : inR r) : am_Ev SH mX10_mark 3 [.ref 21, .int (iZ r)] σ (am_rI (fun x σ2 => x = (m_mark s r).1 ∧ RepC σ2 (m_mark s r).2 ∧ am_off XL σ σ2)) := by
  have hrep := h
  obtain ⟨h1, h2, h3, h4, h5, h6, h7, h8⟩ := h
  have h8l := h1.2.2.2.2.2.1
  refine am_ev (by decide) [some (.ref 21), some (.int (iZ (r)))] rfl (Nat.le_of_ble_eq_true rfl) ?_
  refine go_aload_n dX10_mark_0 rfl ?_
  refine go_getr fl_X10_10 dX10_mark_1 sh_21 rfl ?_
  refine go_iload_n dX10_mark_4 rfl ?_
  refine go_cvP1 (M2 := mX6_has) dX10_mark_5 ml_X10_135 mv_X6_has sh_22 rfl rfl (Nat.le_of_ble_eq_true rfl) (by decide) (ev_X6_has h1 hr) ?_
  refine go_if_ne (tgt := 14) dX10_mark_8 (by decide) (by unfold inR; split <;> omega) (fun b8 => ?_) (fun b8 => ?_)
  · skip
    have hc : 0 ≤ r ∧ r < (s.2.1.length : Int) := by
      apply Classical.byContradiction
      intro z
      rw [if_neg z] at b8
      exact b8 rfl
    obtain ⟨rn, hrn⟩ : ∃ rn : Nat, r = (rn : Int) := ⟨r.toNat, by omega⟩
    subst hrn
    have hb2 : (s.2.2.1 ^^^ 2 ^ rn) / 2 ^ rn % 2 < 2 := Nat.mod_lt _ (by decide)
    refine go_aload_n dX10_mark_14 rfl ?_
    refine go_getr fl_X10_10 dX10_mark_15 sh_21 rfl ?_
    refine go_iload_n dX10_mark_18 rfl ?_
    refine go_cvV1 (M2 := mX6_turnMark) dX10_mark_19 ml_X10_139 mv_X6_turnMark sh_22 rfl rfl (Nat.le_of_ble_eq_true rfl) (by decide) (ev_X6_turnMark h1 (by omega)) (fun σ1 hq1 => ?_)
    refine go_aload_n dX10_mark_22 rfl ?_
    refine go_iconst dX10_mark_23 ?_
    refine go_puti fl_X10_66 dX10_mark_24 sh_21 rfl (am_fit_bool (by omega)) ?_
    have r2 := hq1.1.off (ks := [21]) (am_off_si (k := 21) (j := 9) (v := 0) (by decide)) (by decide)
    refine go_aload_n dX10_mark_27 rfl ?_
    refine go_getr fl_X10_10 dX10_mark_28 sh_21 rfl ?_
    refine go_iload_n dX10_mark_31 rfl ?_
    refine go_cvP1 (M2 := mX6_isMarked) dX10_mark_32 ml_X10_142 mv_X6_isMarked sh_22 rfl rfl (Nat.le_of_ble_eq_true rfl) (by decide) (ev_X6_isMarked r2 hr) ?_
    rw [if_pos hc, Int.toNat_natCast]
    refine go_if_eq (tgt := 42) dX10_mark_35 (by decide) (by unfold inR; omega) (fun b35 => ?_) (fun b35 => ?_)
    · skip
      refine go_iconst dX10_mark_42 ?_
      refine go_retI dX10_mark_43 rfl ?_
      unfold m_mark
      rw [if_pos hc, Int.toNat_natCast]
      have oA : am_off [21, 22, 27, 28] σ (am_si σ1 21 9 0) := (hq1.2.wk (by decide)).tr (am_off_si (by decide))
      have f1 : ∀ j, σ1.1 21 j = σ.1 21 j := (hq1.2 21 (by decide)).1
      refine ⟨by dsimp only; omega, ⟨r2, h2.off oA (by decide) (by decide), h3.off oA (by decide) (by decide), ?_, ?_, ?_, h7.off oA (by decide), Or.inl (by simp [am_si]), ?_⟩, XL_of oA (by decide)⟩
      · simp [am_si, f1, h4]
      · simp [am_si, f1, h5]
      · simp [am_si, f1, h6]
      · rcases h8.2 with z | ⟨z1, z2⟩
        · exact Or.inl (by simp [am_si, f1, z])
        · exact Or.inr ⟨by simp [am_si, f1, z1], by rw [(oA 109 (by decide)).1]; exact z2⟩
    · skip
      refine go_iconst dX10_mark_38 ?_
      refine go_goto (tgt := 43) dX10_mark_39 (by decide) ?_
      refine go_retI dX10_mark_43 rfl ?_
      unfold m_mark
      rw [if_pos hc, Int.toNat_natCast]
      have oA : am_off [21, 22, 27, 28] σ (am_si σ1 21 9 0) := (hq1.2.wk (by decide)).tr (am_off_si (by decide))
      have f1 : ∀ j, σ1.1 21 j = σ.1 21 j := (hq1.2 21 (by decide)).1
      refine ⟨by dsimp only; omega, ⟨r2, h2.off oA (by decide) (by decide), h3.off oA (by decide) (by decide), ?_, ?_, ?_, h7.off oA (by decide), Or.inl (by simp [am_si]), ?_⟩, XL_of oA (by decide)⟩
      · simp [am_si, f1, h4]
      · simp [am_si, f1, h5]
      · simp [am_si, f1, h6]
      · rcases h8.2 with z | ⟨z1, z2⟩
        · exact Or.inl (by simp [am_si, f1, z])
        · exact Or.inr ⟨by simp [am_si, f1, z1], by rw [(oA 109 (by decide)).1]; exact z2⟩
  · skip
    refine go_bipush dX10_mark_11 rfl ?_
    refine go_retI dX10_mark_13 rfl ?_
    unfold m_mark
    rw [if_neg (fun z => by rw [if_pos z] at b8; omega)]
    exact ⟨rfl, hrep, am_off.rf⟩
theorem ev_X10_drop {σ : am_St} {s : mS} {r : Int} (h : RepC σ s) (hr : inR r) : am_Ev SH mX10_drop 3 [.ref 21, .int (iZ r)] σ (am_rI (fun x σ2 => x = (m_drop s r).1 ∧ RepC σ2 (m_drop s r).2 ∧ am_off XL σ σ2)) := by
  have hrep := h
  obtain ⟨h1, h2, h3, h4, h5, h6, h7, h8⟩ := h
  refine am_ev (by decide) [some (.ref 21), some (.int (iZ (r)))] rfl (Nat.le_of_ble_eq_true rfl) ?_
  refine go_aload_n dX10_drop_0 rfl ?_
  refine go_getr fl_X10_10 dX10_drop_1 sh_21 rfl ?_
  refine go_iload_n dX10_drop_4 rfl ?_
  refine go_cvP1 (M2 := mX6_has) dX10_drop_5 ml_X10_135 mv_X6_has sh_22 rfl rfl (Nat.le_of_ble_eq_true rfl) (by decide) (ev_X6_has h1 hr) ?_
  refine go_if_ne (tgt := 14) dX10_drop_8 (by decide) (by unfold inR; split <;> omega) (fun b8 => ?_) (fun b8 => ?_)
  · skip
    have hc : 0 ≤ r ∧ r < (s.2.1.length : Int) := by
      apply Classical.byContradiction
      intro z
      rw [if_neg z] at b8
      exact b8 rfl
    obtain ⟨rn, hrn⟩ : ∃ rn : Nat, r = (rn : Int) := ⟨r.toNat, by omega⟩
    subst hrn
    refine go_aload_n dX10_drop_14 rfl ?_
    refine go_getr fl_X10_10 dX10_drop_15 sh_21 rfl ?_
    refine go_iload_n dX10_drop_18 rfl ?_
    refine go_cvV1 (M2 := mX6_remove) dX10_drop_19 ml_X10_145 mv_X6_remove sh_22 rfl rfl (Nat.le_of_ble_eq_true rfl) (by decide) (ev_X6_remove h1 (by omega)) (fun σ1 hq1 => ?_)
    refine go_aload_n dX10_drop_22 rfl ?_
    refine go_cvV0 (M2 := mX10_forgetTable) dX10_drop_23 ml_X10_111 mv_X10_forgetTable sh_21 rfl rfl (Nat.le_of_ble_eq_true rfl) (by decide) (ev_X10_forgetTable) (fun σ2 hq2 => ?_)
    subst hq2
    have r2 := (hq1.1.off (ks := [21]) (am_off_si (k := 21) (j := 9) (v := 0) (by decide)) (by decide)).off (ks := [21]) (am_off_si (k := 21) (j := 10) (v := 0) (by decide)) (by decide)
    refine go_aload_n dX10_drop_26 rfl ?_
    refine go_getr fl_X10_10 dX10_drop_27 sh_21 rfl ?_
    refine go_cvP0 (M2 := mX6_size) dX10_drop_30 ml_X10_114 mv_X6_size sh_22 rfl rfl (Nat.le_of_ble_eq_true rfl) (by decide) (ev_X6_size r2) ?_
    refine go_retI dX10_drop_33 rfl ?_
    unfold m_drop
    rw [if_pos hc, Int.toNat_natCast]
    have oA : am_off [21, 22, 23, 24, 25, 26, 27, 28] σ (am_si (am_si σ1 21 9 0) 21 10 0) := ((hq1.2.wk (by decide)).tr (am_off_si (by decide))).tr (am_off_si (by decide))
    have f1 : ∀ j, σ1.1 21 j = σ.1 21 j := (hq1.2 21 (by decide)).1
    refine ⟨?_, ⟨r2, h2.off oA (by decide) (by decide), h3.off oA (by decide) (by decide), ?_, ?_, ?_, h7.off oA (by decide), Or.inl (by simp [am_si]), Or.inl (by simp [am_si])⟩, XL_of oA (by decide)⟩
    · rw [List.length_eraseIdx, if_pos (by omega)]; dsimp only; omega
    · simp [am_si, f1, h4]
    · simp [am_si, f1, h5]
    · simp [am_si, f1, h6]
  · skip
    refine go_bipush dX10_drop_11 rfl ?_
    refine go_retI dX10_drop_13 rfl ?_
    unfold m_drop
    rw [if_neg (fun z => by rw [if_pos z] at b8; omega)]
    exact ⟨rfl, hrep, am_off.rf⟩
def m_rule (s : mS) (r w : Int) : Int := if ¬ (0 ≤ r ∧ r < s.2.1.length) then -101 else if w = 0 then ((s.1.getD r.toNat []).length : Int) else if w = 1 then ((s.2.1.getD r.toNat []).length : Int) else if w = 2 then ((s.2.2.1 / 2 ^ r.toNat % 2 : Nat) : Int) else if w = 3 then mt_ob ((mt_sg s.2.1 s.2.2.1).getD r.toNat []) (mt_sg s.2.1 s.2.2.1) 0 r else if w = 4 then mt_ob (s.1.getD r.toNat []) s.1 0 r else -102
def wd_char (l : List Int) (p : Int) : Int := if p < 0 ∨ (l.length : Int) ≤ p then -101 else l.getD p.toNat 0
def m_sign (s : mS) (r side p : Int) : Int := if ¬ (0 ≤ r ∧ r < s.2.1.length) then -101 else if side < 0 ∨ 1 < side then -102 else if side = 0 then wd_char (s.1.getD r.toNat []) p else wd_char ((mt_sg s.2.1 s.2.2.1).getD r.toNat []) p
theorem wd_char_enc {l : List Int} (h : okl l) (h4 : l.length ≤ 4) (p : Int) : (if p < 0 ∨ wd_sz (enc l) ≤ p then -101 else wd_fe (enc l) (wd_sz (enc l) - 1 - p)) = wd_char l p := by
  unfold wd_char
  rw [wd_sz_enc h h4]
  by_cases hc : p < 0 ∨ (l.length : Int) ≤ p
  · rw [if_pos hc, if_pos hc]
  · rw [if_neg hc, if_neg hc]
    have := wd_fe_enc h h4 (o := l.length - 1 - p.toNat) (by omega)
    rw [show l.length - 1 - (l.length - 1 - p.toNat) = p.toNat by omega] at this
    rw [show (l.length : Int) - 1 - p = ((l.length - 1 - p.toNat : Nat) : Int) by omega, List.getD_eq_getElem?_getD, this]
    rfl
theorem x10_r0 {σ : am_St} {L R : List (List Int)} {mk : Nat} {r : Int} {v2 : Option Value} (h1 : rls σ L R mk) (hr : inR r) (hc : 0 ≤ r ∧ r < (R.length : Int)) : am_Go SH mX10_rule 3 (am_rI (fun x σ2 => x = ((L.getD r.toNat []).length : Int) ∧ σ2 = σ)) 48 [some (.ref 21), some (.int (iZ r)), v2] [] σ := by
  have ht := h1.2.2.2.2
  have h8 := ht.2.1
  have hLR := ht.1
  have hoL := okw_get (okw_of ht.2.2.2.1) r.toNat
  have hoR := okw_get (okw_of ht.2.2.2.2) r.toNat
  have hsg := okw_sg ht.2.2.2.2 mk
  have hgl := mt_sg_len R mk
  refine go_aload_n dX10_rule_48 rfl ?_
  refine go_getr fl_X10_10 dX10_rule_49 sh_21 rfl ?_
  refine go_getr fl_X10_118 dX10_rule_52 sh_22 rfl ?_
  refine go_iload_n dX10_rule_55 rfl ?_
  refine go_cvP1 (M2 := mX1_at) dX10_rule_56 ml_X10_148 mv_X1_at h1.1.1 rfl rfl (Nat.le_of_ble_eq_true rfl) (by decide) (ev_X1_at h1.1 hr) ?_
  rw [ln_at_map hc.1 (by omega)]
  refine go_csP1 (M2 := mX9_size) dX10_rule_59 ml_X10_152 ms_X9_size (Nat.le_of_ble_eq_true rfl) (by decide) (ev_X9_size (enc_inR hoL.1 hoL.2)) ?_
  refine go_retI dX10_rule_62 rfl ?_
  exact ⟨by rw [wd_sz_enc hoL.1 hoL.2], rfl⟩
theorem x10_r1 {σ : am_St} {L R : List (List Int)} {mk : Nat} {r : Int} {v2 : Option Value} (h1 : rls σ L R mk) (hr : inR r) (hc : 0 ≤ r ∧ r < (R.length : Int)) : am_Go SH mX10_rule 3 (am_rI (fun x σ2 => x = ((R.getD r.toNat []).length : Int) ∧ σ2 = σ)) 63 [some (.ref 21), some (.int (iZ r)), v2] [] σ := by
  have ht := h1.2.2.2.2
  have h8 := ht.2.1
  have hLR := ht.1
  have hoL := okw_get (okw_of ht.2.2.2.1) r.toNat
  have hoR := okw_get (okw_of ht.2.2.2.2) r.toNat
  have hsg := okw_sg ht.2.2.2.2 mk
  have hgl := mt_sg_len R mk
  refine go_aload_n dX10_rule_63 rfl ?_
  refine go_getr fl_X10_10 dX10_rule_64 sh_21 rfl ?_
  refine go_getr fl_X10_156 dX10_rule_67 sh_22 rfl ?_
  refine go_iload_n dX10_rule_70 rfl ?_
  refine go_cvP1 (M2 := mX1_at) dX10_rule_71 ml_X10_148 mv_X1_at h1.2.1.1 rfl rfl (Nat.le_of_ble_eq_true rfl) (by decide) (ev_X1_at h1.2.1 hr) ?_
  rw [ln_at_map hc.1 (by omega)]
  refine go_csP1 (M2 := mX9_size) dX10_rule_74 ml_X10_152 ms_X9_size (Nat.le_of_ble_eq_true rfl) (by decide) (ev_X9_size (enc_inR hoR.1 hoR.2)) ?_
  refine go_retI dX10_rule_77 rfl ?_
  exact ⟨by rw [wd_sz_enc hoR.1 hoR.2], rfl⟩
theorem x10_r2 {σ : am_St} {L R : List (List Int)} {mk : Nat} {r : Int} {v2 : Option Value} (h1 : rls σ L R mk) (hr : inR r) (hc : 0 ≤ r ∧ r < (R.length : Int)) : am_Go SH mX10_rule 3 (am_rI (fun x σ2 => x = ((mk / 2 ^ r.toNat % 2 : Nat) : Int) ∧ σ2 = σ)) 78 [some (.ref 21), some (.int (iZ r)), v2] [] σ := by
  have ht := h1.2.2.2.2
  have h8 := ht.2.1
  have hLR := ht.1
  have hoL := okw_get (okw_of ht.2.2.2.1) r.toNat
  have hoR := okw_get (okw_of ht.2.2.2.2) r.toNat
  have hsg := okw_sg ht.2.2.2.2 mk
  have hgl := mt_sg_len R mk
  have hb2 : mk / 2 ^ r.toNat % 2 < 2 := Nat.mod_lt _ (by decide)
  refine go_aload_n dX10_rule_78 rfl ?_
  refine go_getr fl_X10_10 dX10_rule_79 sh_21 rfl ?_
  refine go_iload_n dX10_rule_82 rfl ?_
  refine go_cvP1 (M2 := mX6_isMarked) dX10_rule_83 ml_X10_142 mv_X6_isMarked sh_22 rfl rfl (Nat.le_of_ble_eq_true rfl) (by decide) (ev_X6_isMarked h1 hr) ?_
  rw [if_pos hc]
  refine go_if_eq (tgt := 93) dX10_rule_86 (by decide) (by unfold inR; omega) (fun b86 => ?_) (fun b86 => ?_)
  · skip
    refine go_iconst dX10_rule_93 ?_
    refine go_retI dX10_rule_94 rfl ?_
    exact ⟨by omega, rfl⟩
  · skip
    refine go_iconst dX10_rule_89 ?_
    refine go_goto (tgt := 94) dX10_rule_90 (by decide) ?_
    refine go_retI dX10_rule_94 rfl ?_
    exact ⟨by omega, rfl⟩
theorem x10_r3 {σ : am_St} {L R : List (List Int)} {mk : Nat} {r : Int} {v2 : Option Value} (h1 : rls σ L R mk) (hr : inR r) (hc : 0 ≤ r ∧ r < (R.length : Int)) : am_Go SH mX10_rule 3 (am_rI (fun x σ2 => x = mt_ob ((mt_sg R mk).getD r.toNat []) (mt_sg R mk) 0 r ∧ σ2 = σ)) 95 [some (.ref 21), some (.int (iZ r)), v2] [] σ := by
  have ht := h1.2.2.2.2
  have h8 := ht.2.1
  have hLR := ht.1
  have hoL := okw_get (okw_of ht.2.2.2.1) r.toNat
  have hoR := okw_get (okw_of ht.2.2.2.2) r.toNat
  have hsg := okw_sg ht.2.2.2.2 mk
  have hgl := mt_sg_len R mk
  refine go_aload_n dX10_rule_95 rfl ?_
  refine go_getr fl_X10_10 dX10_rule_96 sh_21 rfl ?_
  refine go_getr fl_X10_157 dX10_rule_99 sh_22 rfl ?_
  refine go_iload_n dX10_rule_102 rfl ?_
  refine go_csP2 (M2 := mX6_othersBeginning) dX10_rule_103 ml_X10_160 ms_X6_othersBeginning (Nat.le_of_ble_eq_true rfl) (by decide) (ev_X6_othersBeginning h1.2.2.1 hsg.1 (by omega) hc.1 (by omega)) ?_
  refine go_retI dX10_rule_106 rfl ?_
  exact ⟨rfl, rfl⟩
theorem x10_r4 {σ : am_St} {L R : List (List Int)} {mk : Nat} {r : Int} {v2 : Option Value} (h1 : rls σ L R mk) (hr : inR r) (hc : 0 ≤ r ∧ r < (R.length : Int)) : am_Go SH mX10_rule 3 (am_rI (fun x σ2 => x = mt_ob (L.getD r.toNat []) L 0 r ∧ σ2 = σ)) 107 [some (.ref 21), some (.int (iZ r)), v2] [] σ := by
  have ht := h1.2.2.2.2
  have h8 := ht.2.1
  have hLR := ht.1
  have hoL := okw_get (okw_of ht.2.2.2.1) r.toNat
  have hoR := okw_get (okw_of ht.2.2.2.2) r.toNat
  have hsg := okw_sg ht.2.2.2.2 mk
  have hgl := mt_sg_len R mk
  refine go_aload_n dX10_rule_107 rfl ?_
  refine go_getr fl_X10_10 dX10_rule_108 sh_21 rfl ?_
  refine go_getr fl_X10_118 dX10_rule_111 sh_22 rfl ?_
  refine go_iload_n dX10_rule_114 rfl ?_
  refine go_csP2 (M2 := mX6_othersBeginning) dX10_rule_115 ml_X10_160 ms_X6_othersBeginning (Nat.le_of_ble_eq_true rfl) (by decide) (ev_X6_othersBeginning h1.1 (okw_of ht.2.2.2.1) (by omega) hc.1 (by omega)) ?_
  refine go_retI dX10_rule_118 rfl ?_
  exact ⟨rfl, rfl⟩
theorem ev_X10_rule {σ : am_St} {s : mS} {r w : Int} (h : RepC σ s) (hr : inR r) (hw : inR w) : am_Ev SH mX10_rule 3 [.ref 21, .int (iZ r), .int (iZ w)] σ (am_rI (fun x σ2 => x = m_rule s r w ∧ σ2 = σ)) := by
  obtain ⟨h1, -⟩ := h
  have ht := h1.2.2.2.2
  have h8 := ht.2.1
  have hLR := ht.1
  have hsg := okw_sg ht.2.2.2.2 s.2.2.1
  have hgl := mt_sg_len s.2.1 s.2.2.1
  refine am_ev (by decide) [some (.ref 21), some (.int (iZ (r))), some (.int (iZ (w)))] rfl (Nat.le_of_ble_eq_true rfl) ?_
  refine go_aload_n dX10_rule_0 rfl ?_
  refine go_getr fl_X10_10 dX10_rule_1 sh_21 rfl ?_
  refine go_iload_n dX10_rule_4 rfl ?_
  refine go_cvP1 (M2 := mX6_has) dX10_rule_5 ml_X10_135 mv_X6_has sh_22 rfl rfl (Nat.le_of_ble_eq_true rfl) (by decide) (ev_X6_has h1 hr) ?_
  refine go_if_ne (tgt := 14) dX10_rule_8 (by decide) (by unfold inR; split <;> omega) (fun b8 => ?_) (fun b8 => ?_)
  · skip
    have hc : 0 ≤ r ∧ r < (s.2.1.length : Int) := by
      apply Classical.byContradiction
      intro z
      rw [if_neg z] at b8
      exact b8 rfl
    have hm : m_rule s r w = if w = 0 then ((s.1.getD r.toNat []).length : Int) else if w = 1 then ((s.2.1.getD r.toNat []).length : Int) else if w = 2 then ((s.2.2.1 / 2 ^ r.toNat % 2 : Nat) : Int) else if w = 3 then mt_ob ((mt_sg s.2.1 s.2.2.1).getD r.toNat []) (mt_sg s.2.1 s.2.2.1) 0 r else if w = 4 then mt_ob (s.1.getD r.toNat []) s.1 0 r else -102 := by unfold m_rule; rw [if_neg (fun z => z hc)]
    rw [hm]
    refine go_iload_n dX10_rule_14 rfl ?_
    by_cases hout : w < 0 ∨ 4 < w
    · refine go_tswOut (tgt := 119) dX10_rule_15 hw hout (by decide) ?_
      refine go_bipush dX10_rule_119 rfl ?_
      refine go_retI dX10_rule_121 rfl ?_
      rw [if_neg (by omega), if_neg (by omega), if_neg (by omega), if_neg (by omega), if_neg (by omega)]
      exact ⟨rfl, rfl⟩
    have hoL := okw_get (okw_of ht.2.2.2.1) r.toNat
    have hoR := okw_get (okw_of ht.2.2.2.2) r.toNat
    rcases (show w = 0 ∨ w = 1 ∨ w = 2 ∨ w = 3 ∨ w = 4 by omega) with rfl | rfl | rfl | rfl | rfl
    · refine go_tswIn (tgt := 48) (off := 33) dX10_rule_15 (by unfold inR; omega) (by omega) (by omega) (by rfl) (by decide) ?_
      exact x10_r0 h1 hr hc
    · refine go_tswIn (tgt := 63) (off := 48) dX10_rule_15 (by unfold inR; omega) (by omega) (by omega) (by rfl) (by decide) ?_
      exact x10_r1 h1 hr hc
    · refine go_tswIn (tgt := 78) (off := 63) dX10_rule_15 (by unfold inR; omega) (by omega) (by omega) (by rfl) (by decide) ?_
      exact x10_r2 h1 hr hc
    · refine go_tswIn (tgt := 95) (off := 80) dX10_rule_15 (by unfold inR; omega) (by omega) (by omega) (by rfl) (by decide) ?_
      exact x10_r3 h1 hr hc
    · refine go_tswIn (tgt := 107) (off := 92) dX10_rule_15 (by unfold inR; omega) (by omega) (by omega) (by rfl) (by decide) ?_
      exact x10_r4 h1 hr hc
  · skip
    refine go_bipush dX10_rule_11 rfl ?_
    refine go_retI dX10_rule_13 rfl ?_
    unfold m_rule
    rw [if_pos (fun z => by rw [if_pos z] at b8; omega)]
    exact ⟨rfl, rfl⟩
theorem ev_X10_sign {σ : am_St} {s : mS} {r side p : Int} (h : RepC σ s) (hr : inR r) (hs : inR side) (hp : inR p) : am_Ev SH mX10_sign 2 [.ref 21, .int (iZ r), .int (iZ side), .int (iZ p)] σ (am_rI (fun x σ2 => x = m_sign s r side p ∧ σ2 = σ)) := by
  obtain ⟨h1, -⟩ := h
  have ht := h1.2.2.2.2
  have h8 := ht.2.1
  have hLR := ht.1
  have hsg := okw_sg ht.2.2.2.2 s.2.2.1
  have hgl := mt_sg_len s.2.1 s.2.2.1
  have hoL := okw_get (okw_of ht.2.2.2.1) r.toNat
  have hoG := okw_get hsg.1 r.toNat
  refine am_ev (by decide) [some (.ref 21), some (.int (iZ (r))), some (.int (iZ (side))), some (.int (iZ (p)))] rfl (Nat.le_of_ble_eq_true rfl) ?_
  refine go_aload_n dX10_sign_0 rfl ?_
  refine go_getr fl_X10_10 dX10_sign_1 sh_21 rfl ?_
  refine go_iload_n dX10_sign_4 rfl ?_
  refine go_cvP1 (M2 := mX6_has) dX10_sign_5 ml_X10_135 mv_X6_has sh_22 rfl rfl (Nat.le_of_ble_eq_true rfl) (by decide) (ev_X6_has h1 hr) ?_
  refine go_if_ne (tgt := 14) dX10_sign_8 (by decide) (by unfold inR; split <;> omega) (fun b8 => ?_) (fun b8 => ?_)
  · skip
    have hc : 0 ≤ r ∧ r < (s.2.1.length : Int) := by
      apply Classical.byContradiction
      intro z
      rw [if_neg z] at b8
      exact b8 rfl
    refine go_iload_n dX10_sign_14 rfl ?_
    refine go_if_lt (tgt := 23) dX10_sign_15 (by decide) hs (fun b15 => ?_) (fun b15 => ?_)
    · skip
      refine go_bipush dX10_sign_23 rfl ?_
      refine go_retI dX10_sign_25 rfl ?_
      unfold m_sign
      rw [if_neg (fun z => z hc), if_pos (by omega)]
      exact ⟨rfl, rfl⟩
    · skip
      refine go_iload_n dX10_sign_18 rfl ?_
      refine go_iconst dX10_sign_19 ?_
      refine go_icmp_le (tgt := 26) dX10_sign_20 (by decide) hs (by unfold inR; omega) (fun b20 => ?_) (fun b20 => ?_)
      · skip
        refine go_iload_n dX10_sign_26 rfl ?_
        refine go_if_ne (tgt := 44) dX10_sign_27 (by decide) hs (fun b27 => ?_) (fun b27 => ?_)
        · skip
          refine go_aload_n dX10_sign_44 rfl ?_
          refine go_getr fl_X10_10 dX10_sign_45 sh_21 rfl ?_
          refine go_getr fl_X10_157 dX10_sign_48 sh_22 rfl ?_
          refine go_iload_n dX10_sign_51 rfl ?_
          refine go_cvP1 (M2 := mX1_at) dX10_sign_52 ml_X10_148 mv_X1_at h1.2.2.1.1 rfl rfl (Nat.le_of_ble_eq_true rfl) (by decide) (ev_X1_at h1.2.2.1 hr) ?_
          rw [ln_at_map hc.1 (by omega)]
          refine go_iload_n dX10_sign_55 rfl ?_
          refine go_csP2 (M2 := mX9_character) dX10_sign_56 ml_X10_164 ms_X9_character (Nat.le_of_ble_eq_true rfl) (by decide) (ev_X9_character (by first | exact enc_inR hoL.1 hoL.2 | exact enc_inR hoG.1 hoG.2) hp) ?_
          refine go_retI dX10_sign_59 rfl ?_
          refine ⟨?_, rfl⟩
          first | rw [wd_char_enc hoG.1 hoG.2] | rw [wd_char_enc hoL.1 hoL.2]
          unfold m_sign
          rw [if_neg (fun z => z hc), if_neg (by omega)]
          first | rw [if_neg b27] | rw [if_pos b27]
        · skip
          refine go_aload_n dX10_sign_30 rfl ?_
          refine go_getr fl_X10_10 dX10_sign_31 sh_21 rfl ?_
          refine go_getr fl_X10_118 dX10_sign_34 sh_22 rfl ?_
          refine go_iload_n dX10_sign_37 rfl ?_
          refine go_cvP1 (M2 := mX1_at) dX10_sign_38 ml_X10_148 mv_X1_at h1.1.1 rfl rfl (Nat.le_of_ble_eq_true rfl) (by decide) (ev_X1_at h1.1 hr) ?_
          rw [ln_at_map hc.1 (by omega)]
          refine go_goto (tgt := 55) dX10_sign_41 (by decide) ?_
          refine go_iload_n dX10_sign_55 rfl ?_
          refine go_csP2 (M2 := mX9_character) dX10_sign_56 ml_X10_164 ms_X9_character (Nat.le_of_ble_eq_true rfl) (by decide) (ev_X9_character (by first | exact enc_inR hoL.1 hoL.2 | exact enc_inR hoG.1 hoG.2) hp) ?_
          refine go_retI dX10_sign_59 rfl ?_
          refine ⟨?_, rfl⟩
          first | rw [wd_char_enc hoG.1 hoG.2] | rw [wd_char_enc hoL.1 hoL.2]
          unfold m_sign
          rw [if_neg (fun z => z hc), if_neg (by omega)]
          first | rw [if_neg b27] | rw [if_pos b27]
      · skip
        refine go_bipush dX10_sign_23 rfl ?_
        refine go_retI dX10_sign_25 rfl ?_
        unfold m_sign
        rw [if_neg (fun z => z hc), if_pos (by omega)]
        exact ⟨rfl, rfl⟩
  · skip
    refine go_bipush dX10_sign_11 rfl ?_
    refine go_retI dX10_sign_13 rfl ?_
    unfold m_sign
    rw [if_pos (fun z => by rw [if_pos z] at b8; omega)]
    exact ⟨rfl, rfl⟩
theorem ev_X10_ink {σ : am_St} {s : mS} {p : Int} (h : RepC σ s) (hp : inR p) : am_Ev SH mX10_ink 1 [.ref 21, .int (iZ p)] σ (am_rI (fun x σ2 => x = ln_at s.2.2.2.1 p ∧ σ2 = σ)) := by
  have h2 := h.2.1
  refine am_ev (by decide) [some (.ref 21), some (.int (iZ (p)))] rfl (Nat.le_of_ble_eq_true rfl) ?_
  refine go_aload_n dX10_ink_0 rfl ?_
  refine go_getr fl_X10_25 dX10_ink_1 sh_21 rfl ?_
  refine go_iload_n dX10_ink_4 rfl ?_
  refine go_cvP1 (M2 := mX1_at) dX10_ink_5 ml_X10_148 mv_X1_at h2.1 rfl rfl (Nat.le_of_ble_eq_true rfl) (by decide) (ev_X1_at h2 hp) ?_
  refine go_retI dX10_ink_8 rfl ?_
  exact ⟨rfl, rfl⟩
/-- decoding of the text -/
def m_dec (s : mS) : List Int × Int := mt_dec (mt_sg s.2.1 s.2.2.1) s.2.2.2.1.length s.2.2.2.1 0
def m_stuck (s : mS) : Int := if (m_dec s).2 < s.2.2.2.1.length then (m_dec s).2 else -1
def m_back (s : mS) (w : Int) : Int := if w < 0 ∨ 1 < w then -102 else if w = 0 then ((m_dec s).1.length : Int) else m_stuck s
theorem m_dec_R (s : mS) (h : s.2.2.2.1.length ≤ 56) : 0 ≤ (m_dec s).2 ∧ (m_dec s).2 ≤ 56 := by
  have := mt_dec_end (mt_sg s.2.1 s.2.2.1) s.2.2.2.1.length s.2.2.2.1 0
  unfold m_dec
  omega
theorem ev_X10_stuckPlace {σ : am_St} {s : mS} (h : RepC σ s) : am_Ev SH mX10_stuckPlace 1 [.ref 21, .int (iZ (m_dec s).2)] σ (am_rI (fun x σ2 => x = m_stuck s ∧ σ2 = σ)) := by
  have h2 := h.2.1
  have h56 := h2.2.2.2.2.1
  have hR := m_dec_R s h56
  refine am_ev (by decide) [some (.ref 21), some (.int (iZ ((m_dec s).2)))] rfl (Nat.le_of_ble_eq_true rfl) ?_
  refine go_iload_n dX10_stuckPlace_0 rfl ?_
  refine go_aload_n dX10_stuckPlace_1 rfl ?_
  refine go_getr fl_X10_25 dX10_stuckPlace_2 sh_21 rfl ?_
  refine go_cvP0 (M2 := mX1_size) dX10_stuckPlace_5 ml_X10_83 mv_X1_size h2.1 rfl rfl (Nat.le_of_ble_eq_true rfl) (by decide) (ev_X1_size h2) ?_
  refine go_icmp_ge (tgt := 15) dX10_stuckPlace_8 (by decide) (by unfold inR; omega) (by unfold inR; omega) (fun b8 => ?_) (fun b8 => ?_)
  · skip
    refine go_iconst dX10_stuckPlace_15 ?_
    refine go_retI dX10_stuckPlace_16 rfl ?_
    refine ⟨?_, rfl⟩
    unfold m_stuck
    split <;> omega
  · skip
    refine go_iload_n dX10_stuckPlace_11 rfl ?_
    refine go_goto (tgt := 16) dX10_stuckPlace_12 (by decide) ?_
    refine go_retI dX10_stuckPlace_16 rfl ?_
    refine ⟨?_, rfl⟩
    unfold m_stuck
    split <;> omega
theorem RepC.dec {σ : am_St} {s : mS} (h : RepC σ s) : am_Ev SH mX2_decode 3 [.ref 27, .ref 31, .ref 33] σ (am_rI (fun x σ2 => x = (m_dec s).2 ∧ hold σ2 33 56 (m_dec s).1 ∧ am_off [33, 34] σ σ2)) := by
  obtain ⟨h1, h2, h3, h4, h5, h6, ⟨⟨y1, k1⟩, k2⟩, h8⟩ := h
  have ht := h1.2.2.2.2
  have hsg := okw_sg ht.2.2.2.2 s.2.2.1
  exact ev_X2_decode h1.2.2.1 h2 k1 hsg.1 (by rw [mt_sg_len]; have := ht.2.1; omega) (by decide) h2.2.2.2.2.1 (by decide) (by decide)
theorem ev_X10_back {σ : am_St} {s : mS} {w : Int} (h : RepC σ s) (hw : inR w) : am_Ev SH mX10_back 4 [.ref 21, .int (iZ w)] σ (am_rI (fun x σ2 => x = m_back s w ∧ RepC σ2 s ∧ am_off XL σ σ2)) := by
  have h56 := h.2.1.2.2.2.2.1
  have hR := m_dec_R s h56
  refine am_ev (by decide) [some (.ref 21), some (.int (iZ (w))), none] rfl (Nat.le_of_ble_eq_true rfl) ?_
  refine go_iload_n dX10_back_0 rfl ?_
  refine go_if_lt (tgt := 9) dX10_back_1 (by decide) hw (fun b1 => ?_) (fun b1 => ?_)
  · skip
    refine go_bipush dX10_back_9 rfl ?_
    refine go_retI dX10_back_11 rfl ?_
    unfold m_back
    rw [if_pos (by omega)]
    exact ⟨rfl, h, am_off.rf⟩
  · skip
    refine go_iload_n dX10_back_4 rfl ?_
    refine go_iconst dX10_back_5 ?_
    refine go_icmp_le (tgt := 12) dX10_back_6 (by decide) hw (by unfold inR; omega) (fun b6 => ?_) (fun b6 => ?_)
    · skip
      refine go_aload_n dX10_back_12 rfl ?_
      refine go_getr fl_X10_10 dX10_back_13 sh_21 rfl ?_
      refine go_getr fl_X10_157 dX10_back_16 sh_22 rfl ?_
      refine go_aload_n dX10_back_19 rfl ?_
      refine go_getr fl_X10_25 dX10_back_20 sh_21 rfl ?_
      refine go_aload_n dX10_back_23 rfl ?_
      refine go_getr fl_X10_28 dX10_back_24 sh_21 rfl ?_
      refine go_csI3 (M2 := mX2_decode) dX10_back_27 ml_X10_119 ms_X2_decode (Nat.le_of_ble_eq_true rfl) (by decide) (h.dec) (fun x σ1 hq => ?_)
      obtain ⟨rfl, hq1, hq2⟩ := hq
      have rep1 := h.row hq2 hq1
      refine go_ist2 dX10_back_30 (Nat.le_of_ble_eq_true rfl) rfl ?_
      refine go_iload_n dX10_back_31 rfl ?_
      refine go_if_ne (tgt := 43) dX10_back_32 (by decide) hw (fun b32 => ?_) (fun b32 => ?_)
      · skip
        refine go_aload_n dX10_back_43 rfl ?_
        refine go_iload_n dX10_back_44 rfl ?_
        refine go_cvP1 (M2 := mX10_stuckPlace) dX10_back_45 ml_X10_168 mv_X10_stuckPlace sh_21 rfl rfl (Nat.le_of_ble_eq_true rfl) (by decide) (ev_X10_stuckPlace rep1) ?_
        refine go_retI dX10_back_48 rfl ?_
        unfold m_back
        rw [if_neg (by omega), if_neg b32]
        exact ⟨rfl, rep1, XL_of hq2 (by decide)⟩
      · skip
        refine go_aload_n dX10_back_35 rfl ?_
        refine go_getr fl_X10_28 dX10_back_36 sh_21 rfl ?_
        refine go_cvP0 (M2 := mX1_size) dX10_back_39 ml_X10_83 mv_X1_size hq1.1 rfl rfl (Nat.le_of_ble_eq_true rfl) (by decide) (ev_X1_size hq1) ?_
        refine go_retI dX10_back_42 rfl ?_
        unfold m_back
        rw [if_neg (by omega), if_pos b32]
        exact ⟨rfl, rep1, XL_of hq2 (by decide)⟩
    · skip
      refine go_bipush dX10_back_9 rfl ?_
      refine go_retI dX10_back_11 rfl ?_
      unfold m_back
      rw [if_pos (by omega)]
      exact ⟨rfl, h, am_off.rf⟩
theorem ev_X10_backAt {σ : am_St} {s : mS} {p : Int} (h : RepC σ s) (hp : inR p) : am_Ev SH mX10_backAt 4 [.ref 21, .int (iZ p)] σ (am_rI (fun x σ2 => x = ln_at (m_dec s).1 p ∧ RepC σ2 s ∧ am_off XL σ σ2)) := by
  refine am_ev (by decide) [some (.ref 21), some (.int (iZ (p)))] rfl (Nat.le_of_ble_eq_true rfl) ?_
  refine go_aload_n dX10_backAt_0 rfl ?_
  refine go_getr fl_X10_10 dX10_backAt_1 sh_21 rfl ?_
  refine go_getr fl_X10_157 dX10_backAt_4 sh_22 rfl ?_
  refine go_aload_n dX10_backAt_7 rfl ?_
  refine go_getr fl_X10_25 dX10_backAt_8 sh_21 rfl ?_
  refine go_aload_n dX10_backAt_11 rfl ?_
  refine go_getr fl_X10_28 dX10_backAt_12 sh_21 rfl ?_
  refine go_csI3 (M2 := mX2_decode) dX10_backAt_15 ml_X10_119 ms_X2_decode (Nat.le_of_ble_eq_true rfl) (by decide) (h.dec) (fun x σ1 hq => ?_)
  obtain ⟨rfl, hq1, hq2⟩ := hq
  have rep1 := h.row hq2 hq1
  refine go_pop dX10_backAt_18 rfl ?_
  refine go_aload_n dX10_backAt_19 rfl ?_
  refine go_getr fl_X10_28 dX10_backAt_20 sh_21 rfl ?_
  refine go_iload_n dX10_backAt_23 rfl ?_
  refine go_cvP1 (M2 := mX1_at) dX10_backAt_24 ml_X10_148 mv_X1_at hq1.1 rfl rfl (Nat.le_of_ble_eq_true rfl) (by decide) (ev_X1_at hq1 hp) ?_
  refine go_retI dX10_backAt_27 rfl ?_
  exact ⟨rfl, rep1, XL_of hq2 (by decide)⟩
theorem RepC.sp {σ σ' : am_St} {s : mS} (h : RepC σ s) (ho : am_off [40, 41, 42] σ σ') : RepC σ' s := by
  obtain ⟨h1, h2, h3, h4, h5, h6, ⟨⟨y1, k1⟩, k2, k3, k4, k5⟩, h8⟩ := h
  have o21 := (ho 21 (by decide)).1
  obtain ⟨⟨y2, a2⟩, y3, a3⟩ := k2
  obtain ⟨⟨y4, a4⟩, ⟨y5, a5⟩, ⟨y6, a6⟩, ⟨y7, a7⟩, a8, y9, a9⟩ := k3
  obtain ⟨⟨y10, a10⟩, y11, a11⟩ := k4
  obtain ⟨⟨y12, a12⟩, ⟨y13, a13⟩, y14, a14⟩ := k5
  refine ⟨h1.off ho (by decide), h2.off ho (by decide) (by decide), h3.off ho (by decide) (by decide), (o21 11).trans h4, (o21 12).trans h5, (o21 13).trans h6, ⟨⟨_, k1.off ho (by decide) (by decide)⟩, ⟨⟨y2, a2.off ho (by decide) (by decide)⟩, y3, a3.off ho (by decide) (by decide)⟩, ⟨⟨y4, a4.off ho (by decide) (by decide)⟩, ⟨y5, a5.off ho (by decide) (by decide)⟩, ⟨y6, a6.off ho (by decide) (by decide)⟩, ⟨y7, a7.off ho (by decide) (by decide)⟩, fun i hi => by obtain ⟨ys, hy⟩ := a8 i hi; exact ⟨ys, hy.off ho (by simp; omega) (by simp; omega)⟩, y9, a9.off ho (by decide) (by decide)⟩, ⟨⟨y10, a10.off ho (by decide) (by decide)⟩, y11, a11.off ho (by decide) (by decide)⟩, ⟨y12, a12.off ho (by decide) (by decide)⟩, ⟨y13, a13.off ho (by decide) (by decide)⟩, y14, a14.off ho (by decide) (by decide)⟩, h8.off ho (by decide)⟩
theorem RepC.wgh {σ : am_St} {s : mS} (h : RepC σ s) : am_Ev SH mX7_weigh 3 [.ref 40, .ref 27, .ref 31] σ (am_rV (fun σ2 => spl σ2 40 (mt_sg s.2.1 s.2.2.1) s.2.2.2.1 0 ∧ am_off [40, 41, 42] σ σ2)) := by
  obtain ⟨h1, h2, -⟩ := h
  have ht := h1.2.2.2.2
  have hsg := okw_sg ht.2.2.2.2 s.2.2.1
  exact ev_X7_weigh isSp_40 h1.2.2.1 h2 hsg.1 (by rw [mt_sg_len]; have := ht.2.1; omega) h2.2.2.2.2.1 (by decide) (by decide) (by decide)
def m_ways (s : mS) : Int := (mt_ws (mt_sg s.2.1 s.2.2.1) s.2.2.2.1).getD 0 0
def m_row1 (s : mS) : List Int := mt_pick (mt_sg s.2.1 s.2.2.1) s.2.2.2.1 0
theorem ev_X10_ways {σ : am_St} {s : mS} (h : RepC σ s) : am_Ev SH mX10_ways 4 [.ref 21] σ (am_rI (fun x σ2 => x = m_ways s ∧ RepC σ2 s ∧ am_off XL σ σ2)) := by
  refine am_ev (by decide) [some (.ref 21)] rfl (Nat.le_of_ble_eq_true rfl) ?_
  refine go_aload_n dX10_ways_0 rfl ?_
  refine go_getr fl_X10_41 dX10_ways_1 sh_21 rfl ?_
  refine go_aload_n dX10_ways_4 rfl ?_
  refine go_getr fl_X10_10 dX10_ways_5 sh_21 rfl ?_
  refine go_getr fl_X10_157 dX10_ways_8 sh_22 rfl ?_
  refine go_aload_n dX10_ways_11 rfl ?_
  refine go_getr fl_X10_25 dX10_ways_12 sh_21 rfl ?_
  refine go_cvV2 (M2 := mX7_weigh) dX10_ways_15 ml_X10_171 mv_X7_weigh sh_40 rfl rfl (Nat.le_of_ble_eq_true rfl) (by decide) (h.wgh) (fun σ1 hq => ?_)
  refine go_aload_n dX10_ways_18 rfl ?_
  refine go_getr fl_X10_41 dX10_ways_19 sh_21 rfl ?_
  refine go_cvP0 (M2 := mX7_total) dX10_ways_22 ml_X10_174 mv_X7_total sh_40 rfl rfl (Nat.le_of_ble_eq_true rfl) (by decide) (ev_X7_total isSp_40 hq.1) ?_
  refine go_retI dX10_ways_25 rfl ?_
  exact ⟨rfl, h.sp hq.2, XL_of hq.2 (by decide)⟩
theorem RepC.pck {σ : am_St} {s : mS} (h : RepC σ s) (hw : spl σ 40 (mt_sg s.2.1 s.2.2.1) s.2.2.2.1 0) : am_Ev SH mX7_pick 2 [.ref 40, .ref 27, .ref 31, .int (iZ 0), .ref 33] σ (am_rV (fun σ2 => hold σ2 33 56 (m_row1 s) ∧ am_off [33, 34] σ σ2)) := by
  obtain ⟨h1, h2, h3, h4, h5, h6, ⟨⟨y1, k1⟩, k2⟩, h8⟩ := h
  have ht := h1.2.2.2.2
  have hsg := okw_sg ht.2.2.2.2 s.2.2.1
  exact ev_X7_pick isSp_40 h1.2.2.1 h2 k1 hsg.1 (by rw [mt_sg_len]; have := ht.2.1; omega) h2.2.2.2.2.1 h2.2.2.2.2.1 (by decide) hw (by decide) (by decide) (by decide) (by decide) (by decide)
theorem ev_X10_first {σ : am_St} {s : mS} {p : Int} (h : RepC σ s) (hp : inR p) : am_Ev SH mX10_first 4 [.ref 21, .int (iZ p)] σ (am_rI (fun x σ2 => x = ln_at (m_row1 s) p ∧ RepC σ2 s ∧ am_off XL σ σ2)) := by
  refine am_ev (by decide) [some (.ref 21), some (.int (iZ (p)))] rfl (Nat.le_of_ble_eq_true rfl) ?_
  refine go_aload_n dX10_first_0 rfl ?_
  refine go_getr fl_X10_41 dX10_first_1 sh_21 rfl ?_
  refine go_aload_n dX10_first_4 rfl ?_
  refine go_getr fl_X10_10 dX10_first_5 sh_21 rfl ?_
  refine go_getr fl_X10_157 dX10_first_8 sh_22 rfl ?_
  refine go_aload_n dX10_first_11 rfl ?_
  refine go_getr fl_X10_25 dX10_first_12 sh_21 rfl ?_
  refine go_cvV2 (M2 := mX7_weigh) dX10_first_15 ml_X10_171 mv_X7_weigh sh_40 rfl rfl (Nat.le_of_ble_eq_true rfl) (by decide) (h.wgh) (fun σ1 hq => ?_)
  have rep1 := h.sp hq.2
  refine go_aload_n dX10_first_18 rfl ?_
  refine go_getr fl_X10_41 dX10_first_19 sh_21 rfl ?_
  refine go_aload_n dX10_first_22 rfl ?_
  refine go_getr fl_X10_10 dX10_first_23 sh_21 rfl ?_
  refine go_getr fl_X10_157 dX10_first_26 sh_22 rfl ?_
  refine go_aload_n dX10_first_29 rfl ?_
  refine go_getr fl_X10_25 dX10_first_30 sh_21 rfl ?_
  refine go_iconst dX10_first_33 ?_
  refine go_aload_n dX10_first_34 rfl ?_
  refine go_getr fl_X10_28 dX10_first_35 sh_21 rfl ?_
  refine go_cvV4 (M2 := mX7_pick) dX10_first_38 ml_X10_177 mv_X7_pick sh_40 rfl rfl (Nat.le_of_ble_eq_true rfl) (by decide) (rep1.pck hq.1) (fun σ2 hq2 => ?_)
  refine go_aload_n dX10_first_41 rfl ?_
  refine go_getr fl_X10_28 dX10_first_42 sh_21 rfl ?_
  refine go_iload_n dX10_first_45 rfl ?_
  refine go_cvP1 (M2 := mX1_at) dX10_first_46 ml_X10_148 mv_X1_at hq2.1.1 rfl rfl (Nat.le_of_ble_eq_true rfl) (by decide) (ev_X1_at hq2.1 hp) ?_
  refine go_retI dX10_first_49 rfl ?_
  exact ⟨rfl, rep1.row hq2.2 hq2.1, (XL_of hq.2 (by decide)).tr (XL_of hq2.2 (by decide))⟩
