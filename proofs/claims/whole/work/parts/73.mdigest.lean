/-! ===== the reference: mix, mixRules, mixText, mixClash, mixAheads, digest ===== -/
theorem ev_X11_mix {σ : am_St} {v : Int} : am_Ev SH mX11_mix 0 [.ref 0, .long (lZ v)] σ (am_rV (fun σ2 => σ2.2.1 0 37 = 31 * σ.2.1 0 37 + v ∧ fr [37] [] σ σ2)) := by
  refine am_ev (by decide) [some (.ref 0), some (.long (lZ (v))), none] rfl (Nat.le_of_ble_eq_true rfl) ?_
  refine go_aload_n dX11_mix_0 rfl ?_
  refine go_ldc2 dX11_mix_1 kc_X11_340 ?_
  refine go_aload_n dX11_mix_4 rfl ?_
  refine go_getl fl_X11_342 dX11_mix_5 sh_0 rfl ?_
  refine go_lmul dX11_mix_8 ?_
  refine go_lload_n dX11_mix_9 rfl ?_
  refine go_ladd dX11_mix_10 ?_
  refine go_putl fl_X11_342 dX11_mix_11 sh_0 rfl am_fit_long ?_
  refine go_retV dX11_mix_14 rfl ?_
  exact ⟨by simp [am_sl], fr_sl (by decide)⟩
theorem ev_X11_mixRules {σ : am_St} {s : mS} (h : tbM σ s.1 s.2.1 s.2.2.1) (h5 : σ.1 0 5 = (s.2.2.1 : Int)) : am_Ev SH mX11_mixRules 4 [.ref 0] σ (am_rV (fun σ2 => σ2.2.1 0 37 = hs (σ.2.1 0 37) (m_rulesV s) ∧ fr [37] [] σ σ2)) := by
  generalize hT : hs (σ.2.1 0 37) (m_rulesV s) = T
  have h8 := h.S8
  have ht := h.2.2.2.2
  generalize hQ : (am_rV (fun σ2 => σ2.2.1 0 37 = T ∧ fr [37] [] σ σ2)) = Q
  have loop : ∀ (m : Nat) (i : Nat) (o : Option Value) (σ1 : am_St), s.2.1.length - i < m → i ≤ s.2.1.length → fr [37] [] σ σ1 → hs (σ1.2.1 0 37) (((List.range s.2.1.length).drop i).flatMap (m_ruV s)) = T → am_Go SH mX11_mixRules 4 Q 2 [some (.ref 0), some (.int (iZ (i : Int))), o] [] σ1 := by
    intro m
    induction m with
    | zero => intro i o σ1 hm; exact absurd hm (by omega)
    | succ m ih =>
      intro i o σ1 hm hi ho he
      have t1 := h.fr ho (by decide) (by decide)
      by_cases hlt : i < s.2.1.length
      · rw [rg_drop hlt, List.flatMap_cons, show m_ruV s i = (List.range 5).map (fun w : Nat => m_rule s i (w : Int)) ++ (s.1.getD i [] ++ (mt_sg s.2.1 s.2.2.1).getD i []) from rfl, List.append_assoc, List.append_assoc] at he
        have hltL : i < s.1.length := by have := ht.1; omega
        have cL := okr_get ht.2.2.2.1 i
        have cS := h.sg i
        generalize hR : ((List.range s.2.1.length).drop (i + 1)).flatMap (m_ruV s) = rest at *
        have i3 : ∀ (m2 j : Nat) (σ2 : am_St), ((mt_sg s.2.1 s.2.2.1).getD i []).length - j < m2 → j ≤ ((mt_sg s.2.1 s.2.2.1).getD i []).length → fr [37] [] σ σ2 → hs (σ2.2.1 0 37) (((mt_sg s.2.1 s.2.2.1).getD i []).drop j ++ rest) = T → am_Go SH mX11_mixRules 4 Q 69 [some (.ref 0), some (.int (iZ (i : Int))), some (.int (iZ (j : Int)))] [] σ2 := by
          intro m2
          induction m2 with
          | zero => intro j σ2 hm2; exact absurd hm2 (by omega)
          | succ m2 ih2 =>
            intro j σ2 hm2 hj ho2 he2
            have t2 := h.fr ho2 (by decide) (by decide)
            by_cases hltj : j < ((mt_sg s.2.1 s.2.2.1).getD i []).length
            · rw [ln_at_drop hltj, List.cons_append, hs_cons] at he2
              refine go_iload_n dX11_mixRules_69 rfl ?_
              refine go_aload_n dX11_mixRules_70 rfl ?_
              refine go_iload_n dX11_mixRules_71 rfl ?_
              refine go_cvP1 (M2 := mX11_signLength) dX11_mixRules_72 ml_X11_137 mv_X11_signLength sh_0 rfl rfl (Nat.le_of_ble_eq_true rfl) (by decide) (ev_X11_signLength t2 hlt) ?_
              refine go_icmp_ge (tgt := 95) dX11_mixRules_75 (by decide) (by unfold inR; omega) (by unfold inR; omega) (fun b75 => ?_) (fun b75 => ?_)
              · skip
                omega
              · skip
                refine go_aload_n dX11_mixRules_78 rfl ?_
                refine go_aload_n dX11_mixRules_79 rfl ?_
                refine go_iload_n dX11_mixRules_80 rfl ?_
                refine go_iload_n dX11_mixRules_81 rfl ?_
                refine go_cvP2 (M2 := mX11_signAt) dX11_mixRules_82 ml_X11_140 mv_X11_signAt sh_0 rfl rfl (Nat.le_of_ble_eq_true rfl) (by decide) (ev_X11_signAt t2 hlt hltj) ?_
                refine go_i2l dX11_mixRules_85 (ln_at_R (okl_R cS.1)) ?_
                refine go_cvV1 (M2 := mX11_mix) dX11_mixRules_86 ml_X11_345 mv_X11_mix sh_0 rfl rfl (Nat.le_of_ble_eq_true rfl) (by decide) (ev_X11_mix) (fun σ3 hq => ?_)
                refine go_inc2 dX11_mixRules_89 (Nat.le_of_ble_eq_true rfl) rfl ?_
                refine go_goto (tgt := 69) dX11_mixRules_92 (by decide) ?_
                exact ih2 (j + 1) _ (by omega) (by omega) (ho2.tr hq.2) (by rw [hq.1]; exact he2)
            · rw [List.drop_eq_nil_of_le (by omega), List.nil_append] at he2
              refine go_iload_n dX11_mixRules_69 rfl ?_
              refine go_aload_n dX11_mixRules_70 rfl ?_
              refine go_iload_n dX11_mixRules_71 rfl ?_
              refine go_cvP1 (M2 := mX11_signLength) dX11_mixRules_72 ml_X11_137 mv_X11_signLength sh_0 rfl rfl (Nat.le_of_ble_eq_true rfl) (by decide) (ev_X11_signLength t2 hlt) ?_
              refine go_icmp_ge (tgt := 95) dX11_mixRules_75 (by decide) (by unfold inR; omega) (by unfold inR; omega) (fun b75 => ?_) (fun b75 => ?_)
              · skip
                refine go_inc1 dX11_mixRules_95 (Nat.le_of_ble_eq_true rfl) rfl ?_
                refine go_goto (tgt := 2) dX11_mixRules_98 (by decide) ?_
                exact ih (i + 1) _ _ (by omega) (by omega) ho2 (by rw [hR]; exact he2)
              · skip
                omega
        have i2 : ∀ (m2 j : Nat) (σ2 : am_St), (s.1.getD i []).length - j < m2 → j ≤ (s.1.getD i []).length → fr [37] [] σ σ2 → hs (σ2.2.1 0 37) ((s.1.getD i []).drop j ++ ((mt_sg s.2.1 s.2.2.1).getD i [] ++ rest)) = T → am_Go SH mX11_mixRules 4 Q 36 [some (.ref 0), some (.int (iZ (i : Int))), some (.int (iZ (j : Int)))] [] σ2 := by
          intro m2
          induction m2 with
          | zero => intro j σ2 hm2; exact absurd hm2 (by omega)
          | succ m2 ih2 =>
            intro j σ2 hm2 hj ho2 he2
            have t2 := h.fr ho2 (by decide) (by decide)
            have f1 := (t2.2.2.1 i hltL).1
            by_cases hltj : j < (s.1.getD i []).length
            · have f2 := (t2.2.2.1 i hltL).2 j hltj
              rw [ln_at_drop hltj, List.cons_append, hs_cons] at he2
              refine go_iload_n dX11_mixRules_36 rfl ?_
              refine go_aload_n dX11_mixRules_37 rfl ?_
              refine go_getr fl_X11_7 dX11_mixRules_38 sh_0 rfl ?_
              refine go_iload_n dX11_mixRules_41 rfl ?_
              refine go_iaload dX11_mixRules_42 (by first | assumption | rfl) (by first | assumption | exact Nat.le_of_ble_eq_true rfl) (by omega) (by omega) ?_
              first | (rw [f1]) | (rw [f2]) | skip
              refine go_icmp_ge (tgt := 67) dX11_mixRules_43 (by decide) (by unfold inR; omega) (by unfold inR; omega) (fun b43 => ?_) (fun b43 => ?_)
              · skip
                omega
              · skip
                refine go_aload_n dX11_mixRules_46 rfl ?_
                refine go_aload_n dX11_mixRules_47 rfl ?_
                refine go_getr fl_X11_16 dX11_mixRules_48 sh_0 rfl ?_
                refine go_iconst dX11_mixRules_51 ?_
                refine go_iload_n dX11_mixRules_52 rfl ?_
                refine go_imul dX11_mixRules_53 ?_
                refine go_iload_n dX11_mixRules_54 rfl ?_
                refine go_iadd dX11_mixRules_55 ?_
                refine go_iaload dX11_mixRules_56 (by first | assumption | rfl) (by first | assumption | exact Nat.le_of_ble_eq_true rfl) (by omega) (by omega) ?_
                first | (rw [f1]) | (rw [f2]) | skip
                refine go_i2l dX11_mixRules_57 (ln_at_R (okl_R cL.1)) ?_
                refine go_cvV1 (M2 := mX11_mix) dX11_mixRules_58 ml_X11_345 mv_X11_mix sh_0 rfl rfl (Nat.le_of_ble_eq_true rfl) (by decide) (ev_X11_mix) (fun σ3 hq => ?_)
                refine go_inc2 dX11_mixRules_61 (Nat.le_of_ble_eq_true rfl) rfl ?_
                refine go_goto (tgt := 36) dX11_mixRules_64 (by decide) ?_
                exact ih2 (j + 1) _ (by omega) (by omega) (ho2.tr hq.2) (by rw [hq.1]; exact he2)
            · rw [List.drop_eq_nil_of_le (by omega), List.nil_append] at he2
              refine go_iload_n dX11_mixRules_36 rfl ?_
              refine go_aload_n dX11_mixRules_37 rfl ?_
              refine go_getr fl_X11_7 dX11_mixRules_38 sh_0 rfl ?_
              refine go_iload_n dX11_mixRules_41 rfl ?_
              refine go_iaload dX11_mixRules_42 (by first | assumption | rfl) (by first | assumption | exact Nat.le_of_ble_eq_true rfl) (by omega) (by omega) ?_
              first | (rw [f1]) | skip
              refine go_icmp_ge (tgt := 67) dX11_mixRules_43 (by decide) (by unfold inR; omega) (by unfold inR; omega) (fun b43 => ?_) (fun b43 => ?_)
              · skip
                refine go_iconst dX11_mixRules_67 ?_
                refine go_ist2 dX11_mixRules_68 (Nat.le_of_ble_eq_true rfl) rfl ?_
                exact i3 (((mt_sg s.2.1 s.2.2.1).getD i []).length + 1) 0 _ (by omega) (by omega) ho2 he2
              · skip
                omega
        have i1 : ∀ (m2 w : Nat) (σ2 : am_St), 5 - w < m2 → w ≤ 5 → fr [37] [] σ σ2 → hs (σ2.2.1 0 37) (((List.range 5).drop w).map (fun w : Nat => m_rule s i (w : Int)) ++ (s.1.getD i [] ++ ((mt_sg s.2.1 s.2.2.1).getD i [] ++ rest))) = T → am_Go SH mX11_mixRules 4 Q 12 [some (.ref 0), some (.int (iZ (i : Int))), some (.int (iZ (w : Int)))] [] σ2 := by
          intro m2
          induction m2 with
          | zero => intro w σ2 hm2; exact absurd hm2 (by omega)
          | succ m2 ih2 =>
            intro w σ2 hm2 hw ho2 he2
            have t2 := h.fr ho2 (by decide) (by decide)
            have h52 : σ2.1 0 5 = (s.2.2.1 : Int) := by rw [ho2.f 5 (by decide)]; exact h5
            by_cases hltw : w < 5
            · rw [rg_drop hltw, List.map_cons, List.cons_append, hs_cons] at he2
              refine go_iload_n dX11_mixRules_12 rfl ?_
              refine go_iconst dX11_mixRules_13 ?_
              refine go_icmp_ge (tgt := 34) dX11_mixRules_14 (by decide) (by unfold inR; omega) (by unfold inR; omega) (fun b14 => ?_) (fun b14 => ?_)
              · skip
                omega
              · skip
                refine go_aload_n dX11_mixRules_17 rfl ?_
                refine go_aload_n dX11_mixRules_18 rfl ?_
                refine go_iload_n dX11_mixRules_19 rfl ?_
                refine go_iload_n dX11_mixRules_20 rfl ?_
                refine go_cvP2 (M2 := mX11_ruleNow) dX11_mixRules_21 ml_X11_164 mv_X11_ruleNow sh_0 rfl rfl (Nat.le_of_ble_eq_true rfl) (by decide) (ev_X11_ruleNow t2 h52 hlt (by omega) (by omega)) ?_
                refine go_i2l dX11_mixRules_24 (m_rule_R ht _ _) ?_
                refine go_cvV1 (M2 := mX11_mix) dX11_mixRules_25 ml_X11_345 mv_X11_mix sh_0 rfl rfl (Nat.le_of_ble_eq_true rfl) (by decide) (ev_X11_mix) (fun σ3 hq => ?_)
                refine go_inc2 dX11_mixRules_28 (Nat.le_of_ble_eq_true rfl) rfl ?_
                refine go_goto (tgt := 12) dX11_mixRules_31 (by decide) ?_
                exact ih2 (w + 1) _ (by omega) (by omega) (ho2.tr hq.2) (by rw [hq.1]; exact he2)
            · rw [show w = 5 by omega] at he2
              refine go_iload_n dX11_mixRules_12 rfl ?_
              refine go_iconst dX11_mixRules_13 ?_
              refine go_icmp_ge (tgt := 34) dX11_mixRules_14 (by decide) (by unfold inR; omega) (by unfold inR; omega) (fun b14 => ?_) (fun b14 => ?_)
              · skip
                refine go_iconst dX11_mixRules_34 ?_
                refine go_ist2 dX11_mixRules_35 (Nat.le_of_ble_eq_true rfl) rfl ?_
                exact i2 ((s.1.getD i []).length + 1) 0 _ (by omega) (by omega) ho2 he2
              · skip
                omega
        refine go_iload_n dX11_mixRules_2 rfl ?_
        refine go_aload_n dX11_mixRules_3 rfl ?_
        refine go_geti fl_X11_109 dX11_mixRules_4 sh_0 rfl ?_
        first | (rw [t1.1]) | skip
        refine go_icmp_ge (tgt := 101) dX11_mixRules_7 (by decide) (by unfold inR; omega) (by unfold inR; omega) (fun b7 => ?_) (fun b7 => ?_)
        · skip
          omega
        · skip
          refine go_iconst dX11_mixRules_10 ?_
          refine go_ist2 dX11_mixRules_11 (Nat.le_of_ble_eq_true rfl) rfl ?_
          refine i1 6 0 _ (by omega) (by omega) ho ?_
          exact he
      · rw [show i = s.2.1.length by omega, List.drop_eq_nil_of_le (by rw [List.length_range]; exact Nat.le_refl _)] at he
        refine go_iload_n dX11_mixRules_2 rfl ?_
        refine go_aload_n dX11_mixRules_3 rfl ?_
        refine go_geti fl_X11_109 dX11_mixRules_4 sh_0 rfl ?_
        first | (rw [t1.1]) | skip
        refine go_icmp_ge (tgt := 101) dX11_mixRules_7 (by decide) (by unfold inR; omega) (by unfold inR; omega) (fun b7 => ?_) (fun b7 => ?_)
        · skip
          subst hQ
          refine go_retV dX11_mixRules_101 rfl ?_
          exact ⟨he, ho⟩
        · skip
          omega
  refine am_ev (by decide) [some (.ref 0), none, none] rfl (Nat.le_of_ble_eq_true rfl) ?_
  refine go_iconst dX11_mixRules_0 ?_
  refine go_ist1 dX11_mixRules_1 (Nat.le_of_ble_eq_true rfl) rfl ?_
  exact loop (s.2.1.length + 1) 0 _ _ (by omega) (by omega) fr.rf hT
def DTF : List Nat := [21, 25, 26, 37]
def DTA : List Nat := [12, 13, 14, 15]
theorem ev_X11_mixText {σ : am_St} {s : mS} (h : RepM σ s) : am_Ev SH mX11_mixText 4 [.ref 0] σ (am_rV (fun σ2 => σ2.2.1 0 37 = hs (σ.2.1 0 37) (s.2.2.2.1 ++ m_rowsV s) ∧ fr DTF DTA σ σ2)) := by
  generalize hT : hs (σ.2.1 0 37) (s.2.2.2.1 ++ m_rowsV s) = T
  have hS8 := h.1.S8
  have hl := h.2.2.1.2.2.2
  have hok := h.2.2.1.2.2.1
  have hpk := mt_pick_bd (mt_sg s.2.1 s.2.2.1) s.2.2.2.1 0
  have hml := mt_len (mt_sg s.2.1 s.2.2.1) s.2.2.2.1.length s.2.2.2.1 0
  generalize hQ : (am_rV (fun σ2 => σ2.2.1 0 37 = T ∧ fr DTF DTA σ σ2)) = Q
  have l3 : ∀ (m k : Nat) (σ1 : am_St), (m_row1 s).length - k < m → k ≤ (m_row1 s).length → wkM σ1 s.2.2.2.1 → spM σ1 (mt_sg s.2.1 s.2.2.1) s.2.2.2.1 0 → fr DTF DTA σ σ1 → hs (σ1.2.1 0 37) ((m_row1 s).drop k) = T → am_Go SH mX11_mixText 4 Q 97 [some (.ref 0), some (.int (iZ (k : Int)))] [] σ1 := by
    intro m
    induction m with
    | zero => intro k σ1 hm; exact absurd hm (by omega)
    | succ m ih =>
      intro k σ1 hm hk hwk hsp ho he
      have t1 := h.1.fr ho (by decide) (by decide)
      have hR := rowAt_R (l := m_row1 s) (n := ((mt_sg s.2.1 s.2.2.1).length : Int)) (by unfold inR; omega) hpk.2 (k : Int)
      by_cases hlt : k < (m_row1 s).length
      · have h0 : 0 ≤ rowAt (m_row1 s) (k : Int) := rowAt_in (fun r hr => (hpk.2 r hr).1) hlt
        have eat : rowAt (m_row1 s) (k : Int) = ln_at (m_row1 s) (k : Int) := by unfold rowAt; rw [if_pos (by omega)]
        rw [ln_at_drop hlt, hs_cons] at he
        refine go_aload_n dX11_mixText_97 rfl ?_
        refine go_iconst dX11_mixText_98 ?_
        refine go_iload_n dX11_mixText_99 rfl ?_
        refine go_cvP2 (M2 := mX11_ruleIn) dX11_mixText_100 ml_X11_201 mv_X11_ruleIn sh_0 rfl rfl (Nat.le_of_ble_eq_true rfl) (by decide) (ev_X11_ruleIn t1 hwk hsp (by omega) (by omega) (by have := hpk.1; unfold m_row1 at hlt; unfold inR; omega)) ?_
        refine go_iconst dX11_mixText_103 ?_
        rw [show mt_pick (mt_sg s.2.1 s.2.2.1) s.2.2.2.1 0 = m_row1 s from rfl]
        refine go_icmp_eq (tgt := 124) dX11_mixText_104 (by decide) hR (by unfold inR; omega) (fun b104 => ?_) (fun b104 => ?_)
        · skip
          omega
        · skip
          refine go_aload_n dX11_mixText_107 rfl ?_
          refine go_aload_n dX11_mixText_108 rfl ?_
          refine go_iconst dX11_mixText_109 ?_
          refine go_iload_n dX11_mixText_110 rfl ?_
          refine go_cvP2 (M2 := mX11_ruleIn) dX11_mixText_111 ml_X11_201 mv_X11_ruleIn sh_0 rfl rfl (Nat.le_of_ble_eq_true rfl) (by decide) (ev_X11_ruleIn t1 hwk hsp (by omega) (by omega) (by have := hpk.1; unfold m_row1 at hlt; unfold inR; omega)) ?_
          rw [show mt_pick (mt_sg s.2.1 s.2.2.1) s.2.2.2.1 0 = m_row1 s from rfl]
          refine go_i2l dX11_mixText_114 hR ?_
          refine go_cvV1 (M2 := mX11_mix) dX11_mixText_115 ml_X11_345 mv_X11_mix sh_0 rfl rfl (Nat.le_of_ble_eq_true rfl) (by decide) (ev_X11_mix) (fun σ2 hq => ?_)
          refine go_inc1 dX11_mixText_118 (Nat.le_of_ble_eq_true rfl) rfl ?_
          refine go_goto (tgt := 97) dX11_mixText_121 (by decide) ?_
          exact ih (k + 1) _ (by omega) (by omega) (hwk.fr hq.2 (by decide) (by decide)) (hsp.fr hq.2 (by decide) (by decide)) (ho.tr (hq.2.wk (by decide) (by decide))) (by rw [hq.1, eat]; exact he)
      · have h0 : rowAt (m_row1 s) (k : Int) = -1 := rowAt_out (by omega)
        rw [List.drop_eq_nil_of_le (by omega)] at he
        refine go_aload_n dX11_mixText_97 rfl ?_
        refine go_iconst dX11_mixText_98 ?_
        refine go_iload_n dX11_mixText_99 rfl ?_
        refine go_cvP2 (M2 := mX11_ruleIn) dX11_mixText_100 ml_X11_201 mv_X11_ruleIn sh_0 rfl rfl (Nat.le_of_ble_eq_true rfl) (by decide) (ev_X11_ruleIn t1 hwk hsp (by omega) (by omega) (by have := hpk.1; unfold m_row1 at hk; unfold inR; omega)) ?_
        refine go_iconst dX11_mixText_103 ?_
        rw [show mt_pick (mt_sg s.2.1 s.2.2.1) s.2.2.2.1 0 = m_row1 s from rfl]
        refine go_icmp_eq (tgt := 124) dX11_mixText_104 (by decide) hR (by unfold inR; omega) (fun b104 => ?_) (fun b104 => ?_)
        · skip
          subst hQ
          refine go_retV dX11_mixText_124 rfl ?_
          exact ⟨he, ho⟩
        · skip
          exact absurd h0 b104
  have l2 : ∀ (m k : Nat) (σ1 : am_St), (m_dec s).1.length - k < m → k ≤ (m_dec s).1.length → wkM σ1 s.2.2.2.1 → bkM σ1 (mt_sg s.2.1 s.2.2.1) s.2.2.2.1 → fr DTF DTA σ σ1 → hs (σ1.2.1 0 37) ((m_dec s).1.drop k ++ ([m_ways s] ++ m_row1 s)) = T → am_Go SH mX11_mixText 4 Q 55 [some (.ref 0), some (.int (iZ (k : Int)))] [] σ1 := by
    intro m
    induction m with
    | zero => intro k σ1 hm; exact absurd hm (by omega)
    | succ m ih =>
      intro k σ1 hm hk hwk hbk ho he
      have t1 := h.1.fr ho (by decide) (by decide)
      have b1 : σ1.1 0 25 = ((m_dec s).1.length : Int) := hbk.1
      have hd56 : (m_dec s).1.length ≤ 56 := by have := hml.1; unfold m_dec; omega
      by_cases hlt : k < (m_dec s).1.length
      · have b2 : σ1.2.2 15 (k : Int) = ln_at (m_dec s).1 (k : Int) := hbk.2.2 k hlt
        rw [ln_at_drop hlt, List.cons_append, hs_cons] at he
        refine go_iload_n dX11_mixText_55 rfl ?_
        refine go_aload_n dX11_mixText_56 rfl ?_
        refine go_geti fl_X11_174 dX11_mixText_57 sh_0 rfl ?_
        first | (rw [b1]) | (rw [b2]) | skip
        refine go_icmp_ge (tgt := 80) dX11_mixText_60 (by decide) (by unfold inR; omega) (by unfold inR; omega) (fun b60 => ?_) (fun b60 => ?_)
        · skip
          omega
        · skip
          refine go_aload_n dX11_mixText_63 rfl ?_
          refine go_aload_n dX11_mixText_64 rfl ?_
          refine go_getr fl_X11_52 dX11_mixText_65 sh_0 rfl ?_
          refine go_iload_n dX11_mixText_68 rfl ?_
          refine go_iaload dX11_mixText_69 (by first | assumption | rfl) (by first | assumption | exact Nat.le_of_ble_eq_true rfl) (by omega) (by omega) ?_
          first | (rw [b1]) | (rw [b2]) | skip
          refine go_i2l dX11_mixText_70 (ln_at_R (fun x hx => by have := hml.2 x hx; unfold inR; omega)) ?_
          refine go_cvV1 (M2 := mX11_mix) dX11_mixText_71 ml_X11_345 mv_X11_mix sh_0 rfl rfl (Nat.le_of_ble_eq_true rfl) (by decide) (ev_X11_mix) (fun σ2 hq => ?_)
          refine go_inc1 dX11_mixText_74 (Nat.le_of_ble_eq_true rfl) rfl ?_
          refine go_goto (tgt := 55) dX11_mixText_77 (by decide) ?_
          exact ih (k + 1) _ (by omega) (by omega) (hwk.fr hq.2 (by decide) (by decide)) ⟨by rw [hq.2.f 25 (by decide)]; exact hbk.1, by rw [hq.2.f 26 (by decide)]; exact hbk.2.1, hbk.2.2.fr hq.2 (by decide)⟩ (ho.tr (hq.2.wk (by decide) (by decide))) (by rw [hq.1]; exact he)
      · rw [List.drop_eq_nil_of_le (by omega), List.nil_append, List.singleton_append, hs_cons] at he
        refine go_iload_n dX11_mixText_55 rfl ?_
        refine go_aload_n dX11_mixText_56 rfl ?_
        refine go_geti fl_X11_174 dX11_mixText_57 sh_0 rfl ?_
        first | (rw [b1]) | skip
        refine go_icmp_ge (tgt := 80) dX11_mixText_60 (by decide) (by unfold inR; omega) (by unfold inR; omega) (fun b60 => ?_) (fun b60 => ?_)
        · skip
          refine go_aload_n dX11_mixText_80 rfl ?_
          refine go_cvV0 (M2 := mX11_layWays) dX11_mixText_81 ml_X11_195 mv_X11_layWays sh_0 rfl rfl (Nat.le_of_ble_eq_true rfl) (by decide) (ev_X11_layWays t1 hwk) (fun σ2 hq => ?_)
          have w0 : σ2.2.2 13 0 = m_ways s := (hq.1 0 (by omega) (by omega)).1
          refine go_aload_n dX11_mixText_84 rfl ?_
          refine go_aload_n dX11_mixText_85 rfl ?_
          refine go_getr fl_X11_46 dX11_mixText_86 sh_0 rfl ?_
          refine go_iconst dX11_mixText_89 ?_
          refine go_iaload dX11_mixText_90 (by first | assumption | rfl) (by first | assumption | exact Nat.le_of_ble_eq_true rfl) (by omega) (by omega) ?_
          first | (rw [b1]) | skip
          rw [w0]
          refine go_i2l dX11_mixText_91 (by have := mt_ws_bd (mt_sg s.2.1 s.2.2.1) s.2.2.2.1 0; unfold m_ways inR; omega) ?_
          refine go_cvV1 (M2 := mX11_mix) dX11_mixText_92 ml_X11_345 mv_X11_mix sh_0 rfl rfl (Nat.le_of_ble_eq_true rfl) (by decide) (ev_X11_mix) (fun σ3 hq3 => ?_)
          refine go_iconst dX11_mixText_95 ?_
          refine go_ist1 dX11_mixText_96 (Nat.le_of_ble_eq_true rfl) rfl ?_
          have e37 : σ2.2.1 0 37 = σ1.2.1 0 37 := (hq.2.1 0 37 (Or.inr (by decide))).2
          exact l3 ((m_row1 s).length + 1) 0 σ3 (by omega) (by omega) ((hwk.fr hq.2 (by decide) (by decide)).fr hq3.2 (by decide) (by decide)) (hq.1.fr hq3.2 (by decide) (by decide)) ((ho.tr (hq.2.wk (by decide) (by decide))).tr (hq3.2.wk (by decide) (by decide))) (by rw [hq3.1, e37]; exact he)
        · skip
          omega
  have l1 : ∀ (m k : Nat) (σ1 : am_St), s.2.2.2.1.length - k < m → k ≤ s.2.2.2.1.length → fr DTF DTA σ σ1 → hs (σ1.2.1 0 37) (s.2.2.2.1.drop k ++ m_rowsV s) = T → am_Go SH mX11_mixText 4 Q 2 [some (.ref 0), some (.int (iZ (k : Int)))] [] σ1 := by
    intro m
    induction m with
    | zero => intro k σ1 hm; exact absurd hm (by omega)
    | succ m ih =>
      intro k σ1 hm hk ho he
      have g1 := h.fr ho (by decide) (by decide)
      have e7 := g1.2.2.1.1
      by_cases hlt : k < s.2.2.2.1.length
      · have e5 := g1.2.2.1.2.1 k hlt
        rw [ln_at_drop hlt, List.cons_append, hs_cons] at he
        refine go_iload_n dX11_mixText_2 rfl ?_
        refine go_aload_n dX11_mixText_3 rfl ?_
        refine go_geti fl_X11_118 dX11_mixText_4 sh_0 rfl ?_
        first | (rw [e7]) | (rw [e5]) | skip
        refine go_icmp_ge (tgt := 27) dX11_mixText_7 (by decide) (by unfold inR; omega) (by unfold inR; omega) (fun b7 => ?_) (fun b7 => ?_)
        · skip
          omega
        · skip
          refine go_aload_n dX11_mixText_10 rfl ?_
          refine go_aload_n dX11_mixText_11 rfl ?_
          refine go_getr fl_X11_22 dX11_mixText_12 sh_0 rfl ?_
          refine go_iload_n dX11_mixText_15 rfl ?_
          refine go_iaload dX11_mixText_16 (by first | assumption | rfl) (by first | assumption | exact Nat.le_of_ble_eq_true rfl) (by omega) (by omega) ?_
          first | (rw [e7]) | (rw [e5]) | skip
          refine go_i2l dX11_mixText_17 (ln_at_R (okl_R hok)) ?_
          refine go_cvV1 (M2 := mX11_mix) dX11_mixText_18 ml_X11_345 mv_X11_mix sh_0 rfl rfl (Nat.le_of_ble_eq_true rfl) (by decide) (ev_X11_mix) (fun σ2 hq => ?_)
          refine go_inc1 dX11_mixText_21 (Nat.le_of_ble_eq_true rfl) rfl ?_
          refine go_goto (tgt := 2) dX11_mixText_24 (by decide) ?_
          exact ih (k + 1) _ (by omega) (by omega) (ho.tr (hq.2.wk (by decide) (by decide))) (by rw [hq.1]; exact he)
      · rw [List.drop_eq_nil_of_le (by omega), List.nil_append, show m_rowsV s = ((m_dec s).1.length : Int) :: m_stuck s :: ((m_dec s).1 ++ ([m_ways s] ++ m_row1 s)) from rfl, hs_cons, hs_cons] at he
        have hd56 : (m_dec s).1.length ≤ 56 := by have := hml.1; unfold m_dec; omega
        have hdR := m_dec_R s hl
        refine go_iload_n dX11_mixText_2 rfl ?_
        refine go_aload_n dX11_mixText_3 rfl ?_
        refine go_geti fl_X11_118 dX11_mixText_4 sh_0 rfl ?_
        first | (rw [e7]) | skip
        refine go_icmp_ge (tgt := 27) dX11_mixText_7 (by decide) (by unfold inR; omega) (by unfold inR; omega) (fun b7 => ?_) (fun b7 => ?_)
        · skip
          refine go_aload_n dX11_mixText_27 rfl ?_
          refine go_cvV0 (M2 := mX11_workText) dX11_mixText_28 ml_X11_183 mv_X11_workText sh_0 rfl rfl (Nat.le_of_ble_eq_true rfl) (by decide) (ev_X11_workText g1) (fun σ2 hq2 => ?_)
          refine go_aload_n dX11_mixText_31 rfl ?_
          refine go_cvV0 (M2 := mX11_layBack) dX11_mixText_32 ml_X11_186 mv_X11_layBack sh_0 rfl rfl (Nat.le_of_ble_eq_true rfl) (by decide) (ev_X11_layBack (g1.1.fr hq2.2 (by decide) (by decide)) hq2.1) (fun σ3 hq3 => ?_)
          have b1 : σ3.1 0 25 = ((m_dec s).1.length : Int) := hq3.1.1
          have b2 : σ3.1 0 26 = m_stuck s := hq3.1.2.1
          refine go_aload_n dX11_mixText_35 rfl ?_
          refine go_aload_n dX11_mixText_36 rfl ?_
          refine go_geti fl_X11_174 dX11_mixText_37 sh_0 rfl ?_
          rw [b1]
          refine go_i2l dX11_mixText_40 (by unfold inR; omega) ?_
          refine go_cvV1 (M2 := mX11_mix) dX11_mixText_41 ml_X11_345 mv_X11_mix sh_0 rfl rfl (Nat.le_of_ble_eq_true rfl) (by decide) (ev_X11_mix) (fun σ4 hq4 => ?_)
          have b24 : σ4.1 0 26 = m_stuck s := by rw [hq4.2.f 26 (by decide)]; exact b2
          refine go_aload_n dX11_mixText_44 rfl ?_
          refine go_aload_n dX11_mixText_45 rfl ?_
          refine go_geti fl_X11_177 dX11_mixText_46 sh_0 rfl ?_
          rw [b24]
          refine go_i2l dX11_mixText_49 (by unfold m_stuck inR; split <;> omega) ?_
          refine go_cvV1 (M2 := mX11_mix) dX11_mixText_50 ml_X11_345 mv_X11_mix sh_0 rfl rfl (Nat.le_of_ble_eq_true rfl) (by decide) (ev_X11_mix) (fun σ5 hq5 => ?_)
          refine go_iconst dX11_mixText_53 ?_
          refine go_ist1 dX11_mixText_54 (Nat.le_of_ble_eq_true rfl) rfl ?_
          have oo : fr [37] [] σ3 σ5 := hq4.2.tr hq5.2
          have e37 : σ3.2.1 0 37 = σ1.2.1 0 37 := ((hq3.2.1 0 37 (Or.inr (by decide))).2).trans (hq2.2.1 0 37 (Or.inr (by decide))).2
          exact l2 ((m_dec s).1.length + 1) 0 σ5 (by omega) (by omega) ((hq2.1.fr hq3.2 (by decide) (by decide)).fr oo (by decide) (by decide)) ⟨by rw [oo.f 25 (by decide)]; exact hq3.1.1, by rw [oo.f 26 (by decide)]; exact hq3.1.2.1, hq3.1.2.2.fr oo (by decide)⟩ (((ho.tr (hq2.2.wk (by decide) (by decide))).tr (hq3.2.wk (by decide) (by decide))).tr (oo.wk (by decide) (by decide))) (by rw [hq5.1, hq4.1, e37]; exact he)
        · skip
          omega
  refine am_ev (by decide) [some (.ref 0), none] rfl (Nat.le_of_ble_eq_true rfl) ?_
  refine go_iconst dX11_mixText_0 ?_
  refine go_ist1 dX11_mixText_1 (Nat.le_of_ble_eq_true rfl) rfl ?_
  exact l1 (s.2.2.2.1.length + 1) 0 _ (by omega) (by omega) fr.rf hT
noncomputable def mt_clW (S : List (List Int)) : List Int := (List.range 6).map (fun w : Nat => mt_val S (w : Int)) ++ (mt_clT S ++ (mt_one S 0 ++ mt_one S 1))
theorem mt_clV_eq (S : List (List Int)) : mt_clV S = mt_clW S ++ (mt_rems S).flatten := by
  unfold mt_clV mt_clW
  simp only [List.append_assoc]
def DCF : List Nat := [21, 29, 32, 34, 37]
def DCA : List Nat := [12, 13, 14, 16, 17, 18, 19, 20]
theorem val_R {S : List (List Int)} {w : Int} (hw : ¬ w = 5) (h : ∀ t, mt_cl S = some t → t.length ≤ 200) : inR (mt_val S w) := by
  unfold mt_val
  rw [if_neg hw]
  cases hc : mt_cl S with
  | none =>
    simp only []
    split <;> (unfold inR; omega)
  | some t =>
    simp only []
    have h6 := h t hc
    have h7 := mt_ws_bd S t 0
    have h4 := (mt_pick_bd S t 0).1
    have h5 := (mt_pick_bd S t 1).1
    split
    · unfold inR; omega
    · split
      · unfold inR; omega
      · split
        · unfold inR; omega
        · split
          · unfold inR; omega
          · unfold inR; omega
theorem clM_len {σ : am_St} {c : Option (List Int)} (h : clM σ c) : ∀ t, c = some t → t.length ≤ 200 := fun t e => by
  rw [e] at h
  exact h.2.2.2
theorem rems_40 {σ : am_St} {S ws : List (List Int)} (hS : okS S) (h : ahA σ S ws) : (mt_rems S).length ≤ 40 := by
  have h1 := (ah_sort hS h).2.length_eq
  have h2 := (ah_perm h).length_eq
  rw [List.length_map] at h2
  have h3 := List.length_filter_le (ahb σ) (List.range 40)
  rw [List.length_range] at h3
  omega
theorem ev_X11_clashTold2 {σ : am_St} {L R : List (List Int)} {m : Nat} {w : Int} (h : tbM σ L R m) (h1 : 1 ≤ w) (h4 : w ≤ 4) : am_Ev SH mX11_clashTold 8 [.ref 0, .int (iZ w)] σ (am_rI (fun x σ2 => x = mt_val (mt_sg R m) w ∧ inR x ∧ fr CKF CKA σ σ2)) := by
  cases hcl : mt_cl (mt_sg R m) with
  | none =>
    refine am_ev (by decide) [some (.ref 0), some (.int (iZ (w)))] rfl (Nat.le_of_ble_eq_true rfl) ?_
    refine go_aload_n dX11_clashTold_0 rfl ?_
    refine go_cvV0 (M2 := mX11_layClash) dX11_clashTold_1 ml_X11_282 mv_X11_layClash sh_0 rfl rfl (Nat.le_of_ble_eq_true rfl) (by decide) (ev_X11_layClash h) (fun σ1 hq => ?_)
    have e34 : σ1.1 0 34 = -1 := by have := hq.1.1; rw [hcl] at this; exact this
    refine go_aload_n dX11_clashTold_4 rfl ?_
    refine go_geti fl_X11_269 dX11_clashTold_5 sh_0 rfl ?_
    first | (rw [e34]) | skip
    refine go_iconst dX11_clashTold_8 ?_
    refine go_icmp_ne (tgt := 14) dX11_clashTold_9 (by decide) (by unfold inR; omega) (by unfold inR; omega) (fun b9 => ?_) (fun b9 => ?_)
    · skip
      exact absurd rfl b9
    · skip
      refine go_iconst dX11_clashTold_12 ?_
      refine go_retI dX11_clashTold_13 rfl ?_
      refine ⟨?_, by unfold inR; omega, hq.2⟩
      unfold mt_val
      rw [if_neg (by omega), hcl]
      show (-1 : Int) = if w = 0 then 1 else -1
      rw [if_neg (by omega)]
  | some t =>
    have hT : mt_clT (mt_sg R m) = t := by unfold mt_clT; rw [hcl]; rfl
    have hv : mt_val (mt_sg R m) w = if w = 0 then 0 else if w = 1 then (t.length : Int) else if w = 2 then ((mt_pick (mt_sg R m) t 0).length : Int) else if w = 3 then ((mt_pick (mt_sg R m) t 1).length : Int) else (mt_ws (mt_sg R m) t).getD 0 0 := by
      unfold mt_val
      rw [if_neg (by omega), hcl]
    refine am_ev (by decide) [some (.ref 0), some (.int (iZ (w)))] rfl (Nat.le_of_ble_eq_true rfl) ?_
    refine go_aload_n dX11_clashTold_0 rfl ?_
    refine go_cvV0 (M2 := mX11_layClash) dX11_clashTold_1 ml_X11_282 mv_X11_layClash sh_0 rfl rfl (Nat.le_of_ble_eq_true rfl) (by decide) (ev_X11_layClash h) (fun σ1 hq => ?_)
    obtain ⟨⟨g1, g2, g3⟩, ho⟩ := hq
    have hvR : inR (mt_val (mt_sg R m) w) := val_R (by omega) (clM_len g1)
    rw [hcl] at g1
    rw [hT] at g2 g3
    have e34 := g1.1
    have hl200 := g1.2.2.2
    have t1 := h.fr ho (by decide) (by decide)
    have e13 : σ1.2.2 13 0 = (mt_ws (mt_sg R m) t).getD 0 0 := (g3 0 (Nat.le_refl _) (Nat.zero_le _)).1
    refine go_aload_n dX11_clashTold_4 rfl ?_
    refine go_geti fl_X11_269 dX11_clashTold_5 sh_0 rfl ?_
    first | (rw [e34]) | (rw [e13]) | skip
    refine go_iconst dX11_clashTold_8 ?_
    refine go_icmp_ne (tgt := 14) dX11_clashTold_9 (by decide) (by unfold inR; omega) (by unfold inR; omega) (fun b9 => ?_) (fun b9 => ?_)
    · skip
      refine go_iload_n dX11_clashTold_14 rfl ?_
      refine go_iconst dX11_clashTold_15 ?_
      refine go_icmp_ne (tgt := 26) dX11_clashTold_16 (by decide) (by unfold inR; omega) (by unfold inR; omega) (fun b16 => ?_) (fun b16 => ?_)
      · skip
        refine go_iload_n dX11_clashTold_26 rfl ?_
        refine go_iconst dX11_clashTold_27 ?_
        refine go_icmp_ne (tgt := 40) dX11_clashTold_28 (by decide) (by unfold inR; omega) (by unfold inR; omega) (fun b28 => ?_) (fun b28 => ?_)
        · skip
          refine go_aload_n dX11_clashTold_40 rfl ?_
          refine go_iload_n dX11_clashTold_41 rfl ?_
          refine go_iconst dX11_clashTold_42 ?_
          refine go_isub dX11_clashTold_43 ?_
          refine go_cvP1 (M2 := mX11_rowMany) dX11_clashTold_44 ml_X11_285 mv_X11_rowMany sh_0 rfl rfl (Nat.le_of_ble_eq_true rfl) (by decide) (ev_X11_rowMany t1 g2 g3 (by omega) (by omega)) ?_
          refine go_retI dX11_clashTold_47 rfl ?_
          refine (fun z => ⟨z, by rw [z]; exact hvR, ho⟩) ?_
          rw [hv]
          first
            | (rw [if_neg (by omega), if_pos (by omega)]; done)
            | (rw [if_neg (by omega), if_neg (by omega), if_neg (by omega), if_neg (by omega)]; done)
            | (have hw : w = 2 ∨ w = 3 := by omega
               rcases hw with rfl | rfl
               · rfl
               · rfl)
        · skip
          refine go_aload_n dX11_clashTold_31 rfl ?_
          refine go_getr fl_X11_46 dX11_clashTold_32 sh_0 rfl ?_
          refine go_iconst dX11_clashTold_35 ?_
          refine go_iaload dX11_clashTold_36 (by first | assumption | rfl) (by first | assumption | exact Nat.le_of_ble_eq_true rfl) (by omega) (by omega) ?_
          first | (rw [e34]) | (rw [e13]) | skip
          refine go_goto (tgt := 47) dX11_clashTold_37 (by decide) ?_
          refine go_retI dX11_clashTold_47 rfl ?_
          refine (fun z => ⟨z, by rw [z]; exact hvR, ho⟩) ?_
          rw [hv]
          first
            | (rw [if_neg (by omega), if_pos (by omega)]; done)
            | (rw [if_neg (by omega), if_neg (by omega), if_neg (by omega), if_neg (by omega)]; done)
            | (have hw : w = 2 ∨ w = 3 := by omega
               rcases hw with rfl | rfl
               · rfl
               · rfl)
      · skip
        refine go_aload_n dX11_clashTold_19 rfl ?_
        refine go_geti fl_X11_269 dX11_clashTold_20 sh_0 rfl ?_
        first | (rw [e34]) | (rw [e13]) | skip
        refine go_goto (tgt := 47) dX11_clashTold_23 (by decide) ?_
        refine go_retI dX11_clashTold_47 rfl ?_
        refine (fun z => ⟨z, by rw [z]; exact hvR, ho⟩) ?_
        rw [hv]
        first
          | (rw [if_neg (by omega), if_pos (by omega)]; done)
          | (rw [if_neg (by omega), if_neg (by omega), if_neg (by omega), if_neg (by omega)]; done)
          | (have hw : w = 2 ∨ w = 3 := by omega
             rcases hw with rfl | rfl
             · rfl
             · rfl)
    · skip
      omega
theorem ev_X11_clashNow2 {σ : am_St} {L R : List (List Int)} {m : Nat} {w : Int} (h : tbM σ L R m) (hf : σ.1 0 29 = 0 ∨ σ.1 0 29 = 1) (h0 : 0 ≤ w) (h5 : w ≤ 5) : am_Ev SH mX11_clashNow 9 [.ref 0, .int (iZ w)] σ (am_rI (fun x σ2 => x = mt_val (mt_sg R m) w ∧ inR x ∧ (σ2.1 0 29 = 0 ∨ σ2.1 0 29 = 1) ∧ fr CNF CNA σ σ2)) := by
  have hS : okS (mt_sg R m) := okS_sg h.2.2.2.2.2.2.2.2 h.2.2.2.2.2.1 m
  rcases (by omega : w = 0 ∨ w = 5 ∨ (1 ≤ w ∧ w ≤ 4)) with rfl | rfl | ⟨h1, h4⟩
  · have tail : ∀ (x : Int) (σ1 : am_St), (((x = 1 ∧ ¬ Rem (mt_sg R m) []) ∨ (x = 0 ∧ Rem (mt_sg R m) [])) ∧ (σ1.1 0 29 = 0 ∨ σ1.1 0 29 = 1) ∧ fr [29] [16] σ σ1) → am_Go SH mX11_clashNow 9 (am_rI (fun x σ2 => x = mt_val (mt_sg R m) 0 ∧ inR x ∧ (σ2.1 0 29 = 0 ∨ σ2.1 0 29 = 1) ∧ fr CNF CNA σ σ2)) 8 [some (.ref 0), some (.int (iZ 0))] [.int (iZ x)] σ1 := by
      rintro x σ1 ⟨⟨rfl, hr⟩ | ⟨rfl, hr⟩, hf1, ho⟩
      · have e : mt_val (mt_sg R m) 0 = 1 := by unfold mt_val; rw [if_neg (by decide), (cl_iff hS).mpr hr]; rfl
        refine go_if_eq (tgt := 15) dX11_clashNow_8 (by decide) (by unfold inR; omega) (fun b8 => ?_) (fun b8 => ?_)
        · skip
          exact absurd b8 (by decide)
        · skip
          refine go_iconst dX11_clashNow_11 ?_
          refine go_goto (tgt := 36) dX11_clashNow_12 (by decide) ?_
          refine go_retI dX11_clashNow_36 rfl ?_
          exact ⟨e.symm, by unfold inR; omega, hf1, ho.wk (by decide) (by decide)⟩
      · have e : mt_val (mt_sg R m) 0 = 0 := by
          unfold mt_val
          rw [if_neg (by decide)]
          cases hcl : mt_cl (mt_sg R m) with
          | none => exact absurd hr ((cl_iff hS).mp hcl)
          | some t => rfl
        refine go_if_eq (tgt := 15) dX11_clashNow_8 (by decide) (by unfold inR; omega) (fun b8 => ?_) (fun b8 => ?_)
        · skip
          refine go_iconst dX11_clashNow_15 ?_
          refine go_goto (tgt := 36) dX11_clashNow_16 (by decide) ?_
          refine go_retI dX11_clashNow_36 rfl ?_
          exact ⟨e.symm, by unfold inR; omega, hf1, ho.wk (by decide) (by decide)⟩
        · skip
          exact absurd rfl b8
    refine am_ev (by decide) [some (.ref 0), some (.int (iZ (0)))] rfl (Nat.le_of_ble_eq_true rfl) ?_
    refine go_iload_n dX11_clashNow_0 rfl ?_
    refine go_if_ne (tgt := 19) dX11_clashNow_1 (by decide) (by unfold inR; omega) (fun b1 => ?_) (fun b1 => ?_)
    · skip
      exact absurd rfl b1
    · skip
      refine go_aload_n dX11_clashNow_4 rfl ?_
      refine go_cvI0 (M2 := mX11_isClean) dX11_clashNow_5 ml_X11_288 mv_X11_isClean sh_0 rfl rfl (Nat.le_of_ble_eq_true rfl) (by decide) (ev_X11_isClean h hf) (fun x σ1 hq => ?_)
      exact tail x σ1 hq
  · have e : mt_val (mt_sg R m) 5 = ((mt_rems (mt_sg R m)).length : Int) := by unfold mt_val; rw [if_pos rfl]
    refine am_ev (by decide) [some (.ref 0), some (.int (iZ (5)))] rfl (Nat.le_of_ble_eq_true rfl) ?_
    refine go_iload_n dX11_clashNow_0 rfl ?_
    refine go_if_ne (tgt := 19) dX11_clashNow_1 (by decide) (by unfold inR; omega) (fun b1 => ?_) (fun b1 => ?_)
    · skip
      refine go_iload_n dX11_clashNow_19 rfl ?_
      refine go_iconst dX11_clashNow_20 ?_
      refine go_icmp_ne (tgt := 31) dX11_clashNow_21 (by decide) (by unfold inR; omega) (by unfold inR; omega) (fun b21 => ?_) (fun b21 => ?_)
      · skip
        exact absurd rfl b21
      · skip
        refine go_aload_n dX11_clashNow_24 rfl ?_
        refine go_cvI0 (M2 := mX11_aheadsMany) dX11_clashNow_25 ml_X11_291 mv_X11_aheadsMany sh_0 rfl rfl (Nat.le_of_ble_eq_true rfl) (by decide) (ev_X11_aheadsMany h hf) (fun x σ1 hq => ?_)
        refine go_goto (tgt := 36) dX11_clashNow_28 (by decide) ?_
        refine go_retI dX11_clashNow_36 rfl ?_
        have h40 : (mt_rems (mt_sg R m)).length ≤ 40 := by obtain ⟨ws, z⟩ := hq.2.1; exact rems_40 hS z
        exact ⟨by rw [e]; exact hq.1, by rw [hq.1]; unfold inR; omega, hq.2.2.1, hq.2.2.2.wk (by decide) (by decide)⟩
    · skip
      exact absurd b1 (by decide)
  · skip
    refine am_ev (by decide) [some (.ref 0), some (.int (iZ (w)))] rfl (Nat.le_of_ble_eq_true rfl) ?_
    refine go_iload_n dX11_clashNow_0 rfl ?_
    refine go_if_ne (tgt := 19) dX11_clashNow_1 (by decide) (by unfold inR; omega) (fun b1 => ?_) (fun b1 => ?_)
    · skip
      refine go_iload_n dX11_clashNow_19 rfl ?_
      refine go_iconst dX11_clashNow_20 ?_
      refine go_icmp_ne (tgt := 31) dX11_clashNow_21 (by decide) (by unfold inR; omega) (by unfold inR; omega) (fun b21 => ?_) (fun b21 => ?_)
      · skip
        refine go_aload_n dX11_clashNow_31 rfl ?_
        refine go_iload_n dX11_clashNow_32 rfl ?_
        refine go_cvI1 (M2 := mX11_clashTold) dX11_clashNow_33 ml_X11_294 mv_X11_clashTold sh_0 rfl rfl (Nat.le_of_ble_eq_true rfl) (by decide) (ev_X11_clashTold2 h h1 h4) (fun x σ1 hq => ?_)
        refine go_retI dX11_clashNow_36 rfl ?_
        exact ⟨hq.1, hq.2.1, by rw [hq.2.2.f 29 (by decide)]; exact hf, hq.2.2.wk (by decide) (by decide)⟩
      · skip
        omega
    · skip
      omega
theorem ev_X11_mixClash {σ : am_St} {L R : List (List Int)} {m : Nat} (h : tbM σ L R m) (hf : σ.1 0 29 = 0 ∨ σ.1 0 29 = 1) : am_Ev SH mX11_mixClash 10 [.ref 0] σ (am_rV (fun σ2 => σ2.2.1 0 37 = hs (σ.2.1 0 37) (mt_clW (mt_sg R m)) ∧ (σ2.1 0 29 = 0 ∨ σ2.1 0 29 = 1) ∧ fr DCF DCA σ σ2)) := by
  generalize hT : hs (σ.2.1 0 37) (mt_clW (mt_sg R m)) = T
  unfold mt_clW at hT
  have hS8 := h.S8
  have hpk := fun w => mt_pick_bd (mt_sg R m) (mt_clT (mt_sg R m)) w
  have hone : ∀ w, mt_cl (mt_sg R m) ≠ none → mt_one (mt_sg R m) w = mt_pick (mt_sg R m) (mt_clT (mt_sg R m)) w := by
    intro w hn
    unfold mt_one mt_clT
    cases hc : mt_cl (mt_sg R m) with
    | none => exact absurd hc hn
    | some t => rfl
  generalize hQ : (am_rV (fun σ2 => σ2.2.1 0 37 = T ∧ (σ2.1 0 29 = 0 ∨ σ2.1 0 29 = 1) ∧ fr DCF DCA σ σ2)) = Q
  have l3 : ∀ (m3 w k : Nat) (rest : List Int) (σ1 : am_St), w < 2 → mt_cl (mt_sg R m) ≠ none → (mt_one (mt_sg R m) (w : Int)).length - k < m3 → k ≤ (mt_one (mt_sg R m) (w : Int)).length → clA σ1 (mt_sg R m) → (σ1.1 0 29 = 0 ∨ σ1.1 0 29 = 1) → fr DCF DCA σ σ1 → hs (σ1.2.1 0 37) ((mt_one (mt_sg R m) (w : Int)).drop k ++ rest) = T → (∀ (o : Option Value) (σ2 : am_St), clA σ2 (mt_sg R m) → (σ2.1 0 29 = 0 ∨ σ2.1 0 29 = 1) → fr DCF DCA σ σ2 → hs (σ2.2.1 0 37) rest = T → am_Go SH mX11_mixClash 10 Q 57 [some (.ref 0), some (.int (iZ ((w + 1 : Nat) : Int))), o] [] σ2) → am_Go SH mX11_mixClash 10 Q 72 [some (.ref 0), some (.int (iZ (w : Int))), some (.int (iZ (k : Int)))] [] σ1 := by
    intro m3
    induction m3 with
    | zero => intro w k rest σ1 _ _ hm; exact absurd hm (by omega)
    | succ m3 ih =>
      intro w k rest σ1 hw hn hm hk hA hf1 ho he next
      have t1 := h.fr ho (by decide) (by decide)
      have ew := hone (w : Int) hn
      have hl := hA.2.1.2.2.2
      have hpw := hpk (w : Int)
      have hR := rowAt_R (l := mt_pick (mt_sg R m) (mt_clT (mt_sg R m)) (w : Int)) (n := ((mt_sg R m).length : Int)) (by unfold inR; omega) hpw.2 (k : Int)
      rw [ew] at hm hk he
      by_cases hlt : k < (mt_pick (mt_sg R m) (mt_clT (mt_sg R m)) (w : Int)).length
      · have h0 := rowAt_in (fun r hr => (hpw.2 r hr).1) hlt
        have eat : rowAt (mt_pick (mt_sg R m) (mt_clT (mt_sg R m)) (w : Int)) (k : Int) = ln_at (mt_pick (mt_sg R m) (mt_clT (mt_sg R m)) (w : Int)) (k : Int) := by unfold rowAt; rw [if_pos (by omega)]
        rw [ln_at_drop hlt, List.cons_append, hs_cons, ← eat] at he
        refine go_aload_n dX11_mixClash_72 rfl ?_
        refine go_iload_n dX11_mixClash_73 rfl ?_
        refine go_iload_n dX11_mixClash_74 rfl ?_
        refine go_cvP2 (M2 := mX11_ruleIn) dX11_mixClash_75 ml_X11_201 mv_X11_ruleIn sh_0 rfl rfl (Nat.le_of_ble_eq_true rfl) (by decide) (ev_X11_ruleIn t1 hA.2.1 hA.2.2 (by omega) (by omega) (by unfold inR; omega)) ?_
        refine go_iconst dX11_mixClash_78 ?_
        refine go_icmp_eq (tgt := 99) dX11_mixClash_79 (by decide) hR (by unfold inR; omega) (fun b79 => ?_) (fun b79 => ?_)
        · skip
          omega
        · skip
          refine go_aload_n dX11_mixClash_82 rfl ?_
          refine go_aload_n dX11_mixClash_83 rfl ?_
          refine go_iload_n dX11_mixClash_84 rfl ?_
          refine go_iload_n dX11_mixClash_85 rfl ?_
          refine go_cvP2 (M2 := mX11_ruleIn) dX11_mixClash_86 ml_X11_201 mv_X11_ruleIn sh_0 rfl rfl (Nat.le_of_ble_eq_true rfl) (by decide) (ev_X11_ruleIn t1 hA.2.1 hA.2.2 (by omega) (by omega) (by unfold inR; omega)) ?_
          refine go_i2l dX11_mixClash_89 hR ?_
          refine go_cvV1 (M2 := mX11_mix) dX11_mixClash_90 ml_X11_345 mv_X11_mix sh_0 rfl rfl (Nat.le_of_ble_eq_true rfl) (by decide) (ev_X11_mix) (fun σ2 hq => ?_)
          refine go_inc2 dX11_mixClash_93 (Nat.le_of_ble_eq_true rfl) rfl ?_
          refine go_goto (tgt := 72) dX11_mixClash_96 (by decide) ?_
          exact ih w (k + 1) rest _ hw hn (by rw [ew]; omega) (by rw [ew]; omega) ⟨hA.1.fr hq.2 (by decide) (by decide), hA.2.1.fr hq.2 (by decide) (by decide), hA.2.2.fr hq.2 (by decide) (by decide)⟩ (by rw [hq.2.f 29 (by decide)]; exact hf1) (ho.tr (hq.2.wk (by decide) (by decide))) (by rw [hq.1, ew]; exact he) next
      · have h0 : rowAt (mt_pick (mt_sg R m) (mt_clT (mt_sg R m)) (w : Int)) (k : Int) = -1 := rowAt_out (by omega)
        rw [List.drop_eq_nil_of_le (by omega), List.nil_append] at he
        refine go_aload_n dX11_mixClash_72 rfl ?_
        refine go_iload_n dX11_mixClash_73 rfl ?_
        refine go_iload_n dX11_mixClash_74 rfl ?_
        refine go_cvP2 (M2 := mX11_ruleIn) dX11_mixClash_75 ml_X11_201 mv_X11_ruleIn sh_0 rfl rfl (Nat.le_of_ble_eq_true rfl) (by decide) (ev_X11_ruleIn t1 hA.2.1 hA.2.2 (by omega) (by omega) (by unfold inR; omega)) ?_
        refine go_iconst dX11_mixClash_78 ?_
        refine go_icmp_eq (tgt := 99) dX11_mixClash_79 (by decide) hR (by unfold inR; omega) (fun b79 => ?_) (fun b79 => ?_)
        · skip
          refine go_inc1 dX11_mixClash_99 (Nat.le_of_ble_eq_true rfl) rfl ?_
          refine go_goto (tgt := 57) dX11_mixClash_102 (by decide) ?_
          exact next _ σ1 hA hf1 ho he
        · skip
          exact absurd h0 b79
  have fin : ∀ (o : Option Value) (w : Nat) (σ1 : am_St), w = 2 ∨ (w = 0 ∧ mt_cl (mt_sg R m) = none) → clA σ1 (mt_sg R m) → (σ1.1 0 29 = 0 ∨ σ1.1 0 29 = 1) → fr DCF DCA σ σ1 → hs (σ1.2.1 0 37) [] = T → am_Go SH mX11_mixClash 10 Q 57 [some (.ref 0), some (.int (iZ (w : Int))), o] [] σ1 := by
    rintro o w σ1 (rfl | ⟨rfl, hc⟩) hA hf1 ho he
    · skip
      refine go_iload_n dX11_mixClash_57 rfl ?_
      refine go_iconst dX11_mixClash_58 ?_
      refine go_icmp_ge (tgt := 105) dX11_mixClash_59 (by decide) (by unfold inR; omega) (by unfold inR; omega) (fun b59 => ?_) (fun b59 => ?_)
      · skip
        subst hQ
        refine go_retV dX11_mixClash_105 rfl ?_
        exact ⟨he, hf1, ho⟩
      · skip
        omega
    · have e34 : σ1.1 0 34 = -1 := by have := hA.1; rw [hc] at this; exact this
      refine go_iload_n dX11_mixClash_57 rfl ?_
      refine go_iconst dX11_mixClash_58 ?_
      refine go_icmp_ge (tgt := 105) dX11_mixClash_59 (by decide) (by unfold inR; omega) (by unfold inR; omega) (fun b59 => ?_) (fun b59 => ?_)
      · skip
        omega
      · skip
        refine go_aload_n dX11_mixClash_62 rfl ?_
        refine go_geti fl_X11_269 dX11_mixClash_63 sh_0 rfl ?_
        first | (rw [e34]) | skip
        refine go_iconst dX11_mixClash_66 ?_
        refine go_icmp_eq (tgt := 105) dX11_mixClash_67 (by decide) (by unfold inR; omega) (by unfold inR; omega) (fun b67 => ?_) (fun b67 => ?_)
        · skip
          subst hQ
          refine go_retV dX11_mixClash_105 rfl ?_
          exact ⟨he, hf1, ho⟩
        · skip
          exact absurd rfl b67
  have row : ∀ (o : Option Value) (w : Nat) (rest : List Int) (σ1 : am_St), w < 2 → mt_cl (mt_sg R m) ≠ none → clA σ1 (mt_sg R m) → (σ1.1 0 29 = 0 ∨ σ1.1 0 29 = 1) → fr DCF DCA σ σ1 → hs (σ1.2.1 0 37) (mt_one (mt_sg R m) (w : Int) ++ rest) = T → (∀ (o : Option Value) (σ2 : am_St), clA σ2 (mt_sg R m) → (σ2.1 0 29 = 0 ∨ σ2.1 0 29 = 1) → fr DCF DCA σ σ2 → hs (σ2.2.1 0 37) rest = T → am_Go SH mX11_mixClash 10 Q 57 [some (.ref 0), some (.int (iZ ((w + 1 : Nat) : Int))), o] [] σ2) → am_Go SH mX11_mixClash 10 Q 57 [some (.ref 0), some (.int (iZ (w : Int))), o] [] σ1 := by
    intro o w rest σ1 hw hn hA hf1 ho he next
    obtain ⟨t, hc⟩ : ∃ t, mt_cl (mt_sg R m) = some t := Option.ne_none_iff_exists'.mp hn
    have e34 : σ1.1 0 34 = (t.length : Int) := by have := hA.1; rw [hc] at this; exact this.1
    have ht200 := clM_len hA.1 t hc
    refine go_iload_n dX11_mixClash_57 rfl ?_
    refine go_iconst dX11_mixClash_58 ?_
    refine go_icmp_ge (tgt := 105) dX11_mixClash_59 (by decide) (by unfold inR; omega) (by unfold inR; omega) (fun b59 => ?_) (fun b59 => ?_)
    · skip
      omega
    · skip
      refine go_aload_n dX11_mixClash_62 rfl ?_
      refine go_geti fl_X11_269 dX11_mixClash_63 sh_0 rfl ?_
      first | (rw [e34]) | skip
      refine go_iconst dX11_mixClash_66 ?_
      refine go_icmp_eq (tgt := 105) dX11_mixClash_67 (by decide) (by unfold inR; omega) (by unfold inR; omega) (fun b67 => ?_) (fun b67 => ?_)
      · skip
        omega
      · skip
        refine go_iconst dX11_mixClash_70 ?_
        refine go_ist2 dX11_mixClash_71 (Nat.le_of_ble_eq_true rfl) rfl ?_
        exact l3 ((mt_one (mt_sg R m) (w : Int)).length + 1) w 0 rest _ hw hn (by omega) (by omega) hA hf1 ho he next
  have rows : ∀ (o : Option Value) (σ1 : am_St), clA σ1 (mt_sg R m) → (σ1.1 0 29 = 0 ∨ σ1.1 0 29 = 1) → fr DCF DCA σ σ1 → hs (σ1.2.1 0 37) (mt_one (mt_sg R m) 0 ++ mt_one (mt_sg R m) 1) = T → am_Go SH mX11_mixClash 10 Q 57 [some (.ref 0), some (.int (iZ ((0 : Nat) : Int))), o] [] σ1 := by
    intro o σ1 hA hf1 ho he
    by_cases hn : mt_cl (mt_sg R m) = none
    · refine fin o 0 σ1 (Or.inr ⟨rfl, hn⟩) hA hf1 ho ?_
      rw [show mt_one (mt_sg R m) 0 = [] by unfold mt_one; rw [hn], show mt_one (mt_sg R m) 1 = [] by unfold mt_one; rw [hn]] at he
      exact he
    · refine row o 0 (mt_one (mt_sg R m) 1) σ1 (by omega) hn hA hf1 ho he (fun o2 σ2 hA2 hf2 ho2 he2 => ?_)
      refine row o2 1 [] σ2 (by omega) hn hA2 hf2 ho2 (by rw [List.append_nil]; exact he2) (fun o3 σ3 hA3 hf3 ho3 he3 => ?_)
      exact fin o3 2 σ3 (Or.inl rfl) hA3 hf3 ho3 he3
  have l2 : ∀ (m2 k : Nat) (o : Option Value) (σ1 : am_St), (mt_clT (mt_sg R m)).length - k < m2 → k ≤ (mt_clT (mt_sg R m)).length → clA σ1 (mt_sg R m) → (σ1.1 0 29 = 0 ∨ σ1.1 0 29 = 1) → fr DCF DCA σ σ1 → hs (σ1.2.1 0 37) ((mt_clT (mt_sg R m)).drop k ++ (mt_one (mt_sg R m) 0 ++ mt_one (mt_sg R m) 1)) = T → am_Go SH mX11_mixClash 10 Q 30 [some (.ref 0), some (.int (iZ (k : Int))), o] [] σ1 := by
    intro m2
    induction m2 with
    | zero => intro k o σ1 hm; exact absurd hm (by omega)
    | succ m2 ih =>
      intro k o σ1 hm hk hA hf1 ho he
      have hl := hA.2.1.2.2.2
      by_cases hlt : k < (mt_clT (mt_sg R m)).length
      · obtain ⟨t, hc⟩ : ∃ t, mt_cl (mt_sg R m) = some t := by
          cases hc : mt_cl (mt_sg R m) with
          | none => exfalso; unfold mt_clT at hlt; rw [hc] at hlt; exact absurd hlt (by simp)
          | some t => exact ⟨t, rfl⟩
        have eT : mt_clT (mt_sg R m) = t := by unfold mt_clT; rw [hc]; rfl
        have hc1 := hA.1
        rw [hc] at hc1
        have e34 := hc1.1
        have okt := hc1.2.2.1
        rw [eT] at hlt hl hk hm
        have e20 := hc1.2.1 k hlt
        rw [eT] at he
        rw [ln_at_drop hlt, List.cons_append, hs_cons] at he
        refine go_iload_n dX11_mixClash_30 rfl ?_
        refine go_aload_n dX11_mixClash_31 rfl ?_
        refine go_geti fl_X11_269 dX11_mixClash_32 sh_0 rfl ?_
        first | (rw [e34]) | (rw [e20]) | skip
        refine go_icmp_ge (tgt := 55) dX11_mixClash_35 (by decide) (by unfold inR; omega) (by unfold inR; omega) (fun b35 => ?_) (fun b35 => ?_)
        · skip
          omega
        · skip
          refine go_aload_n dX11_mixClash_38 rfl ?_
          refine go_aload_n dX11_mixClash_39 rfl ?_
          refine go_getr fl_X11_68 dX11_mixClash_40 sh_0 rfl ?_
          refine go_iload_n dX11_mixClash_43 rfl ?_
          refine go_iaload dX11_mixClash_44 (by first | assumption | rfl) (by first | assumption | exact Nat.le_of_ble_eq_true rfl) (by omega) (by omega) ?_
          first | (rw [e34]) | (rw [e20]) | skip
          refine go_i2l dX11_mixClash_45 (ln_at_R (okl_R okt)) ?_
          refine go_cvV1 (M2 := mX11_mix) dX11_mixClash_46 ml_X11_345 mv_X11_mix sh_0 rfl rfl (Nat.le_of_ble_eq_true rfl) (by decide) (ev_X11_mix) (fun σ2 hq => ?_)
          refine go_inc1 dX11_mixClash_49 (Nat.le_of_ble_eq_true rfl) rfl ?_
          refine go_goto (tgt := 30) dX11_mixClash_52 (by decide) ?_
          exact ih (k + 1) _ _ (by rw [eT]; omega) (by rw [eT]; omega) ⟨hA.1.fr hq.2 (by decide) (by decide), hA.2.1.fr hq.2 (by decide) (by decide), hA.2.2.fr hq.2 (by decide) (by decide)⟩ (by rw [hq.2.f 29 (by decide)]; exact hf1) (ho.tr (hq.2.wk (by decide) (by decide))) (by rw [hq.1, eT]; exact he)
      · rw [List.drop_eq_nil_of_le (by omega), List.nil_append] at he
        have e34 : ∃ x, σ1.1 0 34 = x ∧ x ≤ (k : Int) ∧ inR x := by
          have hc1 := hA.1
          cases hc : mt_cl (mt_sg R m) with
          | none => rw [hc] at hc1; exact ⟨-1, hc1, by omega, by unfold inR; omega⟩
          | some t =>
            rw [hc] at hc1
            have eT : mt_clT (mt_sg R m) = t := by unfold mt_clT; rw [hc]; rfl
            rw [eT] at hlt hl
            exact ⟨(t.length : Int), hc1.1, by omega, by unfold inR; omega⟩
        obtain ⟨x, e34, hx, hxR⟩ := e34
        refine go_iload_n dX11_mixClash_30 rfl ?_
        refine go_aload_n dX11_mixClash_31 rfl ?_
        refine go_geti fl_X11_269 dX11_mixClash_32 sh_0 rfl ?_
        first | (rw [e34]) | skip
        refine go_icmp_ge (tgt := 55) dX11_mixClash_35 (by decide) (by unfold inR; omega) hxR (fun b35 => ?_) (fun b35 => ?_)
        · skip
          refine go_iconst dX11_mixClash_55 ?_
          refine go_ist1 dX11_mixClash_56 (Nat.le_of_ble_eq_true rfl) rfl ?_
          exact rows _ σ1 hA hf1 ho he
        · skip
          omega
  have l1 : ∀ (m1 w : Nat) (o : Option Value) (σ1 : am_St), 6 - w < m1 → w ≤ 6 → (σ1.1 0 29 = 0 ∨ σ1.1 0 29 = 1) → fr DCF DCA σ σ1 → hs (σ1.2.1 0 37) (((List.range 6).drop w).map (fun w : Nat => mt_val (mt_sg R m) (w : Int)) ++ (mt_clT (mt_sg R m) ++ (mt_one (mt_sg R m) 0 ++ mt_one (mt_sg R m) 1))) = T → am_Go SH mX11_mixClash 10 Q 2 [some (.ref 0), some (.int (iZ (w : Int))), o] [] σ1 := by
    intro m1
    induction m1 with
    | zero => intro w o σ1 hm; exact absurd hm (by omega)
    | succ m1 ih =>
      intro w o σ1 hm hw hf1 ho he
      have t1 := h.fr ho (by decide) (by decide)
      by_cases hlt : w < 6
      · rw [rg_drop hlt, List.map_cons, List.cons_append, hs_cons] at he
        refine go_iload_n dX11_mixClash_2 rfl ?_
        refine go_bipush dX11_mixClash_3 rfl ?_
        refine go_icmp_ge (tgt := 24) dX11_mixClash_5 (by decide) (by unfold inR; omega) (by unfold inR; omega) (fun b5 => ?_) (fun b5 => ?_)
        · skip
          omega
        · skip
          refine go_aload_n dX11_mixClash_8 rfl ?_
          refine go_aload_n dX11_mixClash_9 rfl ?_
          refine go_iload_n dX11_mixClash_10 rfl ?_
          refine go_cvI1 (M2 := mX11_clashNow) dX11_mixClash_11 ml_X11_297 mv_X11_clashNow sh_0 rfl rfl (Nat.le_of_ble_eq_true rfl) (by decide) (ev_X11_clashNow2 t1 hf1 (by omega) (by omega)) (fun x σ2 hq => ?_)
          obtain ⟨rfl, hxR, hf2, ho2⟩ := hq
          refine go_i2l dX11_mixClash_14 hxR ?_
          refine go_cvV1 (M2 := mX11_mix) dX11_mixClash_15 ml_X11_345 mv_X11_mix sh_0 rfl rfl (Nat.le_of_ble_eq_true rfl) (by decide) (ev_X11_mix) (fun σ3 hq3 => ?_)
          refine go_inc1 dX11_mixClash_18 (Nat.le_of_ble_eq_true rfl) rfl ?_
          refine go_goto (tgt := 2) dX11_mixClash_21 (by decide) ?_
          exact ih (w + 1) _ _ (by omega) (by omega) (by rw [hq3.2.f 29 (by decide)]; exact hf2) ((ho.tr (ho2.wk (by decide) (by decide))).tr (hq3.2.wk (by decide) (by decide))) (by rw [hq3.1, (ho2.1 0 37 (Or.inr (by decide))).2]; exact he)
      · rw [show w = 6 by omega] at he
        refine go_iload_n dX11_mixClash_2 rfl ?_
        refine go_bipush dX11_mixClash_3 rfl ?_
        refine go_icmp_ge (tgt := 24) dX11_mixClash_5 (by decide) (by unfold inR; omega) (by unfold inR; omega) (fun b5 => ?_) (fun b5 => ?_)
        · skip
          refine go_aload_n dX11_mixClash_24 rfl ?_
          refine go_cvV0 (M2 := mX11_layClash) dX11_mixClash_25 ml_X11_282 mv_X11_layClash sh_0 rfl rfl (Nat.le_of_ble_eq_true rfl) (by decide) (ev_X11_layClash t1) (fun σ2 hq => ?_)
          refine go_iconst dX11_mixClash_28 ?_
          refine go_ist1 dX11_mixClash_29 (Nat.le_of_ble_eq_true rfl) rfl ?_
          exact l2 ((mt_clT (mt_sg R m)).length + 1) 0 _ σ2 (by omega) (by omega) hq.1 (by rw [hq.2.f 29 (by decide)]; exact hf1) (ho.tr (hq.2.wk (by decide) (by decide))) (by rw [(hq.2.1 0 37 (Or.inr (by decide))).2]; exact he)
        · skip
          omega
  refine am_ev (by decide) [some (.ref 0), none, none] rfl (Nat.le_of_ble_eq_true rfl) ?_
  refine go_iconst dX11_mixClash_0 ?_
  refine go_ist1 dX11_mixClash_1 (Nat.le_of_ble_eq_true rfl) rfl ?_
  exact l1 7 0 _ _ (by omega) (by omega) hf fr.rf hT
theorem ev_X11_mixAheads {σ : am_St} {s : mS} (h : RepM σ s) : am_Ev SH mX11_mixAheads 9 [.ref 0] σ (am_rV (fun σ2 => σ2.2.1 0 37 = hs (σ.2.1 0 37) ((mt_rems (mt_sg s.2.1 s.2.2.1)).flatten ++ [mt_pval s.2.1 0, mt_pval s.2.1 1]) ∧ RepM σ2 s ∧ fr [6, 29, 37] [16] σ σ2)) := by
  have h8 := h.1.2.2.2.2.2.1
  have hS : okS (mt_sg s.2.1 s.2.2.1) := okS_sg h.1.2.2.2.2.2.2.2.2 h8 s.2.2.1
  generalize hT : hs (σ.2.1 0 37) ((mt_rems (mt_sg s.2.1 s.2.2.1)).flatten ++ [mt_pval s.2.1 0, mt_pval s.2.1 1]) = T
  generalize hQ : (am_rV (fun σ2 => σ2.2.1 0 37 = T ∧ RepM σ2 s ∧ fr [6, 29, 37] [16] σ σ2)) = Q
  have fin : ∀ (k : Int) (o3 o4 : Option Value) (σ1 : am_St), RepM σ1 s → fr [6, 29, 37] [16] σ σ1 → hs (σ1.2.1 0 37) [mt_pval s.2.1 0, mt_pval s.2.1 1] = T → am_Go SH mX11_mixAheads 9 Q 55 [some (.ref 0), some (.int (iZ ((mt_rems (mt_sg s.2.1 s.2.2.1)).length : Int))), some (.int (iZ k)), o3, o4] [] σ1 := by
    intro k o3 o4 σ1 g1 ho he
    have he2 : 31 * (31 * σ1.2.1 0 37 + mt_pval s.2.1 0) + mt_pval s.2.1 1 = T := he
    rcases mt_part_bd h8 with hp | ⟨b, hb, hp⟩
    · rw [show mt_pval s.2.1 0 = -1 by unfold mt_pval; rw [if_pos hp], show mt_pval s.2.1 1 = -1 by unfold mt_pval; rw [if_pos hp]] at he2
      refine go_aload_n dX11_mixAheads_55 rfl ?_
      refine go_cvI0 (M2 := mX11_partingSet) dX11_mixAheads_56 ml_X11_306 mv_X11_partingSet sh_0 rfl rfl (Nat.le_of_ble_eq_true rfl) (by decide) (ev_X11_partingSet g1) (fun x σ2 hq => ?_)
      obtain ⟨rfl, g2, ho2⟩ := hq
      rw [hp]
      refine go_ist2 dX11_mixAheads_59 (Nat.le_of_ble_eq_true rfl) rfl ?_
      refine go_aload_n dX11_mixAheads_60 rfl ?_
      refine go_iload_n dX11_mixAheads_61 rfl ?_
      refine go_iconst dX11_mixAheads_62 ?_
      refine go_icmp_ne (tgt := 72) dX11_mixAheads_63 (by decide) (by unfold inR; omega) (by unfold inR; omega) (fun b63 => ?_) (fun b63 => ?_)
      · skip
        exact absurd rfl b63
      · skip
        refine go_ldc2 dX11_mixAheads_66 kc_X11_349 ?_
        refine go_goto (tgt := 77) dX11_mixAheads_69 (by decide) ?_
        refine go_cvV1 (M2 := mX11_mix) dX11_mixAheads_77 ml_X11_345 mv_X11_mix sh_0 rfl rfl (Nat.le_of_ble_eq_true rfl) (by decide) (ev_X11_mix) (fun σ3 hq3 => ?_)
        refine go_aload_n dX11_mixAheads_80 rfl ?_
        refine go_iload_n dX11_mixAheads_81 rfl ?_
        refine go_i2l dX11_mixAheads_82 (by unfold inR; omega) ?_
        refine go_cvV1 (M2 := mX11_mix) dX11_mixAheads_83 ml_X11_345 mv_X11_mix sh_0 rfl rfl (Nat.le_of_ble_eq_true rfl) (by decide) (ev_X11_mix) (fun σ4 hq4 => ?_)
        subst hQ
        refine go_retV dX11_mixAheads_86 rfl ?_
        have oo : fr [37] [] σ2 σ4 := hq3.2.tr hq4.2
        exact ⟨by rw [hq4.1, hq3.1, (ho2.1 0 37 (Or.inr (by decide))).2]; exact he2, g2.fr oo (by decide) (by decide), (ho.tr (ho2.wk (by decide) (by decide))).tr (oo.wk (by decide) (by decide))⟩
    · have bcb : 0 ≤ mt_bc b ∧ mt_bc b ≤ 8 := mt_bc_0 ⟨b, hb⟩
      rw [show mt_pval s.2.1 0 = mt_bc b by unfold mt_pval; rw [if_neg (by omega), if_pos rfl, hp, Int.toNat_natCast], show mt_pval s.2.1 1 = (b : Int) by unfold mt_pval; rw [if_neg (by omega), if_neg (by decide), hp]] at he2
      refine go_aload_n dX11_mixAheads_55 rfl ?_
      refine go_cvI0 (M2 := mX11_partingSet) dX11_mixAheads_56 ml_X11_306 mv_X11_partingSet sh_0 rfl rfl (Nat.le_of_ble_eq_true rfl) (by decide) (ev_X11_partingSet g1) (fun x σ2 hq => ?_)
      obtain ⟨rfl, g2, ho2⟩ := hq
      rw [hp]
      refine go_ist2 dX11_mixAheads_59 (Nat.le_of_ble_eq_true rfl) rfl ?_
      refine go_aload_n dX11_mixAheads_60 rfl ?_
      refine go_iload_n dX11_mixAheads_61 rfl ?_
      refine go_iconst dX11_mixAheads_62 ?_
      refine go_icmp_ne (tgt := 72) dX11_mixAheads_63 (by decide) (by unfold inR; omega) (by unfold inR; omega) (fun b63 => ?_) (fun b63 => ?_)
      · skip
        refine go_iload_n dX11_mixAheads_72 rfl ?_
        refine go_csP1 (M2 := mX11_bits) dX11_mixAheads_73 ml_X11_303 ms_X11_bits (Nat.le_of_ble_eq_true rfl) (by decide) (ev_X11_bits hb) ?_
        refine go_i2l dX11_mixAheads_76 (by unfold inR; omega) ?_
        refine go_cvV1 (M2 := mX11_mix) dX11_mixAheads_77 ml_X11_345 mv_X11_mix sh_0 rfl rfl (Nat.le_of_ble_eq_true rfl) (by decide) (ev_X11_mix) (fun σ3 hq3 => ?_)
        refine go_aload_n dX11_mixAheads_80 rfl ?_
        refine go_iload_n dX11_mixAheads_81 rfl ?_
        refine go_i2l dX11_mixAheads_82 (by unfold inR; omega) ?_
        refine go_cvV1 (M2 := mX11_mix) dX11_mixAheads_83 ml_X11_345 mv_X11_mix sh_0 rfl rfl (Nat.le_of_ble_eq_true rfl) (by decide) (ev_X11_mix) (fun σ4 hq4 => ?_)
        subst hQ
        refine go_retV dX11_mixAheads_86 rfl ?_
        have oo : fr [37] [] σ2 σ4 := hq3.2.tr hq4.2
        exact ⟨by rw [hq4.1, hq3.1, (ho2.1 0 37 (Or.inr (by decide))).2]; exact he2, g2.fr oo (by decide) (by decide), (ho.tr (ho2.wk (by decide) (by decide))).tr (oo.wk (by decide) (by decide))⟩
      · skip
        omega
  have loop : ∀ (m k : Nat) (o3 o4 : Option Value) (σ1 : am_St), (mt_rems (mt_sg s.2.1 s.2.2.1)).length - k < m → k ≤ (mt_rems (mt_sg s.2.1 s.2.2.1)).length → RepM σ1 s → (∃ ws, ahA σ1 (mt_sg s.2.1 s.2.2.1) ws) → fr [6, 29, 37] [16] σ σ1 → hs (σ1.2.1 0 37) (((mt_rems (mt_sg s.2.1 s.2.2.1)).drop k).flatten ++ [mt_pval s.2.1 0, mt_pval s.2.1 1]) = T → am_Go SH mX11_mixAheads 9 Q 7 [some (.ref 0), some (.int (iZ ((mt_rems (mt_sg s.2.1 s.2.2.1)).length : Int))), some (.int (iZ (k : Int))), o3, o4] [] σ1 := by
    intro m
    induction m with
    | zero => intro k o3 o4 σ1 hm; exact absurd hm (by omega)
    | succ m ih =>
      intro k o3 o4 σ1 hm hk g1 hex ho he
      obtain ⟨ws, hA⟩ := hex
      have h40 := rems_40 hS hA
      by_cases hlt : k < (mt_rems (mt_sg s.2.1 s.2.2.1)).length
      · rw [List.drop_eq_getElem_cons hlt, List.flatten_cons, List.append_assoc] at he
        have inner : ∀ (p : Nat), okp (mt_sg s.2.1 s.2.2.1) p → p < 40 → ∀ (m2 j : Nat) (σ2 : am_St), (pt (mt_sg s.2.1 s.2.2.1) p).length - j < m2 → j ≤ (pt (mt_sg s.2.1 s.2.2.1) p).length → RepM σ2 s → (∃ ws, ahA σ2 (mt_sg s.2.1 s.2.2.1) ws) → fr [6, 29, 37] [16] σ σ2 → hs (σ2.2.1 0 37) ((pt (mt_sg s.2.1 s.2.2.1) p).drop j ++ (((mt_rems (mt_sg s.2.1 s.2.2.1)).drop (k + 1)).flatten ++ [mt_pval s.2.1 0, mt_pval s.2.1 1])) = T → am_Go SH mX11_mixAheads 9 Q 21 [some (.ref 0), some (.int (iZ ((mt_rems (mt_sg s.2.1 s.2.2.1)).length : Int))), some (.int (iZ (k : Int))), some (.int (iZ (p : Int))), some (.int (iZ (j : Int)))] [] σ2 := by
          intro p hokp hp40 m2
          have cP := h.1.pk p
          induction m2 with
          | zero => intro j σ2 hm2; exact absurd hm2 (by omega)
          | succ m2 ih2 =>
            intro j σ2 hm2 hj g2 hex2 ho2 he2
            by_cases hltj : j < (pt (mt_sg s.2.1 s.2.2.1) p).length
            · rw [ln_at_drop hltj, List.cons_append, hs_cons] at he2
              refine go_iload dX11_mixAheads_21 rfl ?_
              refine go_aload_n dX11_mixAheads_23 rfl ?_
              refine go_iload_n dX11_mixAheads_24 rfl ?_
              refine go_cvP1 (M2 := mX11_lengthOf) dX11_mixAheads_25 ml_X11_207 mv_X11_lengthOf sh_0 rfl rfl (Nat.le_of_ble_eq_true rfl) (by decide) (ev_X11_lengthOf g2.1 hokp) ?_
              refine go_icmp_ge (tgt := 49) dX11_mixAheads_28 (by decide) (by unfold inR; omega) (by unfold inR; omega) (fun b28 => ?_) (fun b28 => ?_)
              · skip
                omega
              · skip
                refine go_aload_n dX11_mixAheads_31 rfl ?_
                refine go_aload_n dX11_mixAheads_32 rfl ?_
                refine go_iload_n dX11_mixAheads_33 rfl ?_
                refine go_iload dX11_mixAheads_34 rfl ?_
                refine go_cvP2 (M2 := mX11_letterOf) dX11_mixAheads_36 ml_X11_210 mv_X11_letterOf sh_0 rfl rfl (Nat.le_of_ble_eq_true rfl) (by decide) (ev_X11_letterOf g2.1 hokp hltj) ?_
                refine go_i2l dX11_mixAheads_39 (ln_at_R (okl_R cP.1)) ?_
                refine go_cvV1 (M2 := mX11_mix) dX11_mixAheads_40 ml_X11_345 mv_X11_mix sh_0 rfl rfl (Nat.le_of_ble_eq_true rfl) (by decide) (ev_X11_mix) (fun σ3 hq => ?_)
                refine go_inc4 dX11_mixAheads_43 (Nat.le_of_ble_eq_true rfl) rfl ?_
                refine go_goto (tgt := 21) dX11_mixAheads_46 (by decide) ?_
                refine ih2 (j + 1) _ (by omega) (by omega) (g2.fr hq.2 (by decide) (by decide)) ?_ (ho2.tr (hq.2.wk (by decide) (by decide))) (by rw [hq.1]; exact he2)
                obtain ⟨ws2, hA2⟩ := hex2
                exact ⟨ws2, hA2.1.fr hq.2 (by decide), hA2.2⟩
            · rw [List.drop_eq_nil_of_le (by omega), List.nil_append] at he2
              refine go_iload dX11_mixAheads_21 rfl ?_
              refine go_aload_n dX11_mixAheads_23 rfl ?_
              refine go_iload_n dX11_mixAheads_24 rfl ?_
              refine go_cvP1 (M2 := mX11_lengthOf) dX11_mixAheads_25 ml_X11_207 mv_X11_lengthOf sh_0 rfl rfl (Nat.le_of_ble_eq_true rfl) (by decide) (ev_X11_lengthOf g2.1 hokp) ?_
              refine go_icmp_ge (tgt := 49) dX11_mixAheads_28 (by decide) (by unfold inR; omega) (by unfold inR; omega) (fun b28 => ?_) (fun b28 => ?_)
              · skip
                refine go_inc2 dX11_mixAheads_49 (Nat.le_of_ble_eq_true rfl) rfl ?_
                refine go_goto (tgt := 7) dX11_mixAheads_52 (by decide) ?_
                exact ih (k + 1) _ _ _ (by omega) (by omega) g2 hex2 ho2 he2
              · skip
                omega
        refine go_iload_n dX11_mixAheads_7 rfl ?_
        refine go_iload_n dX11_mixAheads_8 rfl ?_
        refine go_icmp_ge (tgt := 55) dX11_mixAheads_9 (by decide) (by unfold inR; omega) (by unfold inR; omega) (fun b9 => ?_) (fun b9 => ?_)
        · skip
          omega
        · skip
          refine go_aload_n dX11_mixAheads_12 rfl ?_
          refine go_iload_n dX11_mixAheads_13 rfl ?_
          refine go_cvI1 (M2 := mX11_aheadOf) dX11_mixAheads_14 ml_X11_245 mv_X11_aheadOf sh_0 rfl rfl (Nat.le_of_ble_eq_true rfl) (by decide) (ev_X11_aheadOf g1.1 hA (by unfold inR; omega)) (fun x σ2 hq => ?_)
          obtain ⟨hq1, rfl⟩ := hq
          obtain ⟨p, rfl, hp40, hokp, _, hget⟩ := hq1.resolve_left (fun z => by omega)
          rw [Int.toNat_natCast, List.getElem?_eq_getElem hlt] at hget
          rw [Option.some.inj hget] at he
          refine go_ist3 dX11_mixAheads_17 (Nat.le_of_ble_eq_true rfl) rfl ?_
          refine go_iconst dX11_mixAheads_18 ?_
          refine go_ist4 dX11_mixAheads_19 (Nat.le_of_ble_eq_true rfl) rfl ?_
          exact inner p hokp hp40 ((pt (mt_sg s.2.1 s.2.2.1) p).length + 1) 0 _ (by omega) (by omega) g1 ⟨ws, hA⟩ ho he
      · rw [List.drop_eq_nil_of_le (by omega)] at he
        refine go_iload_n dX11_mixAheads_7 rfl ?_
        refine go_iload_n dX11_mixAheads_8 rfl ?_
        refine go_icmp_ge (tgt := 55) dX11_mixAheads_9 (by decide) (by unfold inR; omega) (by unfold inR; omega) (fun b9 => ?_) (fun b9 => ?_)
        · skip
          exact fin _ _ _ _ g1 ho he
        · skip
          omega
  refine am_ev (by decide) [some (.ref 0), none, none, none, none] rfl (Nat.le_of_ble_eq_true rfl) ?_
  refine go_aload_n dX11_mixAheads_0 rfl ?_
  refine go_cvI0 (M2 := mX11_aheadsMany) dX11_mixAheads_1 ml_X11_291 mv_X11_aheadsMany sh_0 rfl rfl (Nat.le_of_ble_eq_true rfl) (by decide) (ev_X11_aheadsMany h.1 h.2.2.2.2.2.2.2) (fun x σ1 hq => ?_)
  obtain ⟨rfl, hex, hf1, ho1⟩ := hq
  refine go_ist1 dX11_mixAheads_4 (Nat.le_of_ble_eq_true rfl) rfl ?_
  refine go_iconst dX11_mixAheads_5 ?_
  refine go_ist2 dX11_mixAheads_6 (Nat.le_of_ble_eq_true rfl) rfl ?_
  exact loop ((mt_rems (mt_sg s.2.1 s.2.2.1)).length + 1) 0 _ _ _ (by omega) (by omega) (h.fr29 ho1 (by decide) (by decide) hf1) hex (ho1.wk (by decide) (by decide)) (by rw [(ho1.1 0 37 (Or.inr (by decide))).2]; exact hT)
theorem ev_X11_digest {σ : am_St} {s : mS} (h : RepM σ s) (c1 : inR s.2.2.2.2.2.1) (c2 : inR s.2.2.2.2.2.2.1) (c3 : inR s.2.2.2.2.2.2.2) : am_Ev SH mX11_digest 11 [.ref 0] σ (am_rL (fun x σ2 => x = m_digest s ∧ RepM σ2 s ∧ am_off XM σ σ2)) := by
  have ht := h.1.2.2.2.2
  have hcR := m_count_R ht h.2.2.1.2.2.2 h.2.2.2.1.2.2.2 c1 c2 c3
  have hp56 := h.2.2.2.1.2.2.2
  have hpok := h.2.2.2.1.2.2.1
  generalize hT : m_digest s = T
  unfold m_digest m_digV at hT
  rw [mt_clV_eq] at hT
  generalize hQ : (am_rL (fun x σ2 => x = T ∧ RepM σ2 s ∧ am_off XM σ σ2)) = Q
  have l2 : ∀ (m w : Nat) (σ1 : am_St), 7 - w < m → w ≤ 7 → RepM σ1 s → am_off XM σ σ1 → hs (σ1.2.1 0 37) (((List.range 7).drop w).map (fun w : Nat => m_count s (w : Int))) = T → am_Go SH mX11_digest 11 Q 52 [some (.ref 0), some (.int (iZ (w : Int)))] [] σ1 := by
    intro m
    induction m with
    | zero => intro w σ1 hm; exact absurd hm (by omega)
    | succ m ih =>
      intro w σ1 hm hw g1 o1 he
      by_cases hlt : w < 7
      · rw [rg_drop hlt, List.map_cons, hs_cons] at he
        refine go_iload_n dX11_digest_52 rfl ?_
        refine go_bipush dX11_digest_53 rfl ?_
        refine go_icmp_ge (tgt := 74) dX11_digest_55 (by decide) (by unfold inR; omega) (by unfold inR; omega) (fun b55 => ?_) (fun b55 => ?_)
        · skip
          omega
        · skip
          refine go_aload_n dX11_digest_58 rfl ?_
          refine go_aload_n dX11_digest_59 rfl ?_
          refine go_iload_n dX11_digest_60 rfl ?_
          refine go_cvP1 (M2 := mX11_howMany) dX11_digest_61 ml_X11_337 mv_X11_howMany sh_0 rfl rfl (Nat.le_of_ble_eq_true rfl) (by decide) (ev_X11_howMany g1 (by unfold inR; omega)) ?_
          refine go_i2l dX11_digest_64 (hcR _) ?_
          refine go_cvV1 (M2 := mX11_mix) dX11_digest_65 ml_X11_345 mv_X11_mix sh_0 rfl rfl (Nat.le_of_ble_eq_true rfl) (by decide) (ev_X11_mix) (fun σ2 hq => ?_)
          refine go_inc1 dX11_digest_68 (Nat.le_of_ble_eq_true rfl) rfl ?_
          refine go_goto (tgt := 52) dX11_digest_71 (by decide) ?_
          exact ih (w + 1) _ (by omega) (by omega) (g1.fr hq.2 (by decide) (by decide)) (o1.tr (hq.2.off (by decide))) (by rw [hq.1]; exact he)
      · rw [show w = 7 by omega] at he
        refine go_iload_n dX11_digest_52 rfl ?_
        refine go_bipush dX11_digest_53 rfl ?_
        refine go_icmp_ge (tgt := 74) dX11_digest_55 (by decide) (by unfold inR; omega) (by unfold inR; omega) (fun b55 => ?_) (fun b55 => ?_)
        · skip
          refine go_aload_n dX11_digest_74 rfl ?_
          refine go_getl fl_X11_342 dX11_digest_75 sh_0 rfl ?_
          subst hQ
          refine go_retL dX11_digest_78 rfl ?_
          exact ⟨he, g1, o1⟩
        · skip
          omega
  have l1 : ∀ (m k : Nat) (σ1 : am_St), s.2.2.2.2.1.length - k < m → k ≤ s.2.2.2.2.1.length → RepM σ1 s → am_off XM σ σ1 → hs (σ1.2.1 0 37) (s.2.2.2.2.1.drop k ++ (List.range 7).map (fun w : Nat => m_count s (w : Int))) = T → am_Go SH mX11_digest 11 Q 25 [some (.ref 0), some (.int (iZ (k : Int)))] [] σ1 := by
    intro m
    induction m with
    | zero => intro k σ1 hm; exact absurd hm (by omega)
    | succ m ih =>
      intro k σ1 hm hk g1 o1 he
      have e9 := g1.2.2.2.1.1
      by_cases hlt : k < s.2.2.2.2.1.length
      · have e6 := g1.2.2.2.1.2.1 k hlt
        rw [ln_at_drop hlt, List.cons_append, hs_cons] at he
        refine go_iload_n dX11_digest_25 rfl ?_
        refine go_aload_n dX11_digest_26 rfl ?_
        refine go_geti fl_X11_75 dX11_digest_27 sh_0 rfl ?_
        first | (rw [e9]) | (rw [e6]) | skip
        refine go_icmp_ge (tgt := 50) dX11_digest_30 (by decide) (by unfold inR; omega) (by unfold inR; omega) (fun b30 => ?_) (fun b30 => ?_)
        · skip
          omega
        · skip
          refine go_aload_n dX11_digest_33 rfl ?_
          refine go_aload_n dX11_digest_34 rfl ?_
          refine go_getr fl_X11_25 dX11_digest_35 sh_0 rfl ?_
          refine go_iload_n dX11_digest_38 rfl ?_
          refine go_iaload dX11_digest_39 (by first | assumption | rfl) (by first | assumption | exact Nat.le_of_ble_eq_true rfl) (by omega) (by omega) ?_
          first | (rw [e9]) | (rw [e6]) | skip
          refine go_i2l dX11_digest_40 (ln_at_R (okl_R hpok)) ?_
          refine go_cvV1 (M2 := mX11_mix) dX11_digest_41 ml_X11_345 mv_X11_mix sh_0 rfl rfl (Nat.le_of_ble_eq_true rfl) (by decide) (ev_X11_mix) (fun σ2 hq => ?_)
          refine go_inc1 dX11_digest_44 (Nat.le_of_ble_eq_true rfl) rfl ?_
          refine go_goto (tgt := 25) dX11_digest_47 (by decide) ?_
          exact ih (k + 1) _ (by omega) (by omega) (g1.fr hq.2 (by decide) (by decide)) (o1.tr (hq.2.off (by decide))) (by rw [hq.1]; exact he)
      · rw [List.drop_eq_nil_of_le (by omega), List.nil_append] at he
        refine go_iload_n dX11_digest_25 rfl ?_
        refine go_aload_n dX11_digest_26 rfl ?_
        refine go_geti fl_X11_75 dX11_digest_27 sh_0 rfl ?_
        first | (rw [e9]) | skip
        refine go_icmp_ge (tgt := 50) dX11_digest_30 (by decide) (by unfold inR; omega) (by unfold inR; omega) (fun b30 => ?_) (fun b30 => ?_)
        · skip
          refine go_iconst dX11_digest_50 ?_
          refine go_ist1 dX11_digest_51 (Nat.le_of_ble_eq_true rfl) rfl ?_
          exact l2 8 0 _ (by omega) (by omega) g1 o1 he
        · skip
          omega
  have o0 : fr [37] [] σ (am_sl σ 0 37 1583) := fr_sl (by decide)
  have e0 : (am_sl σ 0 37 1583).2.1 0 37 = 1583 := by simp [am_sl]
  have g0 := h.fr o0 (by decide) (by decide)
  refine am_ev (by decide) [some (.ref 0), none] rfl (Nat.le_of_ble_eq_true rfl) ?_
  refine go_aload_n dX11_digest_0 rfl ?_
  refine go_ldc2 dX11_digest_1 kc_X11_351 ?_
  refine go_putl fl_X11_342 dX11_digest_4 sh_0 rfl am_fit_long ?_
  refine go_aload_n dX11_digest_7 rfl ?_
  refine go_cvV0 (M2 := mX11_mixRules) dX11_digest_8 ml_X11_353 mv_X11_mixRules sh_0 rfl rfl (Nat.le_of_ble_eq_true rfl) (by decide) (ev_X11_mixRules g0.1 g0.2.1) (fun σ1 hq1 => ?_)
  have g1 := g0.fr hq1.2 (by decide) (by decide)
  refine go_aload_n dX11_digest_11 rfl ?_
  refine go_cvV0 (M2 := mX11_mixText) dX11_digest_12 ml_X11_356 mv_X11_mixText sh_0 rfl rfl (Nat.le_of_ble_eq_true rfl) (by decide) (ev_X11_mixText g1) (fun σ2 hq2 => ?_)
  have g2 := g1.fr hq2.2 (by decide) (by decide)
  refine go_aload_n dX11_digest_15 rfl ?_
  refine go_cvV0 (M2 := mX11_mixClash) dX11_digest_16 ml_X11_359 mv_X11_mixClash sh_0 rfl rfl (Nat.le_of_ble_eq_true rfl) (by decide) (ev_X11_mixClash g2.1 g2.2.2.2.2.2.2.2) (fun σ3 hq3 => ?_)
  have g3 := g2.fr29 hq3.2.2 (by decide) (by decide) hq3.2.1
  refine go_aload_n dX11_digest_19 rfl ?_
  refine go_cvV0 (M2 := mX11_mixAheads) dX11_digest_20 ml_X11_362 mv_X11_mixAheads sh_0 rfl rfl (Nat.le_of_ble_eq_true rfl) (by decide) (ev_X11_mixAheads g3) (fun σ4 hq4 => ?_)
  refine go_iconst dX11_digest_23 ?_
  refine go_ist1 dX11_digest_24 (Nat.le_of_ble_eq_true rfl) rfl ?_
  refine l1 (s.2.2.2.2.1.length + 1) 0 _ (by omega) (by omega) hq4.2.1 ((((o0.off (by decide)).tr (hq1.2.off (by decide))).tr ((hq2.2.off (by decide)).tr (hq3.2.2.off (by decide)))).tr (hq4.2.2.off (by decide))) ?_
  rw [hq4.1, hq3.1, hq2.1, hq1.1, e0]
  simp only [hs_app] at hT ⊢
  exact hT
