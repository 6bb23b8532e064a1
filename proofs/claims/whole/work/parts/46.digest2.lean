/-! ===== the class: digest's rows, clashes, the whole ===== -/
def m_rowsV (s : mS) : List Int := [((m_dec s).1.length : Int), m_stuck s] ++ ((m_dec s).1 ++ ([m_ways s] ++ m_row1 s))
theorem ev_X10_hashRows {σ : am_St} {s : mS} {h : Int} (g : RepC σ s) : am_Ev SH mX10_hashRows 4 [.ref 21, .long (lZ h)] σ (am_rL (fun x σ2 => x = hs h (m_rowsV s) ∧ RepC σ2 s ∧ am_off [33, 34, 40, 41, 42] σ σ2)) := by
  have hx := g.2.1
  have hd := m_dec_R s hx.2.2.2.2.1
  refine am_ev (by decide) [some (.ref 21), some (.long (lZ (h))), none, none, none, none] rfl (Nat.le_of_ble_eq_true rfl) ?_
  refine go_aload_n dX10_hashRows_0 rfl ?_
  refine go_getr fl_X10_10 dX10_hashRows_1 sh_21 rfl ?_
  refine go_getr fl_X10_157 dX10_hashRows_4 sh_22 rfl ?_
  refine go_aload_n dX10_hashRows_7 rfl ?_
  refine go_getr fl_X10_25 dX10_hashRows_8 sh_21 rfl ?_
  refine go_aload_n dX10_hashRows_11 rfl ?_
  refine go_getr fl_X10_28 dX10_hashRows_12 sh_21 rfl ?_
  refine go_csI3 (M2 := mX2_decode) dX10_hashRows_15 ml_X10_119 ms_X2_decode (Nat.le_of_ble_eq_true rfl) (by decide) (g.dec) (fun x σ1 hq => ?_)
  obtain ⟨rfl, q1, q2⟩ := hq
  have g1 := g.row q2 q1
  refine go_ist3 dX10_hashRows_18 (Nat.le_of_ble_eq_true rfl) rfl ?_
  refine go_lload_n dX10_hashRows_19 rfl ?_
  refine go_aload_n dX10_hashRows_20 rfl ?_
  refine go_getr fl_X10_28 dX10_hashRows_21 sh_21 rfl ?_
  refine go_cvP0 (M2 := mX1_size) dX10_hashRows_24 ml_X10_83 mv_X1_size q1.1 rfl rfl (Nat.le_of_ble_eq_true rfl) (by decide) (ev_X1_size q1) ?_
  refine go_csL2 (M2 := mX10_hashNumber) dX10_hashRows_27 ml_X10_233 ms_X10_hashNumber (Nat.le_of_ble_eq_true rfl) (by decide) (ev_X10_hashNumber (by have := q1.2.2.2.2.1; unfold inR; omega)) (fun y1 σa ha => ?_)
  obtain ⟨rfl, rfl⟩ := ha
  refine go_lst4 dX10_hashRows_30 (Nat.le_of_ble_eq_true rfl) rfl ?_
  refine go_lload dX10_hashRows_32 rfl ?_
  refine go_aload_n dX10_hashRows_34 rfl ?_
  refine go_iload_n dX10_hashRows_35 rfl ?_
  refine go_cvP1 (M2 := mX10_stuckPlace) dX10_hashRows_36 ml_X10_168 mv_X10_stuckPlace sh_21 rfl rfl (Nat.le_of_ble_eq_true rfl) (by decide) (ev_X10_stuckPlace g1) ?_
  refine go_csL2 (M2 := mX10_hashNumber) dX10_hashRows_39 ml_X10_233 ms_X10_hashNumber (Nat.le_of_ble_eq_true rfl) (by decide) (ev_X10_hashNumber (by unfold m_stuck inR; split <;> omega)) (fun y1 σa ha => ?_)
  obtain ⟨rfl, rfl⟩ := ha
  refine go_lst4 dX10_hashRows_42 (Nat.le_of_ble_eq_true rfl) rfl ?_
  refine go_lload dX10_hashRows_44 rfl ?_
  refine go_aload_n dX10_hashRows_46 rfl ?_
  refine go_getr fl_X10_28 dX10_hashRows_47 sh_21 rfl ?_
  refine go_csL2 (M2 := mX10_hashLine) dX10_hashRows_50 ml_X10_223 ms_X10_hashLine (Nat.le_of_ble_eq_true rfl) (by decide) (ev_X10_hashLine q1) (fun y1 σa ha => ?_)
  obtain ⟨rfl, rfl⟩ := ha
  refine go_lst4 dX10_hashRows_53 (Nat.le_of_ble_eq_true rfl) rfl ?_
  refine go_aload_n dX10_hashRows_55 rfl ?_
  refine go_getr fl_X10_41 dX10_hashRows_56 sh_21 rfl ?_
  refine go_aload_n dX10_hashRows_59 rfl ?_
  refine go_getr fl_X10_10 dX10_hashRows_60 sh_21 rfl ?_
  refine go_getr fl_X10_157 dX10_hashRows_63 sh_22 rfl ?_
  refine go_aload_n dX10_hashRows_66 rfl ?_
  refine go_getr fl_X10_25 dX10_hashRows_67 sh_21 rfl ?_
  refine go_cvV2 (M2 := mX7_weigh) dX10_hashRows_70 ml_X10_171 mv_X7_weigh (by first | assumption | exact sh_40 | exact sh_106) rfl rfl (Nat.le_of_ble_eq_true rfl) (by decide) (g1.wgh) (fun σ3 hq3 => ?_)
  obtain ⟨w1, w2⟩ := hq3
  have g3 := g1.sp w2
  refine go_lload dX10_hashRows_73 rfl ?_
  refine go_aload_n dX10_hashRows_75 rfl ?_
  refine go_getr fl_X10_41 dX10_hashRows_76 sh_21 rfl ?_
  refine go_cvP0 (M2 := mX7_total) dX10_hashRows_79 ml_X10_174 mv_X7_total (by first | assumption | exact sh_40 | exact sh_106) rfl rfl (Nat.le_of_ble_eq_true rfl) (by decide) (ev_X7_total isSp_40 w1) ?_
  refine go_csL2 (M2 := mX10_hashNumber) dX10_hashRows_82 ml_X10_233 ms_X10_hashNumber (Nat.le_of_ble_eq_true rfl) (by decide) (ev_X10_hashNumber (by have := mt_ws_bd (mt_sg s.2.1 s.2.2.1) s.2.2.2.1 0; unfold inR; omega)) (fun y1 σa ha => ?_)
  obtain ⟨rfl, rfl⟩ := ha
  refine go_lst4 dX10_hashRows_85 (Nat.le_of_ble_eq_true rfl) rfl ?_
  refine go_aload_n dX10_hashRows_87 rfl ?_
  refine go_getr fl_X10_41 dX10_hashRows_88 sh_21 rfl ?_
  refine go_aload_n dX10_hashRows_91 rfl ?_
  refine go_getr fl_X10_10 dX10_hashRows_92 sh_21 rfl ?_
  refine go_getr fl_X10_157 dX10_hashRows_95 sh_22 rfl ?_
  refine go_aload_n dX10_hashRows_98 rfl ?_
  refine go_getr fl_X10_25 dX10_hashRows_99 sh_21 rfl ?_
  refine go_iconst dX10_hashRows_102 ?_
  refine go_aload_n dX10_hashRows_103 rfl ?_
  refine go_getr fl_X10_28 dX10_hashRows_104 sh_21 rfl ?_
  refine go_cvV4 (M2 := mX7_pick) dX10_hashRows_107 ml_X10_177 mv_X7_pick (by first | assumption | exact sh_40 | exact sh_106) rfl rfl (Nat.le_of_ble_eq_true rfl) (by decide) (g3.pck w1) (fun σ4 hq4 => ?_)
  obtain ⟨p1, p2⟩ := hq4
  have g4 := g3.row p2 p1
  refine go_lload dX10_hashRows_110 rfl ?_
  refine go_aload_n dX10_hashRows_112 rfl ?_
  refine go_getr fl_X10_28 dX10_hashRows_113 sh_21 rfl ?_
  refine go_csL2 (M2 := mX10_hashLine) dX10_hashRows_116 ml_X10_223 ms_X10_hashLine (Nat.le_of_ble_eq_true rfl) (by decide) (ev_X10_hashLine p1) (fun y1 σa ha => ?_)
  obtain ⟨rfl, rfl⟩ := ha
  refine go_retL dX10_hashRows_119 rfl ?_
  refine ⟨?_, g4, ((q2.wk (by decide)).tr (w2.wk (by decide))).tr (p2.wk (by decide))⟩
  unfold m_rowsV
  simp only [hs_app]
  rfl
noncomputable def mt_clV (S : List (List Int)) : List Int := (List.range 6).map (fun w : Nat => mt_val S (w : Int)) ++ (mt_clT S ++ (mt_one S 0 ++ (mt_one S 1 ++ (mt_rems S).flatten)))
theorem mt_val_R {σ : am_St} {S : List (List Int)} (h : clsh σ S) (w : Int) : inR (mt_val S w) := by
  obtain ⟨k1, k2, k3, k4, k5, k6, k7⟩ := h
  have h1 := k1.1.2.2.2.2.1
  rw [List.length_map] at h1
  have h4 := k4.2.2.2.2.1
  have h5 := k5.2.2.2.2.1
  unfold mt_one at h4 h5
  unfold mt_val
  split
  · unfold inR; omega
  · revert h4 h5
    cases hc : mt_cl S with
    | none =>
      intro h4 h5
      simp only []
      split <;> (unfold inR; omega)
    | some t =>
      intro h4 h5
      simp only [] at h4 h5 ⊢
      have h6 := (k6 t hc).2
      have h7 := mt_ws_bd S t 0
      split
      · unfold inR; omega
      · split
        · unfold inR; omega
        · split
          · unfold inR; omega
          · split
            · unfold inR; omega
            · unfold inR; omega
theorem ev_X10_hashClashes {σ : am_St} {S : List (List Int)} {h : Int} (g : clsh σ S) : am_Ev SH mX10_hashClashes 3 [.ref 21, .long (lZ h)] σ (am_rL (fun x σ2 => x = hs h (mt_clV S) ∧ σ2 = σ)) := by
  have hv := mt_val_R g
  have g0 := g
  obtain ⟨k1, k2, k3, k4, k5, k6, k7⟩ := g
  have hl := k1.1.2.2.2.2.1
  rw [List.length_map] at hl
  generalize hT : hs h (mt_clV S) = T
  unfold mt_clV at hT
  have loop2 : ∀ (m : Nat) (i : Nat) (h' : Int), (mt_rems S).length - i < m → i ≤ (mt_rems S).length → hs h' ((mt_rems S).drop i).flatten = T → am_Go SH mX10_hashClashes 3 (am_rL (fun x σ2 => x = T ∧ σ2 = σ)) 70 [some (.ref 21), some (.long (lZ h)), none, some (.long (lZ h')), none, some (.int (iZ (i : Int)))] [] σ := by
    intro m
    induction m with
    | zero => intro i h' hm; exact absurd hm (by omega)
    | succ m ih =>
      intro i h' hm hi he
      have hz := k1.1
      refine go_iload dX10_hashClashes_70 rfl ?_
      refine go_aload_n dX10_hashClashes_72 rfl ?_
      refine go_getr fl_X10_48 dX10_hashClashes_73 sh_21 rfl ?_
      refine go_getr fl_X10_196 dX10_hashClashes_76 sh_43 rfl ?_
      refine go_getr fl_X10_200 dX10_hashClashes_79 sh_44 rfl ?_
      refine go_cvP0 (M2 := mX1_size) dX10_hashClashes_82 ml_X10_83 mv_X1_size hz.1 rfl rfl (Nat.le_of_ble_eq_true rfl) (by decide) (ev_X1_size hz) ?_
      rw [List.length_map]
      refine go_icmp_ge (tgt := 114) dX10_hashClashes_85 (by decide) (by unfold inR; omega) (by unfold inR; omega) (fun b85 => ?_) (fun b85 => ?_)
      · skip
        refine go_lload_n dX10_hashClashes_114 rfl ?_
        refine go_retL dX10_hashClashes_115 rfl ?_
        refine ⟨?_, rfl⟩
        rw [show i = (mt_rems S).length by omega, List.drop_length] at he
        exact he
      · skip
        refine go_lload_n dX10_hashClashes_88 rfl ?_
        refine go_aload_n dX10_hashClashes_89 rfl ?_
        refine go_getr fl_X10_48 dX10_hashClashes_90 sh_21 rfl ?_
        refine go_getr fl_X10_196 dX10_hashClashes_93 sh_43 rfl ?_
        refine go_getr fl_X10_200 dX10_hashClashes_96 sh_44 rfl ?_
        refine go_iload dX10_hashClashes_99 rfl ?_
        refine go_cvP1 (M2 := mX1_at) dX10_hashClashes_101 ml_X10_148 mv_X1_at hz.1 rfl rfl (Nat.le_of_ble_eq_true rfl) (by decide) (ev_X1_at hz (by unfold inR; omega)) ?_
        rw [ln_at_map (by omega) (by omega), Int.toNat_natCast, show (mt_rems S).getD i [] = (mt_rems S)[i]'(by omega) from by simp [List.getD, (by omega : i < (mt_rems S).length)]]
        refine go_csL2 (M2 := mX10_hashWord) dX10_hashClashes_104 ml_X10_243 ms_X10_hashWord (Nat.le_of_ble_eq_true rfl) (by decide) (ev_X10_hashWord (k1.2.2 _ (List.getElem_mem (by omega))).1 (k1.2.2 _ (List.getElem_mem (by omega))).2) (fun x σ1 hx => ?_)
        obtain ⟨rfl, rfl⟩ := hx
        refine go_lst3 dX10_hashClashes_107 (Nat.le_of_ble_eq_true rfl) rfl ?_
        refine go_inc5 dX10_hashClashes_108 (Nat.le_of_ble_eq_true rfl) rfl ?_
        refine go_goto (tgt := 70) dX10_hashClashes_111 (by decide) ?_
        refine ih (i + 1) _ (by omega) (by omega) ?_
        rw [List.drop_eq_getElem_cons (by omega), List.flatten_cons, hs_app] at he
        exact he
  have loop1 : ∀ (m : Nat) (w : Nat) (h' : Int), 6 - w < m → w ≤ 6 → hs h' (((List.range 6).drop w).map (fun w : Nat => mt_val S (w : Int)) ++ (mt_clT S ++ (mt_one S 0 ++ (mt_one S 1 ++ (mt_rems S).flatten)))) = T → am_Go SH mX10_hashClashes 3 (am_rL (fun x σ2 => x = T ∧ σ2 = σ)) 5 [some (.ref 21), some (.long (lZ h)), none, some (.long (lZ h')), none, some (.int (iZ (w : Int)))] [] σ := by
    intro m
    induction m with
    | zero => intro w h' hm; exact absurd hm (by omega)
    | succ m ih =>
      intro w h' hm hi he
      refine go_iload dX10_hashClashes_5 rfl ?_
      refine go_iconst dX10_hashClashes_7 ?_
      refine go_icmp_gt (tgt := 31) dX10_hashClashes_8 (by decide) (by unfold inR; omega) (by unfold inR; omega) (fun b8 => ?_) (fun b8 => ?_)
      · skip
        refine go_lload_n dX10_hashClashes_31 rfl ?_
        refine go_aload_n dX10_hashClashes_32 rfl ?_
        refine go_getr fl_X10_48 dX10_hashClashes_33 sh_21 rfl ?_
        refine go_getr fl_X10_187 dX10_hashClashes_36 sh_43 rfl ?_
        refine go_csL2 (M2 := mX10_hashLine) dX10_hashClashes_39 ml_X10_223 ms_X10_hashLine (Nat.le_of_ble_eq_true rfl) (by decide) (ev_X10_hashLine k3) (fun x σ1 hx => ?_)
        obtain ⟨rfl, rfl⟩ := hx
        refine go_lst3 dX10_hashClashes_42 (Nat.le_of_ble_eq_true rfl) rfl ?_
        refine go_lload_n dX10_hashClashes_43 rfl ?_
        refine go_aload_n dX10_hashClashes_44 rfl ?_
        refine go_getr fl_X10_48 dX10_hashClashes_45 sh_21 rfl ?_
        refine go_getr fl_X10_190 dX10_hashClashes_48 sh_43 rfl ?_
        refine go_csL2 (M2 := mX10_hashLine) dX10_hashClashes_51 ml_X10_223 ms_X10_hashLine (Nat.le_of_ble_eq_true rfl) (by decide) (ev_X10_hashLine k4) (fun x σ1 hx => ?_)
        obtain ⟨rfl, rfl⟩ := hx
        refine go_lst3 dX10_hashClashes_54 (Nat.le_of_ble_eq_true rfl) rfl ?_
        refine go_lload_n dX10_hashClashes_55 rfl ?_
        refine go_aload_n dX10_hashClashes_56 rfl ?_
        refine go_getr fl_X10_48 dX10_hashClashes_57 sh_21 rfl ?_
        refine go_getr fl_X10_193 dX10_hashClashes_60 sh_43 rfl ?_
        refine go_csL2 (M2 := mX10_hashLine) dX10_hashClashes_63 ml_X10_223 ms_X10_hashLine (Nat.le_of_ble_eq_true rfl) (by decide) (ev_X10_hashLine k5) (fun x σ1 hx => ?_)
        obtain ⟨rfl, rfl⟩ := hx
        refine go_lst3 dX10_hashClashes_66 (Nat.le_of_ble_eq_true rfl) rfl ?_
        refine go_iconst dX10_hashClashes_67 ?_
        refine go_ist5 dX10_hashClashes_68 (Nat.le_of_ble_eq_true rfl) rfl ?_
        refine loop2 ((mt_rems S).length + 1) 0 _ (by omega) (by omega) ?_
        rw [show w = 6 by omega] at he
        simp only [hs_app] at he
        exact he
      · skip
        refine go_lload_n dX10_hashClashes_11 rfl ?_
        refine go_aload_n dX10_hashClashes_12 rfl ?_
        refine go_getr fl_X10_48 dX10_hashClashes_13 sh_21 rfl ?_
        refine go_iload dX10_hashClashes_16 rfl ?_
        refine go_cvP1 (M2 := mX0_value) dX10_hashClashes_18 ml_X10_184 mv_X0_value sh_43 rfl rfl (Nat.le_of_ble_eq_true rfl) (by decide) (ev_X0_value g0 (by omega) (by omega)) ?_
        refine go_csL2 (M2 := mX10_hashNumber) dX10_hashClashes_21 ml_X10_233 ms_X10_hashNumber (Nat.le_of_ble_eq_true rfl) (by decide) (ev_X10_hashNumber (hv _)) (fun x σ1 hx => ?_)
        obtain ⟨rfl, rfl⟩ := hx
        refine go_lst3 dX10_hashClashes_24 (Nat.le_of_ble_eq_true rfl) rfl ?_
        refine go_inc5 dX10_hashClashes_25 (Nat.le_of_ble_eq_true rfl) rfl ?_
        refine go_goto (tgt := 5) dX10_hashClashes_28 (by decide) ?_
        refine ih (w + 1) _ (by omega) (by omega) ?_
        rw [rg_drop (by omega), List.map_cons, List.cons_append, hs_cons] at he
        exact he
  refine am_ev (by decide) [some (.ref 21), some (.long (lZ (h))), none, none, none, none] rfl (Nat.le_of_ble_eq_true rfl) ?_
  refine go_lload_n dX10_hashClashes_0 rfl ?_
  refine go_lst3 dX10_hashClashes_1 (Nat.le_of_ble_eq_true rfl) rfl ?_
  refine go_iconst dX10_hashClashes_2 ?_
  refine go_ist5 dX10_hashClashes_3 (Nat.le_of_ble_eq_true rfl) rfl ?_
  exact loop1 7 0 h (by omega) (by omega) hT
noncomputable def m_digV (s : mS) : List Int := m_rulesV s ++ (s.2.2.2.1 ++ (m_rowsV s ++ (mt_clV (mt_sg s.2.1 s.2.2.1) ++ ([mt_pval s.2.1 0, mt_pval s.2.1 1] ++ (s.2.2.2.2.1 ++ (List.range 7).map (fun w : Nat => m_count s (w : Int)))))))
noncomputable def m_digest (s : mS) : Int := hs 1583 (m_digV s)
theorem m_count_R {s : mS} (ht : tabOK s.1 s.2.1 s.2.2.1) (h1 : s.2.2.2.1.length ≤ 56) (h2 : s.2.2.2.2.1.length ≤ 56) (c1 : inR s.2.2.2.2.2.1) (c2 : inR s.2.2.2.2.2.2.1) (c3 : inR s.2.2.2.2.2.2.2) (w : Int) : inR (m_count s w) := by
  have hb := mt_bc_0 ⟨s.2.2.1, ht.mk⟩
  have h8 := ht.2.1
  simp only [] at hb
  unfold m_count
  split
  · unfold inR; omega
  · split
    · unfold inR; omega
    · split
      · unfold inR; omega
      · split
        · unfold inR; omega
        · split
          · exact c1
          · split
            · exact c2
            · split
              · exact c3
              · unfold inR; omega
theorem mt_pval_R {R : List (List Int)} (h8 : R.length ≤ 8) (w : Int) : inR (mt_pval R w) := by
  unfold mt_pval
  rcases mt_part_bd h8 with z | ⟨m, hm, z⟩
  · rw [if_pos z]; unfold inR; omega
  · have hb := mt_bc_0 ⟨m, hm⟩
    simp only [] at hb
    rw [z, Int.toNat_natCast]
    split
    · unfold inR; omega
    · split
      · unfold inR; omega
      · unfold inR; omega
theorem ev_X10_digest {σ : am_St} {s : mS} (g : RepC σ s) (c1 : inR s.2.2.2.2.2.1) (c2 : inR s.2.2.2.2.2.2.1) (c3 : inR s.2.2.2.2.2.2.2) : am_Ev SH mX10_digest 6 [.ref 21] σ (am_rL (fun x σ2 => x = m_digest s ∧ RepC σ2 s ∧ am_off XL σ σ2)) := by
  have ht := g.1.2.2.2.2
  have hcR := m_count_R ht g.2.1.2.2.2.2.1 g.2.2.1.2.2.2.2.1 c1 c2 c3
  generalize hT : m_digest s = T
  unfold m_digest m_digV at hT
  have loop : ∀ (m : Nat) (σ1 : am_St) (w : Nat) (h' : Int), RepC σ1 s → am_off XL σ σ1 → 7 - w < m → w ≤ 7 → hs h' (((List.range 7).drop w).map (fun w : Nat => m_count s (w : Int))) = T → am_Go SH mX10_digest 6 (am_rL (fun x σ2 => x = T ∧ RepC σ2 s ∧ am_off XL σ σ2)) 74 [some (.ref 21), some (.long (lZ h')), none, some (.int (iZ (w : Int)))] [] σ1 := by
    intro m
    induction m with
    | zero => intro σ1 w h' _ _ hm; exact absurd hm (by omega)
    | succ m ih =>
      intro σ1 w h' g1 o1 hm hi he
      refine go_iload_n dX10_digest_74 rfl ?_
      refine go_bipush dX10_digest_75 rfl ?_
      refine go_icmp_gt (tgt := 96) dX10_digest_77 (by decide) (by unfold inR; omega) (by unfold inR; omega) (fun b77 => ?_) (fun b77 => ?_)
      · skip
        refine go_lload_n dX10_digest_96 rfl ?_
        refine go_retL dX10_digest_97 rfl ?_
        refine ⟨?_, g1, o1⟩
        rw [show w = 7 by omega] at he
        exact he
      · skip
        refine go_lload_n dX10_digest_80 rfl ?_
        refine go_aload_n dX10_digest_81 rfl ?_
        refine go_iload_n dX10_digest_82 rfl ?_
        refine go_cvP1 (M2 := mX10_count) dX10_digest_83 ml_X10_237 mv_X10_count sh_21 rfl rfl (Nat.le_of_ble_eq_true rfl) (by decide) (ev_X10_count g1 (by unfold inR; omega)) ?_
        refine go_csL2 (M2 := mX10_hashNumber) dX10_digest_86 ml_X10_233 ms_X10_hashNumber (Nat.le_of_ble_eq_true rfl) (by decide) (ev_X10_hashNumber (hcR _)) (fun x σ2 hx => ?_)
        obtain ⟨rfl, rfl⟩ := hx
        refine go_lst1 dX10_digest_89 (Nat.le_of_ble_eq_true rfl) rfl ?_
        refine go_inc3 dX10_digest_90 (Nat.le_of_ble_eq_true rfl) rfl ?_
        refine go_goto (tgt := 74) dX10_digest_93 (by decide) ?_
        refine ih _ (w + 1) _ g1 o1 (by omega) (by omega) ?_
        rw [rg_drop (by omega), List.map_cons, hs_cons] at he
        exact he
  refine am_ev (by decide) [some (.ref 21), none, none, none] rfl (Nat.le_of_ble_eq_true rfl) ?_
  refine go_aload_n dX10_digest_0 rfl ?_
  refine go_cvV0 (M2 := mX10_knowClashes) dX10_digest_1 ml_X10_181 mv_X10_knowClashes sh_21 rfl rfl (Nat.le_of_ble_eq_true rfl) (by decide) (ev_X10_knowClashes g) (fun σ1 hq1 => ?_)
  obtain ⟨g1, o1⟩ := hq1
  refine go_aload_n dX10_digest_4 rfl ?_
  refine go_cvV0 (M2 := mX10_knowPartings) dX10_digest_5 ml_X10_205 mv_X10_knowPartings sh_21 rfl rfl (Nat.le_of_ble_eq_true rfl) (by decide) (ev_X10_knowPartings g1.1) (fun σ2 hq2 => ?_)
  obtain ⟨g2, g3, o2⟩ := hq2
  have g4 := g3 g1
  refine go_aload_n dX10_digest_8 rfl ?_
  refine go_ldc2 dX10_digest_9 kc_X10_217 ?_
  refine go_cvL1 (M2 := mX10_hashRules) dX10_digest_12 ml_X10_219 mv_X10_hashRules sh_21 rfl rfl (Nat.le_of_ble_eq_true rfl) (by decide) (ev_X10_hashRules g2.1) (fun x σa hx => ?_)
  obtain ⟨rfl, rfl⟩ := hx
  refine go_lst1 dX10_digest_15 (Nat.le_of_ble_eq_true rfl) rfl ?_
  refine go_lload_n dX10_digest_16 rfl ?_
  refine go_aload_n dX10_digest_17 rfl ?_
  refine go_getr fl_X10_25 dX10_digest_18 sh_21 rfl ?_
  refine go_csL2 (M2 := mX10_hashLine) dX10_digest_21 ml_X10_223 ms_X10_hashLine (Nat.le_of_ble_eq_true rfl) (by decide) (ev_X10_hashLine g2.1.2.1) (fun x σa hx => ?_)
  obtain ⟨rfl, rfl⟩ := hx
  refine go_lst1 dX10_digest_24 (Nat.le_of_ble_eq_true rfl) rfl ?_
  refine go_aload_n dX10_digest_25 rfl ?_
  refine go_lload_n dX10_digest_26 rfl ?_
  refine go_cvL1 (M2 := mX10_hashRows) dX10_digest_27 ml_X10_227 mv_X10_hashRows sh_21 rfl rfl (Nat.le_of_ble_eq_true rfl) (by decide) (ev_X10_hashRows g2.1) (fun x σ3 hx => ?_)
  obtain ⟨rfl, g5, o3⟩ := hx
  refine go_lst1 dX10_digest_30 (Nat.le_of_ble_eq_true rfl) rfl ?_
  refine go_aload_n dX10_digest_31 rfl ?_
  refine go_lload_n dX10_digest_32 rfl ?_
  refine go_cvL1 (M2 := mX10_hashClashes) dX10_digest_33 ml_X10_230 mv_X10_hashClashes sh_21 rfl rfl (Nat.le_of_ble_eq_true rfl) (by decide) (ev_X10_hashClashes (g4.2.2.off o3 (by decide))) (fun x σa hx => ?_)
  obtain ⟨rfl, rfl⟩ := hx
  refine go_lst1 dX10_digest_36 (Nat.le_of_ble_eq_true rfl) rfl ?_
  refine go_lload_n dX10_digest_37 rfl ?_
  refine go_aload_n dX10_digest_38 rfl ?_
  refine go_getr fl_X10_55 dX10_digest_39 sh_21 rfl ?_
  refine go_iconst dX10_digest_42 ?_
  refine go_cvP1 (M2 := mX3_value) dX10_digest_43 ml_X10_208 mv_X3_value sh_109 rfl rfl (Nat.le_of_ble_eq_true rfl) (by decide) (ev_X3_value ht.2.1 ((o3 109 (by decide)).1 2 ▸ g2.2.2) (by unfold inR; omega)) ?_
  refine go_csL2 (M2 := mX10_hashNumber) dX10_digest_46 ml_X10_233 ms_X10_hashNumber (Nat.le_of_ble_eq_true rfl) (by decide) (ev_X10_hashNumber (mt_pval_R ht.2.1 _)) (fun x σa hx => ?_)
  obtain ⟨rfl, rfl⟩ := hx
  refine go_lst1 dX10_digest_49 (Nat.le_of_ble_eq_true rfl) rfl ?_
  refine go_lload_n dX10_digest_50 rfl ?_
  refine go_aload_n dX10_digest_51 rfl ?_
  refine go_getr fl_X10_55 dX10_digest_52 sh_21 rfl ?_
  refine go_iconst dX10_digest_55 ?_
  refine go_cvP1 (M2 := mX3_value) dX10_digest_56 ml_X10_208 mv_X3_value sh_109 rfl rfl (Nat.le_of_ble_eq_true rfl) (by decide) (ev_X3_value ht.2.1 ((o3 109 (by decide)).1 2 ▸ g2.2.2) (by unfold inR; omega)) ?_
  refine go_csL2 (M2 := mX10_hashNumber) dX10_digest_59 ml_X10_233 ms_X10_hashNumber (Nat.le_of_ble_eq_true rfl) (by decide) (ev_X10_hashNumber (mt_pval_R ht.2.1 _)) (fun x σa hx => ?_)
  obtain ⟨rfl, rfl⟩ := hx
  refine go_lst1 dX10_digest_62 (Nat.le_of_ble_eq_true rfl) rfl ?_
  refine go_lload_n dX10_digest_63 rfl ?_
  refine go_aload_n dX10_digest_64 rfl ?_
  refine go_getr fl_X10_21 dX10_digest_65 sh_21 rfl ?_
  refine go_csL2 (M2 := mX10_hashLine) dX10_digest_68 ml_X10_223 ms_X10_hashLine (Nat.le_of_ble_eq_true rfl) (by decide) (ev_X10_hashLine g5.2.2.1) (fun x σa hx => ?_)
  obtain ⟨rfl, rfl⟩ := hx
  refine go_lst1 dX10_digest_71 (Nat.le_of_ble_eq_true rfl) rfl ?_
  refine go_iconst dX10_digest_72 ?_
  refine go_ist3 dX10_digest_73 (Nat.le_of_ble_eq_true rfl) rfl ?_
  refine loop 8 _ 0 _ g5 ((o1.tr o2).tr (XL_of o3 (by decide))) (by omega) (by omega) ?_
  simp only [hs_app] at hT
  exact hT
