/-! ===== Rules ===== -/
theorem ev_J6_bitCount {σ : am_St} {n : Nat} (hn : n < 256) : am_Ev SH mJ6_bitCount_0f7a4 0 [.int (iZ (n : Int))] σ (am_rI (fun x σ2 => x = mt_bc n ∧ σ2 = σ)) := by
  refine am_evF (by decide +kernel) [some (.int (iZ ((n : Int))))] rfl (Nat.le_of_ble_eq_true rfl) ?_
  refine go_iload_n dJ6_bitCount_0f7a4_0 rfl ?_
  refine go_iload_n dJ6_bitCount_0f7a4_1 rfl ?_
  refine go_iconst dJ6_bitCount_0f7a4_2 ?_
  refine go_iushr dJ6_bitCount_0f7a4_3 ?_
  refine go_ldcw dJ6_bitCount_0f7a4_4 kc_J6_265 ?_
  refine go_iand dJ6_bitCount_0f7a4_7 ?_
  refine go_isub dJ6_bitCount_0f7a4_8 ?_
  refine go_ist0 dJ6_bitCount_0f7a4_9 (Nat.le_of_ble_eq_true rfl) ?_
  refine go_iload_n dJ6_bitCount_0f7a4_10 rfl ?_
  refine go_ldcw dJ6_bitCount_0f7a4_11 kc_J6_266 ?_
  refine go_iand dJ6_bitCount_0f7a4_14 ?_
  refine go_iload_n dJ6_bitCount_0f7a4_15 rfl ?_
  refine go_iconst dJ6_bitCount_0f7a4_16 ?_
  refine go_iushr dJ6_bitCount_0f7a4_17 ?_
  refine go_ldcw dJ6_bitCount_0f7a4_18 kc_J6_266 ?_
  refine go_iand dJ6_bitCount_0f7a4_21 ?_
  refine go_iadd dJ6_bitCount_0f7a4_22 ?_
  refine go_ist0 dJ6_bitCount_0f7a4_23 (Nat.le_of_ble_eq_true rfl) ?_
  refine go_iload_n dJ6_bitCount_0f7a4_24 rfl ?_
  refine go_iload_n dJ6_bitCount_0f7a4_25 rfl ?_
  refine go_iconst dJ6_bitCount_0f7a4_26 ?_
  refine go_iushr dJ6_bitCount_0f7a4_27 ?_
  refine go_iadd dJ6_bitCount_0f7a4_28 ?_
  refine go_ldcw dJ6_bitCount_0f7a4_29 kc_J6_267 ?_
  refine go_iand dJ6_bitCount_0f7a4_32 ?_
  refine go_ist0 dJ6_bitCount_0f7a4_33 (Nat.le_of_ble_eq_true rfl) ?_
  refine go_iload_n dJ6_bitCount_0f7a4_34 rfl ?_
  refine go_iload_n dJ6_bitCount_0f7a4_35 rfl ?_
  refine go_bipush dJ6_bitCount_0f7a4_36 rfl ?_
  refine go_iushr dJ6_bitCount_0f7a4_38 ?_
  refine go_iadd dJ6_bitCount_0f7a4_39 ?_
  refine go_ist0 dJ6_bitCount_0f7a4_40 (Nat.le_of_ble_eq_true rfl) ?_
  refine go_iload_n dJ6_bitCount_0f7a4_41 rfl ?_
  refine go_iload_n dJ6_bitCount_0f7a4_42 rfl ?_
  refine go_bipush dJ6_bitCount_0f7a4_43 rfl ?_
  refine go_iushr dJ6_bitCount_0f7a4_45 ?_
  refine go_iadd dJ6_bitCount_0f7a4_46 ?_
  refine go_ist0 dJ6_bitCount_0f7a4_47 (Nat.le_of_ble_eq_true rfl) ?_
  refine go_iload_n dJ6_bitCount_0f7a4_48 rfl ?_
  refine go_bipush dJ6_bitCount_0f7a4_49 rfl ?_
  refine go_iand dJ6_bitCount_0f7a4_51 ?_
  refine go_retI dJ6_bitCount_0f7a4_52 rfl ?_
  refine ⟨?_, rfl⟩
  exact mt_bc_all ⟨n, hn⟩
theorem ev_X6_makeSigns {σ : am_St} {k3 n3 : Nat} {R : List (List Int)} {ys : List Int} {mk : Nat} (h : hold σ 25 8 (R.map enc)) (r : hold σ k3 n3 ys) (hR : okr R) (hmk : mk < 256) (hlen : R.length ≤ n3) (d : 25 ≠ k3 ∧ 25 ≠ k3 + 1 ∧ 26 ≠ k3) : am_Ev SH mX6_makeSigns 1 [.ref 22, .int (iZ (mk : Int)), .ref k3] σ (am_rV (fun σ2 => hold σ2 k3 n3 ((mt_sg R mk).map enc) ∧ am_off [k3, k3 + 1] σ σ2)) := by
  have hk3 := r.1
  have hk := h.1
  have hl5 := h.2.2.2.2.1
  rw [List.length_map] at hl5
  have loop : ∀ (m : Nat) (i : Nat) (σ1 : am_St) (w4 w5 : Option Value), R.length - i < m → i ≤ R.length → hold σ1 k3 n3 (((mt_sg R mk).take i).map enc) → am_off [k3, k3 + 1] σ σ1 → am_Go SH mX6_makeSigns 1 (am_rV (fun σ2 => hold σ2 k3 n3 ((mt_sg R mk).map enc) ∧ am_off [k3, k3 + 1] σ σ2)) 6 [some (.ref 22), some (.int (iZ (mk : Int))), some (.ref k3), some (.int (iZ i)), w4, w5] [] σ1 := by
    intro m
    induction m with
    | zero => intro i σ1 w4 w5 hm; exact absurd hm (by omega)
    | succ m ih =>
      intro i σ1 w4 w5 hm hi hr ho
      have h' := h.off ho (by simp; omega) (by simp; omega)
      have eb : am_and (am_shr (mk : Int) (i : Int)) 1 = ((mk / 2 ^ i % 2 : Nat) : Int) := mt_bit (by omega) (by omega)
      have hb2 : mk / 2 ^ i % 2 < 2 := Nat.mod_lt _ (by decide)
      refine go_iload_n dX6_makeSigns_6 rfl ?_
      refine go_aload_n dX6_makeSigns_7 rfl ?_
      refine go_getr fl_X6_20 dX6_makeSigns_8 sh_22 rfl ?_
      refine go_cvP0 (M2 := mX1_size) dX6_makeSigns_11 ml_X6_30 mv_X1_size (by assumption) rfl rfl (Nat.le_of_ble_eq_true rfl) (by decide) (ev_X1_size h') ?_
      rw [List.length_map]
      refine go_icmp_ge (tgt := 70) dX6_makeSigns_14 (by decide) (by unfold inR; omega) (by unfold inR; omega) (fun b14 => ?_) (fun b14 => ?_)
      · skip
        refine go_retV dX6_makeSigns_70 rfl ?_
        have hfull : i = R.length := by omega
        refine ⟨?_, ho⟩
        rw [hfull, ← mt_sg_len R mk, List.take_length] at hr
        exact hr
      · skip
        refine go_aload_n dX6_makeSigns_17 rfl ?_
        refine go_getr fl_X6_20 dX6_makeSigns_18 sh_22 rfl ?_
        refine go_iload_n dX6_makeSigns_21 rfl ?_
        refine go_cvP1 (M2 := mX1_at) dX6_makeSigns_22 ml_X6_58 mv_X1_at (by assumption) rfl rfl (Nat.le_of_ble_eq_true rfl) (by decide) (ev_X1_at h' (by unfold inR; omega)) ?_
        rw [ln_at_map (by omega) (by omega), Int.toNat_natCast]
        have hlt : i < R.length := by omega
        have hsi : R.getD i [] = R[i] := by rw [List.getD_eq_getElem?_getD, List.getElem?_eq_getElem hlt]; rfl
        have hri := hR _ (List.getElem_mem hlt)
        have hsg := mt_sg_get mk hlt
        refine go_ist4 dX6_makeSigns_25 (Nat.le_of_ble_eq_true rfl) rfl ?_
        refine go_iload_n dX6_makeSigns_27 rfl ?_
        refine go_iload_n dX6_makeSigns_28 rfl ?_
        refine go_ishr dX6_makeSigns_29 ?_
        refine go_iconst dX6_makeSigns_30 ?_
        refine go_iand dX6_makeSigns_31 ?_
        refine go_iconst dX6_makeSigns_32 ?_
        rw [eb]
        refine go_icmp_ne (tgt := 40) dX6_makeSigns_33 (by decide) (by unfold inR; omega) (by unfold inR; omega) (fun b33 => ?_) (fun b33 => ?_)
        · skip
          refine go_iconst dX6_makeSigns_40 ?_
          refine go_ist5 dX6_makeSigns_41 (Nat.le_of_ble_eq_true rfl) rfl ?_
          refine go_aload_n dX6_makeSigns_43 rfl ?_
          refine go_iload dX6_makeSigns_44 rfl ?_
          refine go_if_eq (tgt := 59) dX6_makeSigns_46 (by decide) (by unfold inR; omega) (fun b46 => ?_) (fun b46 => ?_)
          · skip
            refine go_iload dX6_makeSigns_59 rfl ?_
            refine go_cvV1 (M2 := mX1_add) dX6_makeSigns_61 ml_X6_67 mv_X1_add (by assumption) rfl rfl (Nat.le_of_ble_eq_true rfl) (by decide) (ev_X1_add hr (by rw [hsi]; first | (rw [wd_ap_enc hri.1 (by unfold okc; omega) (by omega)]; exact enc_inR (okl_app.mpr ⟨hri.1, fun c hc => by simp at hc; rw [hc]; unfold okc; omega⟩) (by simp; omega)) | exact enc_inR hri.1 (by omega)) (by simp [mt_sg_len]; omega)) (fun σ2 hq => ?_)
            refine go_inc3 dX6_makeSigns_64 (Nat.le_of_ble_eq_true rfl) rfl ?_
            refine go_goto (tgt := 6) dX6_makeSigns_67 (by decide) ?_
            rw [show (i : Int) + 1 = ((i + 1 : Nat) : Int) by omega]
            refine ih (i + 1) σ2 _ _ (by omega) (by omega) ?_ (ho.tr hq.2)
            rw [List.take_add_one, hsg, List.map_append]
            have hq1 := hq.1
            rw [hsi] at hq1
            first
              | (rw [if_pos (by omega)]; rw [wd_ap_enc hri.1 (by unfold okc; omega) (by omega)] at hq1; exact hq1)
              | (rw [if_neg (by omega)]; exact hq1)
          · skip
            refine go_iload dX6_makeSigns_49 rfl ?_
            refine go_bipush dX6_makeSigns_51 rfl ?_
            refine go_csP2 (M2 := mX9_append) dX6_makeSigns_53 ml_X6_61 ms_X9_append (Nat.le_of_ble_eq_true rfl) (by decide) (ev_X9_append) ?_
            refine go_goto (tgt := 61) dX6_makeSigns_56 (by decide) ?_
            refine go_cvV1 (M2 := mX1_add) dX6_makeSigns_61 ml_X6_67 mv_X1_add (by assumption) rfl rfl (Nat.le_of_ble_eq_true rfl) (by decide) (ev_X1_add hr (by rw [hsi]; first | (rw [wd_ap_enc hri.1 (by unfold okc; omega) (by omega)]; exact enc_inR (okl_app.mpr ⟨hri.1, fun c hc => by simp at hc; rw [hc]; unfold okc; omega⟩) (by simp; omega)) | exact enc_inR hri.1 (by omega)) (by simp [mt_sg_len]; omega)) (fun σ2 hq => ?_)
            refine go_inc3 dX6_makeSigns_64 (Nat.le_of_ble_eq_true rfl) rfl ?_
            refine go_goto (tgt := 6) dX6_makeSigns_67 (by decide) ?_
            rw [show (i : Int) + 1 = ((i + 1 : Nat) : Int) by omega]
            refine ih (i + 1) σ2 _ _ (by omega) (by omega) ?_ (ho.tr hq.2)
            rw [List.take_add_one, hsg, List.map_append]
            have hq1 := hq.1
            rw [hsi] at hq1
            first
              | (rw [if_pos (by omega)]; rw [wd_ap_enc hri.1 (by unfold okc; omega) (by omega)] at hq1; exact hq1)
              | (rw [if_neg (by omega)]; exact hq1)
        · skip
          refine go_iconst dX6_makeSigns_36 ?_
          refine go_goto (tgt := 41) dX6_makeSigns_37 (by decide) ?_
          refine go_ist5 dX6_makeSigns_41 (Nat.le_of_ble_eq_true rfl) rfl ?_
          refine go_aload_n dX6_makeSigns_43 rfl ?_
          refine go_iload dX6_makeSigns_44 rfl ?_
          refine go_if_eq (tgt := 59) dX6_makeSigns_46 (by decide) (by unfold inR; omega) (fun b46 => ?_) (fun b46 => ?_)
          · skip
            refine go_iload dX6_makeSigns_59 rfl ?_
            refine go_cvV1 (M2 := mX1_add) dX6_makeSigns_61 ml_X6_67 mv_X1_add (by assumption) rfl rfl (Nat.le_of_ble_eq_true rfl) (by decide) (ev_X1_add hr (by rw [hsi]; first | (rw [wd_ap_enc hri.1 (by unfold okc; omega) (by omega)]; exact enc_inR (okl_app.mpr ⟨hri.1, fun c hc => by simp at hc; rw [hc]; unfold okc; omega⟩) (by simp; omega)) | exact enc_inR hri.1 (by omega)) (by simp [mt_sg_len]; omega)) (fun σ2 hq => ?_)
            refine go_inc3 dX6_makeSigns_64 (Nat.le_of_ble_eq_true rfl) rfl ?_
            refine go_goto (tgt := 6) dX6_makeSigns_67 (by decide) ?_
            rw [show (i : Int) + 1 = ((i + 1 : Nat) : Int) by omega]
            refine ih (i + 1) σ2 _ _ (by omega) (by omega) ?_ (ho.tr hq.2)
            rw [List.take_add_one, hsg, List.map_append]
            have hq1 := hq.1
            rw [hsi] at hq1
            first
              | (rw [if_pos (by omega)]; rw [wd_ap_enc hri.1 (by unfold okc; omega) (by omega)] at hq1; exact hq1)
              | (rw [if_neg (by omega)]; exact hq1)
          · skip
            refine go_iload dX6_makeSigns_49 rfl ?_
            refine go_bipush dX6_makeSigns_51 rfl ?_
            refine go_csP2 (M2 := mX9_append) dX6_makeSigns_53 ml_X6_61 ms_X9_append (Nat.le_of_ble_eq_true rfl) (by decide) (ev_X9_append) ?_
            refine go_goto (tgt := 61) dX6_makeSigns_56 (by decide) ?_
            refine go_cvV1 (M2 := mX1_add) dX6_makeSigns_61 ml_X6_67 mv_X1_add (by assumption) rfl rfl (Nat.le_of_ble_eq_true rfl) (by decide) (ev_X1_add hr (by rw [hsi]; first | (rw [wd_ap_enc hri.1 (by unfold okc; omega) (by omega)]; exact enc_inR (okl_app.mpr ⟨hri.1, fun c hc => by simp at hc; rw [hc]; unfold okc; omega⟩) (by simp; omega)) | exact enc_inR hri.1 (by omega)) (by simp [mt_sg_len]; omega)) (fun σ2 hq => ?_)
            refine go_inc3 dX6_makeSigns_64 (Nat.le_of_ble_eq_true rfl) rfl ?_
            refine go_goto (tgt := 6) dX6_makeSigns_67 (by decide) ?_
            rw [show (i : Int) + 1 = ((i + 1 : Nat) : Int) by omega]
            refine ih (i + 1) σ2 _ _ (by omega) (by omega) ?_ (ho.tr hq.2)
            rw [List.take_add_one, hsg, List.map_append]
            have hq1 := hq.1
            rw [hsi] at hq1
            first
              | (rw [if_pos (by omega)]; rw [wd_ap_enc hri.1 (by unfold okc; omega) (by omega)] at hq1; exact hq1)
              | (rw [if_neg (by omega)]; exact hq1)
  refine am_ev (by decide) [some (.ref 22), some (.int (iZ ((mk : Int)))), some (.ref k3), none, none, none] rfl (Nat.le_of_ble_eq_true rfl) ?_
  refine go_aload_n dX6_makeSigns_0 rfl ?_
  refine go_cvV0 (M2 := mX1_clear) dX6_makeSigns_1 ml_X6_55 mv_X1_clear (by assumption) rfl rfl (Nat.le_of_ble_eq_true rfl) (by decide) (ev_X1_clear r) (fun σ1 hq => ?_)
  refine go_iconst dX6_makeSigns_4 ?_
  refine go_ist3 dX6_makeSigns_5 (Nat.le_of_ble_eq_true rfl) rfl ?_
  exact loop (R.length + 1) 0 σ1 none none (by omega) (by omega) (by simpa using hq.1) hq.2
