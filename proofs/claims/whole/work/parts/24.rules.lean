/-! ===== Rules ===== -/
theorem ev_J6_bitCount {σ : am_St} {n : Nat} (hn : n < 256) : am_Ev SH mJ6_bitCount_0f7a4 0 [.int (iZ (n : Int))] σ (am_rI (fun x σ2 => x = mt_bc n ∧ σ2 = σ)) := by
  refine am_evF (by decide +kernel) [some (.int (iZ ((n : Int))))] rfl (Nat.le_of_ble_eq_true rfl) ?_
  refine go_iload_n dJ6_bitCount_0f7a4_0 rfl ?_
  refine go_iload_n dJ6_bitCount_0f7a4_1 rfl ?_
  refine go_iconst dJ6_bitCount_0f7a4_2 ?_
  refine go_iushr dJ6_bitCount_0f7a4_3 ?_
  refine go_ldcw dJ6_bitCount_0f7a4_4 kc_J6_265 ?_
  refine go_iand dJ6_bitCount_0f7a4_7 ?_
  refine go_isub dJ6_bitCount_0f7a4_8 ?_
  refine go_ist0 dJ6_bitCount_0f7a4_9 (Nat.le_of_ble_eq_true rfl) ?_
  refine go_iload_n dJ6_bitCount_0f7a4_10 rfl ?_
  refine go_ldcw dJ6_bitCount_0f7a4_11 kc_J6_266 ?_
  refine go_iand dJ6_bitCount_0f7a4_14 ?_
  refine go_iload_n dJ6_bitCount_0f7a4_15 rfl ?_
  refine go_iconst dJ6_bitCount_0f7a4_16 ?_
  refine go_iushr dJ6_bitCount_0f7a4_17 ?_
  refine go_ldcw dJ6_bitCount_0f7a4_18 kc_J6_266 ?_
  refine go_iand dJ6_bitCount_0f7a4_21 ?_
  refine go_iadd dJ6_bitCount_0f7a4_22 ?_
  refine go_ist0 dJ6_bitCount_0f7a4_23 (Nat.le_of_ble_eq_true rfl) ?_
  refine go_iload_n dJ6_bitCount_0f7a4_24 rfl ?_
  refine go_iload_n dJ6_bitCount_0f7a4_25 rfl ?_
  refine go_iconst dJ6_bitCount_0f7a4_26 ?_
  refine go_iushr dJ6_bitCount_0f7a4_27 ?_
  refine go_iadd dJ6_bitCount_0f7a4_28 ?_
  refine go_ldcw dJ6_bitCount_0f7a4_29 kc_J6_267 ?_
  refine go_iand dJ6_bitCount_0f7a4_32 ?_
  refine go_ist0 dJ6_bitCount_0f7a4_33 (Nat.le_of_ble_eq_true rfl) ?_
  refine go_iload_n dJ6_bitCount_0f7a4_34 rfl ?_
  refine go_iload_n dJ6_bitCount_0f7a4_35 rfl ?_
  refine go_bipush dJ6_bitCount_0f7a4_36 rfl ?_
  refine go_iushr dJ6_bitCount_0f7a4_38 ?_
  refine go_iadd dJ6_bitCount_0f7a4_39 ?_
  refine go_ist0 dJ6_bitCount_0f7a4_40 (Nat.le_of_ble_eq_true rfl) ?_
  refine go_iload_n dJ6_bitCount_0f7a4_41 rfl ?_
  refine go_iload_n dJ6_bitCount_0f7a4_42 rfl ?_
  refine go_bipush dJ6_bitCount_0f7a4_43 rfl ?_
  refine go_iushr dJ6_bitCount_0f7a4_45 ?_
  refine go_iadd dJ6_bitCount_0f7a4_46 ?_
  refine go_ist0 dJ6_bitCount_0f7a4_47 (Nat.le_of_ble_eq_true rfl) ?_
  refine go_iload_n dJ6_bitCount_0f7a4_48 rfl ?_
  refine go_bipush dJ6_bitCount_0f7a4_49 rfl ?_
  refine go_iand dJ6_bitCount_0f7a4_51 ?_
  refine go_retI dJ6_bitCount_0f7a4_52 rfl ?_
  refine ⟨?_, rfl⟩
  exact mt_bc_all ⟨n, hn⟩
theorem ev_X6_makeSigns {σ : am_St} {k3 n3 : Nat} {R : List (List Int)} {ys : List Int} {mk : Nat} (h : hold σ 25 8 (R.map enc)) (r : hold σ k3 n3 ys) (hR : okr R) (hmk : mk < 256) (hlen : R.length ≤ n3) (d : 25 ≠ k3 ∧ 25 ≠ k3 + 1 ∧ 26 ≠ k3) : am_Ev SH mX6_makeSigns 1 [.ref 22, .int (iZ (mk : Int)), .ref k3] σ (am_rV (fun σ2 => hold σ2 k3 n3 ((mt_sg R mk).map enc) ∧ am_off [k3, k3 + 1] σ σ2)) := by
  have hk3 := r.1
  have hk := h.1
  have hl5 := h.2.2.2.2.1
  rw [List.length_map] at hl5
  have loop : ∀ (m : Nat) (i : Nat) (σ1 : am_St) (w4 w5 : Option Value), R.length - i < m → i ≤ R.length → hold σ1 k3 n3 (((mt_sg R mk).take i).map enc) → am_off [k3, k3 + 1] σ σ1 → am_Go SH mX6_makeSigns 1 (am_rV (fun σ2 => hold σ2 k3 n3 ((mt_sg R mk).map enc) ∧ am_off [k3, k3 + 1] σ σ2)) 6 [some (.ref 22), some (.int (iZ (mk : Int))), some (.ref k3), some (.int (iZ i)), w4, w5] [] σ1 := by
    intro m
    induction m with
    | zero => intro i σ1 w4 w5 hm; exact absurd hm (by omega)
    | succ m ih =>
      intro i σ1 w4 w5 hm hi hr ho
      have h' := h.off ho (by simp; omega) (by simp; omega)
      have eb : am_and (am_shr (mk : Int) (i : Int)) 1 = ((mk / 2 ^ i % 2 : Nat) : Int) := mt_bit (by omega) (by omega)
      have hb2 : mk / 2 ^ i % 2 < 2 := Nat.mod_lt _ (by decide)
      refine go_iload_n dX6_makeSigns_6 rfl ?_
      refine go_aload_n dX6_makeSigns_7 rfl ?_
      refine go_getr fl_X6_20 dX6_makeSigns_8 sh_22 rfl ?_
      refine go_cvP0 (M2 := mX1_size) dX6_makeSigns_11 ml_X6_30 mv_X1_size (by assumption) rfl rfl (Nat.le_of_ble_eq_true rfl) (by decide) (ev_X1_size h') ?_
      rw [List.length_map]
      refine go_icmp_ge (tgt := 70) dX6_makeSigns_14 (by decide) (by unfold inR; omega) (by unfold inR; omega) (fun b14 => ?_) (fun b14 => ?_)
      · skip
        refine go_retV dX6_makeSigns_70 rfl ?_
        have hfull : i = R.length := by omega
        refine ⟨?_, ho⟩
        rw [hfull, ← mt_sg_len R mk, List.take_length] at hr
        exact hr
      · skip
        refine go_aload_n dX6_makeSigns_17 rfl ?_
        refine go_getr fl_X6_20 dX6_makeSigns_18 sh_22 rfl ?_
        refine go_iload_n dX6_makeSigns_21 rfl ?_
        refine go_cvP1 (M2 := mX1_at) dX6_makeSigns_22 ml_X6_58 mv_X1_at (by assumption) rfl rfl (Nat.le_of_ble_eq_true rfl) (by decide) (ev_X1_at h' (by unfold inR; omega)) ?_
        rw [ln_at_map (by omega) (by omega), Int.toNat_natCast]
        have hlt : i < R.length := by omega
        have hsi : R.getD i [] = R[i] := by rw [List.getD_eq_getElem?_getD, List.getElem?_eq_getElem hlt]; rfl
        have hri := hR _ (List.getElem_mem hlt)
        have hsg := mt_sg_get mk hlt
        refine go_ist4 dX6_makeSigns_25 (Nat.le_of_ble_eq_true rfl) rfl ?_
        refine go_iload_n dX6_makeSigns_27 rfl ?_
        refine go_iload_n dX6_makeSigns_28 rfl ?_
        refine go_ishr dX6_makeSigns_29 ?_
        refine go_iconst dX6_makeSigns_30 ?_
        refine go_iand dX6_makeSigns_31 ?_
        refine go_iconst dX6_makeSigns_32 ?_
        rw [eb]
        refine go_icmp_ne (tgt := 40) dX6_makeSigns_33 (by decide) (by unfold inR; omega) (by unfold inR; omega) (fun b33 => ?_) (fun b33 => ?_)
        · skip
          refine go_iconst dX6_makeSigns_40 ?_
          refine go_ist5 dX6_makeSigns_41 (Nat.le_of_ble_eq_true rfl) rfl ?_
          refine go_aload_n dX6_makeSigns_43 rfl ?_
          refine go_iload dX6_makeSigns_44 rfl ?_
          refine go_if_eq (tgt := 59) dX6_makeSigns_46 (by decide) (by unfold inR; omega) (fun b46 => ?_) (fun b46 => ?_)
          · skip
            refine go_iload dX6_makeSigns_59 rfl ?_
            refine go_cvV1 (M2 := mX1_add) dX6_makeSigns_61 ml_X6_67 mv_X1_add (by assumption) rfl rfl (Nat.le_of_ble_eq_true rfl) (by decide) (ev_X1_add hr (by rw [hsi]; first | (rw [wd_ap_enc hri.1 (by unfold okc; omega) (by omega)]; exact enc_inR (okl_app.mpr ⟨hri.1, fun c hc => by simp at hc; rw [hc]; unfold okc; omega⟩) (by simp; omega)) | exact enc_inR hri.1 (by omega)) (by simp [mt_sg_len]; omega)) (fun σ2 hq => ?_)
            refine go_inc3 dX6_makeSigns_64 (Nat.le_of_ble_eq_true rfl) rfl ?_
            refine go_goto (tgt := 6) dX6_makeSigns_67 (by decide) ?_
            rw [show (i : Int) + 1 = ((i + 1 : Nat) : Int) by omega]
            refine ih (i + 1) σ2 _ _ (by omega) (by omega) ?_ (ho.tr hq.2)
            rw [List.take_add_one, hsg, List.map_append]
            have hq1 := hq.1
            rw [hsi] at hq1
            first
              | (rw [if_pos (by omega)]; rw [wd_ap_enc hri.1 (by unfold okc; omega) (by omega)] at hq1; exact hq1)
              | (rw [if_neg (by omega)]; exact hq1)
          · skip
            refine go_iload dX6_makeSigns_49 rfl ?_
            refine go_bipush dX6_makeSigns_51 rfl ?_
            refine go_csP2 (M2 := mX9_append) dX6_makeSigns_53 ml_X6_61 ms_X9_append (Nat.le_of_ble_eq_true rfl) (by decide) (ev_X9_append) ?_
            refine go_goto (tgt := 61) dX6_makeSigns_56 (by decide) ?_
            refine go_cvV1 (M2 := mX1_add) dX6_makeSigns_61 ml_X6_67 mv_X1_add (by assumption) rfl rfl (Nat.le_of_ble_eq_true rfl) (by decide) (ev_X1_add hr (by rw [hsi]; first | (rw [wd_ap_enc hri.1 (by unfold okc; omega) (by omega)]; exact enc_inR (okl_app.mpr ⟨hri.1, fun c hc => by simp at hc; rw [hc]; unfold okc; omega⟩) (by simp; omega)) | exact enc_inR hri.1 (by omega)) (by simp [mt_sg_len]; omega)) (fun σ2 hq => ?_)
            refine go_inc3 dX6_makeSigns_64 (Nat.le_of_ble_eq_true rfl) rfl ?_
            refine go_goto (tgt := 6) dX6_makeSigns_67 (by decide) ?_
            rw [show (i : Int) + 1 = ((i + 1 : Nat) : Int) by omega]
            refine ih (i + 1) σ2 _ _ (by omega) (by omega) ?_ (ho.tr hq.2)
            rw [List.take_add_one, hsg, List.map_append]
            have hq1 := hq.1
            rw [hsi] at hq1
            first
              | (rw [if_pos (by omega)]; rw [wd_ap_enc hri.1 (by unfold okc; omega) (by omega)] at hq1; exact hq1)
              | (rw [if_neg (by omega)]; exact hq1)
        · skip
          refine go_iconst dX6_makeSigns_36 ?_
          refine go_goto (tgt := 41) dX6_makeSigns_37 (by decide) ?_
          refine go_ist5 dX6_makeSigns_41 (Nat.le_of_ble_eq_true rfl) rfl ?_
          refine go_aload_n dX6_makeSigns_43 rfl ?_
          refine go_iload dX6_makeSigns_44 rfl ?_
          refine go_if_eq (tgt := 59) dX6_makeSigns_46 (by decide) (by unfold inR; omega) (fun b46 => ?_) (fun b46 => ?_)
          · skip
            refine go_iload dX6_makeSigns_59 rfl ?_
            refine go_cvV1 (M2 := mX1_add) dX6_makeSigns_61 ml_X6_67 mv_X1_add (by assumption) rfl rfl (Nat.le_of_ble_eq_true rfl) (by decide) (ev_X1_add hr (by rw [hsi]; first | (rw [wd_ap_enc hri.1 (by unfold okc; omega) (by omega)]; exact enc_inR (okl_app.mpr ⟨hri.1, fun c hc => by simp at hc; rw [hc]; unfold okc; omega⟩) (by simp; omega)) | exact enc_inR hri.1 (by omega)) (by simp [mt_sg_len]; omega)) (fun σ2 hq => ?_)
            refine go_inc3 dX6_makeSigns_64 (Nat.le_of_ble_eq_true rfl) rfl ?_
            refine go_goto (tgt := 6) dX6_makeSigns_67 (by decide) ?_
            rw [show (i : Int) + 1 = ((i + 1 : Nat) : Int) by omega]
            refine ih (i + 1) σ2 _ _ (by omega) (by omega) ?_ (ho.tr hq.2)
            rw [List.take_add_one, hsg, List.map_append]
            have hq1 := hq.1
            rw [hsi] at hq1
            first
              | (rw [if_pos (by omega)]; rw [wd_ap_enc hri.1 (by unfold okc; omega) (by omega)] at hq1; exact hq1)
              | (rw [if_neg (by omega)]; exact hq1)
          · skip
            refine go_iload dX6_makeSigns_49 rfl ?_
            refine go_bipush dX6_makeSigns_51 rfl ?_
            refine go_csP2 (M2 := mX9_append) dX6_makeSigns_53 ml_X6_61 ms_X9_append (Nat.le_of_ble_eq_true rfl) (by decide) (ev_X9_append) ?_
            refine go_goto (tgt := 61) dX6_makeSigns_56 (by decide) ?_
            refine go_cvV1 (M2 := mX1_add) dX6_makeSigns_61 ml_X6_67 mv_X1_add (by assumption) rfl rfl (Nat.le_of_ble_eq_true rfl) (by decide) (ev_X1_add hr (by rw [hsi]; first | (rw [wd_ap_enc hri.1 (by unfold okc; omega) (by omega)]; exact enc_inR (okl_app.mpr ⟨hri.1, fun c hc => by simp at hc; rw [hc]; unfold okc; omega⟩) (by simp; omega)) | exact enc_inR hri.1 (by omega)) (by simp [mt_sg_len]; omega)) (fun σ2 hq => ?_)
            refine go_inc3 dX6_makeSigns_64 (Nat.le_of_ble_eq_true rfl) rfl ?_
            refine go_goto (tgt := 6) dX6_makeSigns_67 (by decide) ?_
            rw [show (i : Int) + 1 = ((i + 1 : Nat) : Int) by omega]
            refine ih (i + 1) σ2 _ _ (by omega) (by omega) ?_ (ho.tr hq.2)
            rw [List.take_add_one, hsg, List.map_append]
            have hq1 := hq.1
            rw [hsi] at hq1
            first
              | (rw [if_pos (by omega)]; rw [wd_ap_enc hri.1 (by unfold okc; omega) (by omega)] at hq1; exact hq1)
              | (rw [if_neg (by omega)]; exact hq1)
  refine am_ev (by decide) [some (.ref 22), some (.int (iZ ((mk : Int)))), some (.ref k3), none, none, none] rfl (Nat.le_of_ble_eq_true rfl) ?_
  refine go_aload_n dX6_makeSigns_0 rfl ?_
  refine go_cvV0 (M2 := mX1_clear) dX6_makeSigns_1 ml_X6_55 mv_X1_clear (by assumption) rfl rfl (Nat.le_of_ble_eq_true rfl) (by decide) (ev_X1_clear r) (fun σ1 hq => ?_)
  refine go_iconst dX6_makeSigns_4 ?_
  refine go_ist3 dX6_makeSigns_5 (Nat.le_of_ble_eq_true rfl) rfl ?_
  exact loop (R.length + 1) 0 σ1 none none (by omega) (by omega) (by simpa using hq.1) hq.2
def tabOK (L R : List (List Int)) (mk : Nat) : Prop := L.length = R.length ∧ R.length ≤ 8 ∧ mk < 2 ^ R.length ∧ okr L ∧ okr R
/-- the class's Rules (the cell 22) hold the table -/
def rls (σ : am_St) (L R : List (List Int)) (mk : Nat) : Prop := hold σ 23 8 (L.map enc) ∧ hold σ 25 8 (R.map enc) ∧ hold σ 27 8 ((mt_sg R mk).map enc) ∧ σ.1 22 3 = (mk : Int) ∧ tabOK L R mk
theorem rls.off {σ σ' : am_St} {L R : List (List Int)} {mk : Nat} {ks : List Nat} (h : rls σ L R mk) (ho : am_off ks σ σ') (hk : ∀ p ∈ [22, 23, 24, 25, 26, 27, 28], p ∉ ks) : rls σ' L R mk :=
  ⟨h.1.off ho (hk _ (by decide)) (hk _ (by decide)), h.2.1.off ho (hk _ (by decide)) (hk _ (by decide)), h.2.2.1.off ho (hk _ (by decide)) (hk _ (by decide)), ((ho 22 (hk _ (by decide))).1 3).trans h.2.2.2.1, h.2.2.2.2⟩
theorem tabOK.mk {L R : List (List Int)} {mk : Nat} (h : tabOK L R mk) : mk < 256 := by
  have : 2 ^ R.length ≤ 2 ^ 8 := Nat.pow_le_pow_right (by decide) h.2.1
  have := h.2.2.1
  omega
theorem ev_X6_size {σ : am_St} {L R : List (List Int)} {mk : Nat} (h : rls σ L R mk) : am_Ev SH mX6_size 1 [.ref 22] σ (am_rI (fun x σ2 => x = R.length ∧ σ2 = σ)) := by
  refine am_ev (by decide) [some (.ref 22)] rfl (Nat.le_of_ble_eq_true rfl) ?_
  refine go_aload_n dX6_size_0 rfl ?_
  refine go_getr fl_X6_14 dX6_size_1 sh_22 rfl ?_
  refine go_cvP0 (M2 := mX1_size) dX6_size_4 ml_X6_30 mv_X1_size h.1.1 rfl rfl (Nat.le_of_ble_eq_true rfl) (by decide) (ev_X1_size h.1) ?_
  refine go_retI dX6_size_7 rfl ?_
  exact ⟨by rw [List.length_map]; have := h.2.2.2.2.1; omega, rfl⟩
theorem ev_X6_has {σ : am_St} {L R : List (List Int)} {mk : Nat} {r : Int} (h : rls σ L R mk) (hr : inR r) : am_Ev SH mX6_has 1 [.ref 22, .int (iZ r)] σ (am_rI (fun x σ2 => x = (if 0 ≤ r ∧ r < R.length then 1 else 0) ∧ σ2 = σ)) := by
  have hL := h.2.2.2.2.1
  have h8 := h.2.2.2.2.2.1
  refine am_ev (by decide) [some (.ref 22), some (.int (iZ (r)))] rfl (Nat.le_of_ble_eq_true rfl) ?_
  refine go_iload_n dX6_has_0 rfl ?_
  refine go_if_lt (tgt := 19) dX6_has_1 (by decide) hr (fun b1 => ?_) (fun b1 => ?_)
  · skip
    refine go_iconst dX6_has_19 ?_
    refine go_retZ dX6_has_20 rfl (by omega) ?_
    refine ⟨?_, rfl⟩
    split <;> omega
  · skip
    refine go_iload_n dX6_has_4 rfl ?_
    refine go_aload_n dX6_has_5 rfl ?_
    refine go_getr fl_X6_14 dX6_has_6 sh_22 rfl ?_
    refine go_cvP0 (M2 := mX1_size) dX6_has_9 ml_X6_30 mv_X1_size h.1.1 rfl rfl (Nat.le_of_ble_eq_true rfl) (by decide) (ev_X1_size h.1) ?_
    rw [List.length_map]
    refine go_icmp_ge (tgt := 19) dX6_has_12 (by decide) hr (by unfold inR; omega) (fun b12 => ?_) (fun b12 => ?_)
    · skip
      refine go_iconst dX6_has_19 ?_
      refine go_retZ dX6_has_20 rfl (by omega) ?_
      refine ⟨?_, rfl⟩
      split <;> omega
    · skip
      refine go_iconst dX6_has_15 ?_
      refine go_goto (tgt := 20) dX6_has_16 (by decide) ?_
      refine go_retZ dX6_has_20 rfl (by omega) ?_
      refine ⟨?_, rfl⟩
      split <;> omega
theorem ev_X6_isMarked {σ : am_St} {L R : List (List Int)} {mk : Nat} {r : Int} (h : rls σ L R mk) (hr : inR r) : am_Ev SH mX6_isMarked 2 [.ref 22, .int (iZ r)] σ (am_rI (fun x σ2 => x = (if 0 ≤ r ∧ r < R.length then ((mk / 2 ^ r.toNat % 2 : Nat) : Int) else 0) ∧ σ2 = σ)) := by
  have h8 := h.2.2.2.2.2.1
  have hm := h.2.2.2.2.mk
  have hb2 : mk / 2 ^ r.toNat % 2 < 2 := Nat.mod_lt _ (by decide)
  refine am_ev (by decide) [some (.ref 22), some (.int (iZ (r)))] rfl (Nat.le_of_ble_eq_true rfl) ?_
  refine go_aload_n dX6_isMarked_0 rfl ?_
  refine go_iload_n dX6_isMarked_1 rfl ?_
  refine go_cvP1 (M2 := mX6_has) dX6_isMarked_2 ml_X6_34 mv_X6_has sh_22 rfl rfl (Nat.le_of_ble_eq_true rfl) (by decide) (ev_X6_has h hr) ?_
  obtain ⟨E, hE⟩ : ∃ E : Int, E = (if 0 ≤ r ∧ r < (R.length : Int) then 1 else 0) := ⟨_, rfl⟩
  rw [← hE]
  refine go_if_eq (tgt := 24) dX6_isMarked_5 (by decide) (by rw [hE]; unfold inR; split <;> omega) (fun b5 => ?_) (fun b5 => ?_)
  · skip
    refine go_iconst dX6_isMarked_24 ?_
    refine go_retZ dX6_isMarked_25 rfl (by omega) ?_
    refine ⟨?_, rfl⟩
    first
      | omega
      | (rw [if_pos hc]; omega)
      | (rw [if_neg (fun q => by rw [if_pos q] at hE; omega)])
  · skip
    have hc : 0 ≤ r ∧ r < (R.length : Int) := by
      apply Classical.byContradiction
      intro q
      rw [if_neg q] at hE
      omega
    have eb : am_and (am_shr (mk : Int) r) 1 = ((mk / 2 ^ r.toNat % 2 : Nat) : Int) := by have := mt_bit (mk := mk) (i := r.toNat) hm (by omega); rwa [Int.toNat_of_nonneg hc.1] at this
    refine go_aload_n dX6_isMarked_8 rfl ?_
    refine go_geti fl_X6_26 dX6_isMarked_9 sh_22 rfl ?_
    rw [h.2.2.2.1]
    refine go_iload_n dX6_isMarked_12 rfl ?_
    refine go_ishr dX6_isMarked_13 ?_
    refine go_iconst dX6_isMarked_14 ?_
    refine go_iand dX6_isMarked_15 ?_
    refine go_iconst dX6_isMarked_16 ?_
    rw [eb]
    refine go_icmp_ne (tgt := 24) dX6_isMarked_17 (by decide) (by unfold inR; omega) (by unfold inR; omega) (fun b17 => ?_) (fun b17 => ?_)
    · skip
      refine go_iconst dX6_isMarked_24 ?_
      refine go_retZ dX6_isMarked_25 rfl (by omega) ?_
      refine ⟨?_, rfl⟩
      first
        | omega
        | (rw [if_pos hc]; omega)
        | (rw [if_neg (fun q => by rw [if_pos q] at hE; omega)])
    · skip
      refine go_iconst dX6_isMarked_20 ?_
      rw [if_pos hc]
      refine go_goto (tgt := 25) dX6_isMarked_21 (by decide) ?_
      refine go_retZ dX6_isMarked_25 rfl (by omega) ?_
      refine ⟨?_, rfl⟩
      first
        | omega
        | (rw [if_pos hc]; omega)
        | (rw [if_neg (fun q => by rw [if_pos q] at hE; omega)])
theorem ev_X6_markedRules {σ : am_St} {L R : List (List Int)} {mk : Nat} (h : rls σ L R mk) : am_Ev SH mX6_markedRules 1 [.ref 22] σ (am_rI (fun x σ2 => x = mt_bc mk ∧ σ2 = σ)) := by
  have hm := h.2.2.2.2.mk
  refine am_ev (by decide) [some (.ref 22)] rfl (Nat.le_of_ble_eq_true rfl) ?_
  refine go_aload_n dX6_markedRules_0 rfl ?_
  refine go_geti fl_X6_26 dX6_markedRules_1 sh_22 rfl ?_
  rw [h.2.2.2.1]
  refine go_csP1 (M2 := mJ6_bitCount_0f7a4) dX6_markedRules_4 ml_X6_38 ms_J6_bitCount_0f7a4 (Nat.le_of_ble_eq_true rfl) (by decide) (ev_J6_bitCount hm) ?_
  refine go_retI dX6_markedRules_7 rfl ?_
  exact ⟨rfl, rfl⟩
theorem hold_si {σ : am_St} {k n a j : Nat} {v : Int} {xs : List Int} (h : hold σ k n xs) (ha : a ≠ k) (ha2 : a ≠ k + 1) : hold (am_si σ a j v) k n xs := h.off (ks := [a]) (am_off_si (by simp)) (by simp; omega) (by simp; omega)
theorem hold_sl {σ : am_St} {k n a j : Nat} {v : Int} {xs : List Int} (h : hold σ k n xs) (ha : a ≠ k) (ha2 : a ≠ k + 1) : hold (am_sl σ a j v) k n xs := h.off (ks := [a]) (am_off_sl (by simp)) (by simp; omega) (by simp; omega)
theorem hold_sa {σ : am_St} {k n a : Nat} {i v : Int} {xs : List Int} (h : hold σ k n xs) (ha : a ≠ k) (ha2 : a ≠ k + 1) : hold (am_sa σ a i v) k n xs := h.off (ks := [a]) (am_off_sa (by simp)) (by simp; omega) (by simp; omega)
/-- a new table from the reader's lines (the cells 36 and 38) -/
theorem ev_X6_replace {σ : am_St} {L R L2 R2 : List (List Int)} {mk : Nat} (h : rls σ L R mk) (g1 : hold σ 36 8 (L2.map enc)) (g2 : hold σ 38 8 (R2.map enc)) (ht : tabOK L2 R2 0) : am_Ev SH mX6_replace 2 [.ref 22, .ref 36, .ref 38] σ (am_rV (fun σ2 => rls σ2 L2 R2 0 ∧ am_off [22, 23, 24, 25, 26, 27, 28] σ σ2)) := by
  have h8 := ht.2.1
  have hL := ht.1
  refine am_ev (by decide) [some (.ref 22), some (.ref 36), some (.ref 38)] rfl (Nat.le_of_ble_eq_true rfl) ?_
  refine go_aload_n dX6_replace_0 rfl ?_
  refine go_getr fl_X6_14 dX6_replace_1 sh_22 rfl ?_
  refine go_aload_n dX6_replace_4 rfl ?_
  refine go_cvV1 (M2 := mX1_copy) dX6_replace_5 ml_X6_44 mv_X1_copy h.1.1 rfl rfl (Nat.le_of_ble_eq_true rfl) (by decide) (ev_X1_copy h.1 g1 (by simp; omega) (by decide) (by decide) (by decide)) (fun σ1 hq1 => ?_)
  refine go_aload_n dX6_replace_8 rfl ?_
  refine go_getr fl_X6_20 dX6_replace_9 sh_22 rfl ?_
  refine go_aload_n dX6_replace_12 rfl ?_
  refine go_cvV1 (M2 := mX1_copy) dX6_replace_13 ml_X6_44 mv_X1_copy h.2.1.1 rfl rfl (Nat.le_of_ble_eq_true rfl) (by decide) (ev_X1_copy (h.2.1.off hq1.2 (by decide) (by decide)) (g2.off hq1.2 (by decide) (by decide)) (by simp; omega) (by decide) (by decide) (by decide)) (fun σ2 hq2 => ?_)
  refine go_aload_n dX6_replace_16 rfl ?_
  refine go_iconst dX6_replace_17 ?_
  refine go_puti fl_X6_26 dX6_replace_18 sh_22 rfl am_fit_int ?_
  refine go_aload_n dX6_replace_21 rfl ?_
  refine go_aload_n dX6_replace_22 rfl ?_
  refine go_geti fl_X6_26 dX6_replace_23 sh_22 rfl ?_
  rw [show (am_si σ2 22 3 0).1 22 3 = ((0 : Nat) : Int) by simp [am_si]]
  refine go_aload_n dX6_replace_26 rfl ?_
  refine go_getr fl_X6_23 dX6_replace_27 sh_22 rfl ?_
  refine go_cvV2 (M2 := mX6_makeSigns) dX6_replace_30 ml_X6_48 mv_X6_makeSigns sh_22 rfl rfl (Nat.le_of_ble_eq_true rfl) (by decide) (ev_X6_makeSigns (mk := 0) (hold_si hq2.1 (by decide) (by decide)) (hold_si ((h.2.2.1.off hq1.2 (by decide) (by decide)).off hq2.2 (by decide) (by decide)) (by decide) (by decide)) ht.2.2.2.2 (by decide) (by omega) (by decide)) (fun σ3 hq3 => ?_)
  refine go_retV dX6_replace_33 rfl ?_
  have o1 := hold_si (a := 22) (j := 3) (v := 0) (hq1.1.off hq2.2 (by decide) (by decide)) (by decide) (by decide)
  have o2 := hold_si (a := 22) (j := 3) (v := 0) hq2.1 (by decide) (by decide)
  refine ⟨⟨o1.off hq3.2 (by decide) (by decide), o2.off hq3.2 (by decide) (by decide), hq3.1, ?_, ht⟩, ?_⟩
  · rw [(hq3.2 22 (by decide)).1]; simp [am_si]
  · exact (((hq1.2.wk (by decide)).tr (hq2.2.wk (by decide))).tr (am_off_si (by decide))).tr (hq3.2.wk (by decide))
theorem ev_X6_turnMark {σ : am_St} {L R : List (List Int)} {mk r : Nat} (h : rls σ L R mk) (hr : r < R.length) : am_Ev SH mX6_turnMark 2 [.ref 22, .int (iZ (r : Int))] σ (am_rV (fun σ2 => rls σ2 L R (mk ^^^ 2 ^ r) ∧ am_off [22, 27, 28] σ σ2)) := by
  have ht := h.2.2.2.2
  have hm := ht.mk
  have h8 := ht.2.1
  have hp : 2 ^ r < 2 ^ R.length := Nat.pow_lt_pow_right (by decide) hr
  have hp8 : 2 ^ R.length ≤ 2 ^ 8 := Nat.pow_le_pow_right (by decide) h8
  have hx : mk ^^^ 2 ^ r < 2 ^ R.length := Nat.xor_lt_two_pow ht.2.2.1 hp
  refine am_ev (by decide) [some (.ref 22), some (.int (iZ ((r : Int))))] rfl (Nat.le_of_ble_eq_true rfl) ?_
  refine go_aload_n dX6_turnMark_0 rfl ?_
  refine go_iload_n dX6_turnMark_1 rfl ?_
  refine go_cvP1 (M2 := mX6_has) dX6_turnMark_2 ml_X6_34 mv_X6_has sh_22 rfl rfl (Nat.le_of_ble_eq_true rfl) (by decide) (ev_X6_has h (by unfold inR; omega)) ?_
  rw [if_pos (by omega)]
  refine go_if_eq (tgt := 32) dX6_turnMark_5 (by decide) (by unfold inR; omega) (fun b5 => ?_) (fun b5 => ?_)
  · skip
    exact absurd b5 (by omega)
  · skip
    refine go_aload_n dX6_turnMark_8 rfl ?_
    refine go_dup dX6_turnMark_9 rfl ?_
    refine go_geti fl_X6_26 dX6_turnMark_10 sh_22 rfl ?_
    refine go_iconst dX6_turnMark_13 ?_
    refine go_iload_n dX6_turnMark_14 rfl ?_
    refine go_ishl dX6_turnMark_15 ?_
    rw [h.2.2.2.1]
    refine go_ixor dX6_turnMark_16 ?_
    rw [show (1 : Int) = ((1 : Nat) : Int) from rfl, am_shlN (by omega) (by omega), Nat.one_mul, am_xorN (by omega) (by omega)]
    refine go_puti fl_X6_26 dX6_turnMark_17 sh_22 rfl am_fit_int ?_
    refine go_aload_n dX6_turnMark_20 rfl ?_
    refine go_aload_n dX6_turnMark_21 rfl ?_
    refine go_geti fl_X6_26 dX6_turnMark_22 sh_22 rfl ?_
    rw [show ∀ v, (am_si σ 22 3 v).1 22 3 = v by intro v; simp [am_si]]
    refine go_aload_n dX6_turnMark_25 rfl ?_
    refine go_getr fl_X6_23 dX6_turnMark_26 sh_22 rfl ?_
    refine go_cvV2 (M2 := mX6_makeSigns) dX6_turnMark_29 ml_X6_48 mv_X6_makeSigns sh_22 rfl rfl (Nat.le_of_ble_eq_true rfl) (by decide) (ev_X6_makeSigns (mk := mk ^^^ 2 ^ r) (hold_si h.2.1 (by decide) (by decide)) (hold_si h.2.2.1 (by decide) (by decide)) ht.2.2.2.2 (by omega) (by omega) (by decide)) (fun σ3 hq3 => ?_)
    refine go_retV dX6_turnMark_32 rfl ?_
    refine ⟨⟨(hold_si h.1 (by decide) (by decide)).off hq3.2 (by decide) (by decide), (hold_si h.2.1 (by decide) (by decide)).off hq3.2 (by decide) (by decide), hq3.1, ?_, ht.1, h8, hx, ht.2.2.2⟩, (am_off_si (by decide)).tr (hq3.2.wk (by decide))⟩
    rw [(hq3.2 22 (by decide)).1]; simp [am_si]
theorem mt_erase_map {α β : Type} (f : α → β) : ∀ (l : List α) (r : Nat), (l.map f).eraseIdx r = (l.eraseIdx r).map f
  | [], r => rfl
  | a :: l, 0 => rfl
  | a :: l, r + 1 => by show f a :: (l.map f).eraseIdx r = f a :: (l.eraseIdx r).map f; rw [mt_erase_map f l r]
def mt_drop (mk r : Nat) : Nat := mk % 2 ^ r ||| (mk / 2 ^ (r + 1) * 2 ^ r)
theorem mt_drop_lt {mk r n : Nat} (h : mk < 2 ^ n) (hr : r < n) : mt_drop mk r < 2 ^ (n - 1) := by
  unfold mt_drop
  refine Nat.or_lt_two_pow (Nat.lt_of_lt_of_le (Nat.mod_lt _ (Nat.two_pow_pos r)) (Nat.pow_le_pow_right (by decide) (by omega))) ?_
  have h1 : mk / 2 ^ (r + 1) < 2 ^ (n - 1 - r) := by
    rw [Nat.div_lt_iff_lt_mul (Nat.two_pow_pos _), ← Nat.pow_add, show n - 1 - r + (r + 1) = n by omega]
    exact h
  have h2 := Nat.mul_lt_mul_of_pos_right h1 (Nat.two_pow_pos r)
  rwa [← Nat.pow_add, show n - 1 - r + r = n - 1 by omega] at h2
theorem ev_X6_remove {σ : am_St} {L R : List (List Int)} {mk r : Nat} (h : rls σ L R mk) (hr : r < R.length) : am_Ev SH mX6_remove 2 [.ref 22, .int (iZ (r : Int))] σ (am_rV (fun σ2 => rls σ2 (L.eraseIdx r) (R.eraseIdx r) (mt_drop mk r) ∧ am_off [22, 23, 24, 25, 26, 27, 28] σ σ2)) := by
  have ht := h.2.2.2.2
  have hm := ht.mk
  have h8 := ht.2.1
  have hL := ht.1
  have hdl := mt_drop_lt ht.2.2.1 hr
  have eL : (L.map enc).eraseIdx ((r : Int).toNat) = (L.eraseIdx r).map enc := by rw [Int.toNat_natCast, mt_erase_map]
  have eR : (R.map enc).eraseIdx ((r : Int).toNat) = (R.eraseIdx r).map enc := by rw [Int.toNat_natCast, mt_erase_map]
  have tok : tabOK (L.eraseIdx r) (R.eraseIdx r) (mt_drop mk r) := by
    refine ⟨?_, ?_, ?_, fun l hl => ht.2.2.2.1 l (List.mem_of_mem_eraseIdx hl), fun l hl => ht.2.2.2.2 l (List.mem_of_mem_eraseIdx hl)⟩
    · rw [List.length_eraseIdx, List.length_eraseIdx, hL]
    · have := List.length_eraseIdx_le R r; omega
    · rw [List.length_eraseIdx, if_pos hr]; exact hdl
  have p1 : 2 ^ r ≤ 2 ^ 8 := Nat.pow_le_pow_right (by decide) (by omega)
  have p0 : 0 < 2 ^ r := Nat.two_pow_pos r
  have m1 : am_and (mk : Int) (am_shl 1 (r : Int) - 1) = ((mk % 2 ^ r : Nat) : Int) := by
    rw [show (1 : Int) = ((1 : Nat) : Int) from rfl, am_shlN (by omega) (by omega), Nat.one_mul, show ((2 ^ r : Nat) : Int) - ((1 : Nat) : Int) = ((2 ^ r - 1 : Nat) : Int) by omega, am_andN (by omega), Nat.and_two_pow_sub_one_eq_mod]
  have q1 : mk / 2 ^ (r + 1) * 2 ^ r ≤ mk := by
    have : mk / 2 ^ (r + 1) * 2 ^ (r + 1) ≤ mk := Nat.div_mul_le_self _ _
    generalize mk / 2 ^ (r + 1) = D at this ⊢
    rw [Nat.pow_succ, ← Nat.mul_assoc] at this
    omega
  have m2 : am_shl (am_shr (mk : Int) ((r : Int) + 1)) (r : Int) = ((mk / 2 ^ (r + 1) * 2 ^ r : Nat) : Int) := by
    rw [show (r : Int) + 1 = ((r + 1 : Nat) : Int) by omega, am_shrN (by omega) (by omega), am_shlN (by omega) (by omega)]
  have m3 : am_or (am_and (mk : Int) (am_shl 1 (r : Int) - 1)) (am_shl (am_shr (mk : Int) ((r : Int) + 1)) (r : Int)) = ((mt_drop mk r : Nat) : Int) := by
    rw [m1, m2, am_orN (Nat.lt_of_le_of_lt (Nat.mod_le _ _) (by omega)) (by omega)]
    rfl
  have hd8 : mt_drop mk r < 256 := tok.mk
  refine am_ev (by decide) [some (.ref 22), some (.int (iZ ((r : Int)))), none] rfl (Nat.le_of_ble_eq_true rfl) ?_
  refine go_aload_n dX6_remove_0 rfl ?_
  refine go_iload_n dX6_remove_1 rfl ?_
  refine go_cvP1 (M2 := mX6_has) dX6_remove_2 ml_X6_34 mv_X6_has sh_22 rfl rfl (Nat.le_of_ble_eq_true rfl) (by decide) (ev_X6_has h (by unfold inR; omega)) ?_
  rw [if_pos (by omega)]
  refine go_if_eq (tgt := 63) dX6_remove_5 (by decide) (by unfold inR; omega) (fun b5 => ?_) (fun b5 => ?_)
  · skip
    exact absurd b5 (by omega)
  · skip
    refine go_aload_n dX6_remove_8 rfl ?_
    refine go_getr fl_X6_14 dX6_remove_9 sh_22 rfl ?_
    refine go_iload_n dX6_remove_12 rfl ?_
    refine go_cvV1 (M2 := mX1_remove) dX6_remove_13 ml_X6_52 mv_X1_remove h.1.1 rfl rfl (Nat.le_of_ble_eq_true rfl) (by decide) (ev_X1_remove h.1 (by omega) (by simp; omega)) (fun σ1 hq1 => ?_)
    refine go_aload_n dX6_remove_16 rfl ?_
    refine go_getr fl_X6_20 dX6_remove_17 sh_22 rfl ?_
    refine go_iload_n dX6_remove_20 rfl ?_
    refine go_cvV1 (M2 := mX1_remove) dX6_remove_21 ml_X6_52 mv_X1_remove h.2.1.1 rfl rfl (Nat.le_of_ble_eq_true rfl) (by decide) (ev_X1_remove (h.2.1.off hq1.2 (by decide) (by decide)) (by omega) (by simp; omega)) (fun σ2 hq2 => ?_)
    have hmk : σ2.1 22 3 = (mk : Int) := by rw [(hq2.2 22 (by decide)).1, (hq1.2 22 (by decide)).1]; exact h.2.2.2.1
    rw [eL] at hq1
    rw [eR] at hq2
    refine go_aload_n dX6_remove_24 rfl ?_
    refine go_geti fl_X6_26 dX6_remove_25 sh_22 rfl ?_
    rw [hmk]
    refine go_iconst dX6_remove_28 ?_
    refine go_iload_n dX6_remove_29 rfl ?_
    refine go_ishl dX6_remove_30 ?_
    refine go_iconst dX6_remove_31 ?_
    refine go_isub dX6_remove_32 ?_
    refine go_iand dX6_remove_33 ?_
    refine go_ist2 dX6_remove_34 (Nat.le_of_ble_eq_true rfl) rfl ?_
    refine go_aload_n dX6_remove_35 rfl ?_
    refine go_iload_n dX6_remove_36 rfl ?_
    refine go_aload_n dX6_remove_37 rfl ?_
    refine go_geti fl_X6_26 dX6_remove_38 sh_22 rfl ?_
    rw [hmk]
    refine go_iload_n dX6_remove_41 rfl ?_
    refine go_iconst dX6_remove_42 ?_
    refine go_iadd dX6_remove_43 ?_
    refine go_ishr dX6_remove_44 ?_
    refine go_iload_n dX6_remove_45 rfl ?_
    refine go_ishl dX6_remove_46 ?_
    refine go_ior dX6_remove_47 ?_
    rw [m3]
    refine go_puti fl_X6_26 dX6_remove_48 sh_22 rfl am_fit_int ?_
    refine go_aload_n dX6_remove_51 rfl ?_
    refine go_aload_n dX6_remove_52 rfl ?_
    refine go_geti fl_X6_26 dX6_remove_53 sh_22 rfl ?_
    rw [show ∀ v, (am_si σ2 22 3 v).1 22 3 = v by intro v; simp [am_si]]
    refine go_aload_n dX6_remove_56 rfl ?_
    refine go_getr fl_X6_23 dX6_remove_57 sh_22 rfl ?_
    refine go_cvV2 (M2 := mX6_makeSigns) dX6_remove_60 ml_X6_48 mv_X6_makeSigns sh_22 rfl rfl (Nat.le_of_ble_eq_true rfl) (by decide) (ev_X6_makeSigns (mk := mt_drop mk r) (hold_si hq2.1 (by decide) (by decide)) (hold_si ((h.2.2.1.off hq1.2 (by decide) (by decide)).off hq2.2 (by decide) (by decide)) (by decide) (by decide)) tok.2.2.2.2 hd8 tok.2.1 (by decide)) (fun σ3 hq3 => ?_)
    refine go_retV dX6_remove_63 rfl ?_
    refine ⟨⟨(hold_si (hq1.1.off hq2.2 (by decide) (by decide)) (by decide) (by decide)).off hq3.2 (by decide) (by decide), (hold_si hq2.1 (by decide) (by decide)).off hq3.2 (by decide) (by decide), hq3.1, ?_, tok⟩, ?_⟩
    · rw [(hq3.2 22 (by decide)).1]; simp [am_si]
    · exact (((hq1.2.wk (by decide)).tr (hq2.2.wk (by decide))).tr (am_off_si (by decide))).tr (hq3.2.wk (by decide))
/-- what a row spells -/
def mt_spell (S : List (List Int)) (rs : List Int) : List Int := rs.flatMap (fun r => S.getD r.toNat [])
theorem ev_X6_spell {σ : am_St} {L R : List (List Int)} {mk kr nr ks ns : Nat} {rs ys : List Int} (h : rls σ L R mk) (g : hold σ kr nr rs) (s : hold σ ks ns ys) (hrs : ∀ r ∈ rs, 0 ≤ r ∧ r < R.length) (hcap : (mt_spell (mt_sg R mk) rs).length ≤ ns) (d1 : 27 ≠ ks ∧ 27 ≠ ks + 1 ∧ 28 ≠ ks) (d2 : kr ≠ ks ∧ kr ≠ ks + 1 ∧ kr + 1 ≠ ks) : am_Ev SH mX6_spell 2 [.ref 22, .ref kr, .ref ks] σ (am_rV (fun σ2 => hold σ2 ks ns (mt_spell (mt_sg R mk) rs) ∧ am_off [ks, ks + 1] σ σ2)) := by
  have hkr := g.1
  have hks := s.1
  have gl := g.2.2.2.2.1
  have gn := g.2.2.1
  have hok := (okw_sg h.2.2.2.2.2.2.2.2 mk).1
  have h8 := h.2.2.2.2.2.1
  have loop : ∀ (m : Nat) (i : Nat) (σ1 : am_St), rs.length - i < m → i ≤ rs.length → hold σ1 ks ns (mt_spell (mt_sg R mk) (rs.take i)) → am_off [ks, ks + 1] σ σ1 → am_Go SH mX6_spell 2 (am_rV (fun σ2 => hold σ2 ks ns (mt_spell (mt_sg R mk) rs) ∧ am_off [ks, ks + 1] σ σ2)) 6 [some (.ref 22), some (.ref kr), some (.ref ks), some (.int (iZ i))] [] σ1 := by
    intro m
    induction m with
    | zero => intro i σ1 hm; exact absurd hm (by omega)
    | succ m ih =>
      intro i σ1 hm hi hs ho
      have g' := g.off ho (by simp; omega) (by simp; omega)
      have h' := h.2.2.1.off ho (by simp; omega) (by simp; omega)
      refine go_iload_n dX6_spell_6 rfl ?_
      refine go_aload_n dX6_spell_7 rfl ?_
      refine go_cvP0 (M2 := mX1_size) dX6_spell_8 ml_X6_30 mv_X1_size (by assumption) rfl rfl (Nat.le_of_ble_eq_true rfl) (by decide) (ev_X1_size g') ?_
      refine go_icmp_ge (tgt := 36) dX6_spell_11 (by decide) (by unfold inR; omega) (by unfold inR; omega) (fun b11 => ?_) (fun b11 => ?_)
      · skip
        refine go_retV dX6_spell_36 rfl ?_
        have hfull : i = rs.length := by omega
        rw [hfull, List.take_length] at hs
        exact ⟨hs, ho⟩
      · skip
        refine go_aload_n dX6_spell_14 rfl ?_
        refine go_aload_n dX6_spell_15 rfl ?_
        refine go_getr fl_X6_23 dX6_spell_16 sh_22 rfl ?_
        refine go_aload_n dX6_spell_19 rfl ?_
        refine go_iload_n dX6_spell_20 rfl ?_
        refine go_cvP1 (M2 := mX1_at) dX6_spell_21 ml_X6_58 mv_X1_at (by assumption) rfl rfl (Nat.le_of_ble_eq_true rfl) (by decide) (ev_X1_at g' (by unfold inR; omega)) ?_
        have hlt : i < rs.length := by omega
        have ei : ln_at rs (i : Int) = rs[i] := ln_at_get (List.getElem?_eq_getElem hlt)
        have hri := hrs _ (List.getElem_mem hlt)
        rw [ei]
        refine go_cvP1 (M2 := mX1_at) dX6_spell_24 ml_X6_58 mv_X1_at h.2.2.1.1 rfl rfl (Nat.le_of_ble_eq_true rfl) (by decide) (ev_X1_at h' (by unfold inR; omega)) ?_
        rw [ln_at_map hri.1 (by rw [mt_sg_len]; exact hri.2)]
        have hw := okw_get hok (rs[i]).toNat
        have etk : mt_spell (mt_sg R mk) (rs.take (i + 1)) = mt_spell (mt_sg R mk) (rs.take i) ++ (mt_sg R mk).getD (rs[i]).toNat [] := by unfold mt_spell; rw [List.take_add_one, List.getElem?_eq_getElem hlt, List.flatMap_append]; simp only [Option.toList, List.flatMap_cons, List.flatMap_nil, List.append_nil]
        have hle : (mt_spell (mt_sg R mk) (rs.take (i + 1))).length ≤ ns := by
          refine Nat.le_trans ?_ hcap
          have e2 : mt_spell (mt_sg R mk) rs = mt_spell (mt_sg R mk) (rs.take (i + 1)) ++ mt_spell (mt_sg R mk) (rs.drop (i + 1)) := by unfold mt_spell; rw [← List.flatMap_append, List.take_append_drop]
          rw [e2, List.length_append]
          omega
        rw [etk, List.length_append] at hle
        refine go_cvV1 (M2 := mX1_addWord) dX6_spell_27 ml_X6_70 mv_X1_addWord (by assumption) rfl rfl (Nat.le_of_ble_eq_true rfl) (by decide) (ev_X1_addWord hs (enc_inR hw.1 hw.2) (by rw [wd_sz_enc hw.1 hw.2]; omega)) (fun σ2 hq => ?_)
        refine go_inc3 dX6_spell_30 (Nat.le_of_ble_eq_true rfl) rfl ?_
        refine go_goto (tgt := 6) dX6_spell_33 (by decide) ?_
        rw [show (i : Int) + 1 = ((i + 1 : Nat) : Int) by omega]
        refine ih (i + 1) σ2 (by omega) (by omega) ?_ (ho.tr hq.2)
        have hq1 := hq.1
        rw [wd_sz_enc hw.1 hw.2, Int.toNat_natCast, wd_cs_enc hw.1 hw.2] at hq1
        rw [etk]
        exact hq1
  refine am_ev (by decide) [some (.ref 22), some (.ref kr), some (.ref ks), none] rfl (Nat.le_of_ble_eq_true rfl) ?_
  refine go_aload_n dX6_spell_0 rfl ?_
  refine go_cvV0 (M2 := mX1_clear) dX6_spell_1 ml_X6_55 mv_X1_clear (by assumption) rfl rfl (Nat.le_of_ble_eq_true rfl) (by decide) (ev_X1_clear s) (fun σ1 hq => ?_)
  refine go_iconst dX6_spell_4 ?_
  refine go_ist3 dX6_spell_5 (Nat.le_of_ble_eq_true rfl) rfl ?_
  exact loop (rs.length + 1) 0 σ1 (by omega) (by omega) (by simpa [mt_spell] using hq.1) hq.2
/-- how many words but the r-th begin with w -/
def mt_ob (w : List Int) : List (List Int) → Int → Int → Int
  | [], _, _ => 0
  | s :: S, i, r => (if ¬ i = r ∧ w <+: s then 1 else 0) + mt_ob w S (i + 1) r
theorem mt_ob_bd (w : List Int) : ∀ (S : List (List Int)) (i r : Int), 0 ≤ mt_ob w S i r ∧ mt_ob w S i r ≤ S.length
  | [], i, r => ⟨Int.le_refl _, Int.le_refl _⟩
  | s :: S, i, r => by
    have := mt_ob_bd w S (i + 1) r
    unfold mt_ob
    simp only [List.length_cons]
    split <;> omega
theorem ev_X6_othersBeginning {σ : am_St} {k n : Nat} {S : List (List Int)} {r : Int} (h : hold σ k n (S.map enc)) (hS : okw S) (hS1 : S.length < 1000) (h0 : 0 ≤ r) (h1 : r < S.length) : am_Ev SH mX6_othersBeginning 2 [.ref k, .int (iZ r)] σ (am_rI (fun x σ2 => x = mt_ob (S.getD r.toNat []) S 0 r ∧ σ2 = σ)) := by
  generalize hT : mt_ob (S.getD r.toNat []) S 0 r = T
  have hk := h.1
  have loop : ∀ (m : Nat) (i : Nat) (a : Int), S.length - i < m → i ≤ S.length → 0 ≤ a → a ≤ i → a + mt_ob (S.getD r.toNat []) (S.drop i) i r = T → am_Go SH mX6_othersBeginning 2 (am_rI (fun x σ2 => x = T ∧ σ2 = σ)) 4 [some (.ref k), some (.int (iZ r)), some (.int (iZ a)), some (.int (iZ i))] [] σ := by
    intro m
    induction m with
    | zero => intro i a hm; exact absurd hm (by omega)
    | succ m ih =>
      intro i a hm hi ha0 ha1 he
      by_cases hfull : i = S.length
      · skip
        refine go_iload_n dX6_othersBeginning_4 rfl ?_
        refine go_aload_n dX6_othersBeginning_5 rfl ?_
        refine go_cvP0 (M2 := mX1_size) dX6_othersBeginning_6 ml_X6_30 mv_X1_size (by assumption) rfl rfl (Nat.le_of_ble_eq_true rfl) (by decide) (ev_X1_size h) ?_
        rw [List.length_map]
        refine go_icmp_ge (tgt := 42) dX6_othersBeginning_9 (by decide) (by unfold inR; omega) (by unfold inR; omega) (fun b9 => ?_) (fun b9 => ?_)
        · skip
          refine go_iload_n dX6_othersBeginning_42 rfl ?_
          refine go_retI dX6_othersBeginning_43 rfl ?_
          refine ⟨?_, rfl⟩
          rw [← he, hfull, List.drop_length]; simp [mt_ob]
        · skip
          exact absurd b9 (by omega)
      · have hlt : i < S.length := by omega
        have hsi : S.getD i [] = S[i] := by rw [List.getD_eq_getElem?_getD, List.getElem?_eq_getElem hlt]; rfl
        rw [List.drop_eq_getElem_cons hlt] at he
        unfold mt_ob at he
        rw [← hsi] at he
        have hwi := okw_get hS i
        have hwr := okw_get hS r.toNat
        have hbe := wd_be_enc hwi.1 hwr.1 hwi.2 hwr.2
        refine go_iload_n dX6_othersBeginning_4 rfl ?_
        refine go_aload_n dX6_othersBeginning_5 rfl ?_
        refine go_cvP0 (M2 := mX1_size) dX6_othersBeginning_6 ml_X6_30 mv_X1_size hk rfl rfl (Nat.le_of_ble_eq_true rfl) (by decide) (ev_X1_size h) ?_
        rw [List.length_map]
        refine go_icmp_ge (tgt := 42) dX6_othersBeginning_9 (by decide) (by unfold inR; omega) (by unfold inR; omega) (fun b9 => ?_) (fun b9 => ?_)
        · skip
          exact absurd b9 (by omega)
        · skip
          refine go_iload_n dX6_othersBeginning_12 rfl ?_
          refine go_iload_n dX6_othersBeginning_13 rfl ?_
          refine go_icmp_eq (tgt := 36) dX6_othersBeginning_14 (by decide) (by unfold inR; omega) (by unfold inR; omega) (fun b14 => ?_) (fun b14 => ?_)
          · skip
            rw [if_neg (fun q => q.1 b14)] at he
            refine go_inc3 dX6_othersBeginning_36 (Nat.le_of_ble_eq_true rfl) rfl ?_
            refine go_goto (tgt := 4) dX6_othersBeginning_39 (by decide) ?_
            rw [show (i : Int) + 1 = ((i + 1 : Nat) : Int) by omega]
            first
              | exact ih (i + 1) a (by omega) (by omega) ha0 (by omega) (by rw [← he]; rw [show (i : Int) + 1 = ((i + 1 : Nat) : Int) by omega]; omega)
              | exact ih (i + 1) (a + 1) (by omega) (by omega) (by omega) (by omega) (by rw [← he]; rw [show (i : Int) + 1 = ((i + 1 : Nat) : Int) by omega]; omega)
          · skip
            refine go_aload_n dX6_othersBeginning_17 rfl ?_
            refine go_iload_n dX6_othersBeginning_18 rfl ?_
            refine go_cvP1 (M2 := mX1_at) dX6_othersBeginning_19 ml_X6_58 mv_X1_at hk rfl rfl (Nat.le_of_ble_eq_true rfl) (by decide) (ev_X1_at h (by unfold inR; omega)) ?_
            rw [ln_at_map (by omega) (by omega), Int.toNat_natCast]
            refine go_aload_n dX6_othersBeginning_22 rfl ?_
            refine go_iload_n dX6_othersBeginning_23 rfl ?_
            refine go_cvP1 (M2 := mX1_at) dX6_othersBeginning_24 ml_X6_58 mv_X1_at hk rfl rfl (Nat.le_of_ble_eq_true rfl) (by decide) (ev_X1_at h (by unfold inR; omega)) ?_
            rw [ln_at_map h0 h1]
            refine go_csP2 (M2 := mX9_begins) dX6_othersBeginning_27 ml_X6_73 ms_X9_begins (Nat.le_of_ble_eq_true rfl) (by decide) (ev_X9_begins (enc_inR hwi.1 hwi.2) (enc_inR hwr.1 hwr.2)) ?_
            rw [hbe]
            obtain ⟨E, hE⟩ : ∃ E : Int, E = (if S.getD r.toNat [] <+: S.getD i [] then 1 else 0) := ⟨_, rfl⟩
            rw [← hE]
            refine go_if_eq (tgt := 36) dX6_othersBeginning_30 (by decide) (by rw [hE]; unfold inR; split <;> omega) (fun b30 => ?_) (fun b30 => ?_)
            · skip
              rw [if_neg (fun q => by rw [if_pos q.2] at hE; omega)] at he
              refine go_inc3 dX6_othersBeginning_36 (Nat.le_of_ble_eq_true rfl) rfl ?_
              refine go_goto (tgt := 4) dX6_othersBeginning_39 (by decide) ?_
              rw [show (i : Int) + 1 = ((i + 1 : Nat) : Int) by omega]
              first
                | exact ih (i + 1) a (by omega) (by omega) ha0 (by omega) (by rw [← he]; rw [show (i : Int) + 1 = ((i + 1 : Nat) : Int) by omega]; omega)
                | exact ih (i + 1) (a + 1) (by omega) (by omega) (by omega) (by omega) (by rw [← he]; rw [show (i : Int) + 1 = ((i + 1 : Nat) : Int) by omega]; omega)
            · skip
              have hp : S.getD r.toNat [] <+: S.getD i [] := by
                apply Classical.byContradiction
                intro q
                rw [if_neg q] at hE
                omega
              rw [if_pos ⟨b14, hp⟩] at he
              refine go_inc2 dX6_othersBeginning_33 (Nat.le_of_ble_eq_true rfl) rfl ?_
              refine go_inc3 dX6_othersBeginning_36 (Nat.le_of_ble_eq_true rfl) rfl ?_
              refine go_goto (tgt := 4) dX6_othersBeginning_39 (by decide) ?_
              rw [show (i : Int) + 1 = ((i + 1 : Nat) : Int) by omega]
              first
                | exact ih (i + 1) a (by omega) (by omega) ha0 (by omega) (by rw [← he]; rw [show (i : Int) + 1 = ((i + 1 : Nat) : Int) by omega]; omega)
                | exact ih (i + 1) (a + 1) (by omega) (by omega) (by omega) (by omega) (by rw [← he]; rw [show (i : Int) + 1 = ((i + 1 : Nat) : Int) by omega]; omega)
  refine am_ev (by decide) [some (.ref k), some (.int (iZ (r))), none, none] rfl (Nat.le_of_ble_eq_true rfl) ?_
  refine go_iconst dX6_othersBeginning_0 ?_
  refine go_ist2 dX6_othersBeginning_1 (Nat.le_of_ble_eq_true rfl) rfl ?_
  refine go_iconst dX6_othersBeginning_2 ?_
  refine go_ist3 dX6_othersBeginning_3 (Nat.le_of_ble_eq_true rfl) rfl ?_
  exact loop (S.length + 1) 0 0 (by omega) (by omega) (by omega) (by omega) (by rw [← hT]; simp)
