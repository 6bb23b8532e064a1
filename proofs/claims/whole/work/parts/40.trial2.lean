/-! ===== Trials: tryRow, run, value ===== -/
theorem mt_spell_len {S : List (List Int)} (hS : okw S) : ∀ rs : List Int, (mt_spell S rs).length ≤ 4 * rs.length
  | [] => Nat.le_refl _
  | r :: rs => by
    have h1 := (okw_get hS r.toNat).2
    have h2 := mt_spell_len hS rs
    have e : mt_spell S (r :: rs) = S.getD r.toNat [] ++ mt_spell S rs := by unfold mt_spell; rw [List.flatMap_cons]
    rw [e, List.length_append, List.length_cons]
    omega
theorem mt_dec_end (S : List (List Int)) : ∀ (f : Nat) (t : List Int) (p : Int), p ≤ (mt_dec S f t p).2 ∧ (mt_dec S f t p).2 ≤ p + t.length
  | 0, t, p => ⟨Int.le_refl _, by show p ≤ p + t.length; omega⟩
  | f + 1, t, p => by
    unfold mt_dec
    split
    · exact ⟨Int.le_refl _, by show p ≤ p + t.length; omega⟩
    · split
      · exact ⟨Int.le_refl _, by show p ≤ p + t.length; omega⟩
      · rename_i h1 h2
        have hfit := mt_long_fit S t h2
        have ih := mt_dec_end S f (t.drop (S.getD (mt_long S t).toNat []).length) (p + (S.getD (mt_long S t).toNat []).length)
        rw [List.length_drop] at ih
        exact ⟨by omega, by omega⟩
def tr_f (σ : am_St) : Int × Int × Int × Int := (σ.1 115 4, σ.1 115 5, σ.1 115 6, σ.1 115 7)
theorem ev_X8_tryRow {σ : am_St} {L R : List (List Int)} {mk : Nat} {row : List Int} (h : rls σ L R mk) (hr : hold σ 116 5 row) (hrow : ∀ r ∈ row, 0 ≤ r ∧ r < R.length) (hb : trB σ) : am_Ev SH mX8_tryRow 4 [.ref 115, .ref 22] σ (am_rV (fun σ2 => tr_f σ2 = tr_add (tr_f σ) (tr_one (mt_sg R mk) row) ∧ σ2.2.1 115 3 = σ.2.1 115 3 ∧ trB σ2 ∧ am_off TRL σ σ2)) := by
  obtain ⟨-, ⟨y2, k2⟩, y3, k3⟩ := hb
  have ht := h.2.2.2.2
  have h8 := ht.2.1
  have hok := okw_sg ht.2.2.2.2 mk
  have h5 := hr.2.2.2.2.1
  have hsl := mt_spell_len hok.1 row
  have hgl : (mt_sg R mk).length = R.length := mt_sg_len R mk
  generalize hW : mt_spell (mt_sg R mk) row = W at hsl
  generalize hD : mt_dec (mt_sg R mk) W.length W 0 = Dc
  have hend := mt_dec_end (mt_sg R mk) W.length W 0
  rw [hD] at hend
  have hone : tr_one (mt_sg R mk) row = if Dc.2 < W.length then (0, 0, 1, (W.length : Int)) else if Dc.1 = row then (1, 0, 0, (W.length : Int)) else (0, 1, 0, (W.length : Int)) := by
    unfold tr_one; rw [hW]; dsimp only; rw [hD]
  rw [hone]
  refine am_ev (by decide) [some (.ref 115), some (.ref 22), none] rfl (Nat.le_of_ble_eq_true rfl) ?_
  refine go_aload_n dX8_tryRow_0 rfl ?_
  refine go_aload_n dX8_tryRow_1 rfl ?_
  refine go_getr fl_X8_14 dX8_tryRow_2 sh_115 rfl ?_
  refine go_aload_n dX8_tryRow_5 rfl ?_
  refine go_getr fl_X8_20 dX8_tryRow_6 sh_115 rfl ?_
  refine go_cvV2 (M2 := mX6_spell) dX8_tryRow_9 ml_X8_66 mv_X6_spell sh_22 rfl rfl (Nat.le_of_ble_eq_true rfl) (by decide) (ev_X6_spell h hr k2 hrow (by rw [hW]; omega) (by decide) (by decide)) (fun σ1 hq1 => ?_)
  rw [hW] at hq1
  have f1 : ∀ j, σ1.1 115 j = σ.1 115 j := (hq1.2 115 (by decide)).1
  refine go_aload_n dX8_tryRow_12 rfl ?_
  refine go_dup dX8_tryRow_13 rfl ?_
  refine go_geti fl_X8_40 dX8_tryRow_14 sh_115 rfl ?_
  rw [f1]
  refine go_aload_n dX8_tryRow_17 rfl ?_
  refine go_getr fl_X8_20 dX8_tryRow_18 sh_115 rfl ?_
  refine go_cvP0 (M2 := mX1_size) dX8_tryRow_21 ml_X8_70 mv_X1_size k2.1 rfl rfl (Nat.le_of_ble_eq_true rfl) (by decide) (ev_X1_size hq1.1) ?_
  refine go_iadd dX8_tryRow_24 ?_
  refine go_puti fl_X8_40 dX8_tryRow_25 sh_115 rfl am_fit_int ?_
  have r1 := (h.off hq1.2 (by decide))
  have hs1 := hold_si (a := 115) (j := 7) (v := σ.1 115 7 + (W.length : Int)) hq1.1 (by decide) (by decide)
  have hg1 := hold_si (a := 115) (j := 7) (v := σ.1 115 7 + (W.length : Int)) r1.2.2.1 (by decide) (by decide)
  have hk1 := hold_si (a := 115) (j := 7) (v := σ.1 115 7 + (W.length : Int)) (k3.off hq1.2 (by decide) (by decide)) (by decide) (by decide)
  have hr1 := hold_si (a := 115) (j := 7) (v := σ.1 115 7 + (W.length : Int)) (hr.off hq1.2 (by decide) (by decide)) (by decide) (by decide)
  refine go_aload_n dX8_tryRow_28 rfl ?_
  refine go_getr fl_X8_71 dX8_tryRow_29 sh_22 rfl ?_
  refine go_aload_n dX8_tryRow_32 rfl ?_
  refine go_getr fl_X8_20 dX8_tryRow_33 sh_115 rfl ?_
  refine go_aload_n dX8_tryRow_36 rfl ?_
  refine go_getr fl_X8_23 dX8_tryRow_37 sh_115 rfl ?_
  refine go_csI3 (M2 := mX2_decode) dX8_tryRow_40 ml_X8_74 ms_X2_decode (Nat.le_of_ble_eq_true rfl) (by decide) (ev_X2_decode hg1 hs1 hk1 hok.1 (by omega) (by decide) (by omega) (by decide) (by decide)) (fun x σ2 hq2 => ?_)
  rw [hD] at hq2
  obtain ⟨rfl, hq2, hq3⟩ := hq2
  have f2 : ∀ j, σ2.1 115 j = (am_si σ1 115 7 (σ.1 115 7 + (W.length : Int))).1 115 j := (hq3 115 (by decide)).1
  have d2 : σ2.2.1 115 3 = σ.2.1 115 3 := by rw [(hq3 115 (by decide)).2.1]; exact (hq1.2 115 (by decide)).2.1 3
  have s2 := hs1.off hq3 (by decide) (by decide)
  have r2 := hr1.off hq3 (by decide) (by decide)
  have o2 : am_off TRL σ σ2 := ((hq1.2.wk (by decide)).tr (am_off_si (by decide))).tr (hq3.wk (by decide))
  refine go_ist2 dX8_tryRow_43 (Nat.le_of_ble_eq_true rfl) rfl ?_
  refine go_iload_n dX8_tryRow_44 rfl ?_
  refine go_aload_n dX8_tryRow_45 rfl ?_
  refine go_getr fl_X8_20 dX8_tryRow_46 sh_115 rfl ?_
  refine go_cvP0 (M2 := mX1_size) dX8_tryRow_49 ml_X8_70 mv_X1_size k2.1 rfl rfl (Nat.le_of_ble_eq_true rfl) (by decide) (ev_X1_size s2) ?_
  refine go_icmp_ge (tgt := 68) dX8_tryRow_52 (by decide) (by unfold inR; omega) (by unfold inR; omega) (fun b52 => ?_) (fun b52 => ?_)
  · skip
    refine go_aload_n dX8_tryRow_68 rfl ?_
    refine go_getr fl_X8_23 dX8_tryRow_69 sh_115 rfl ?_
    refine go_aload_n dX8_tryRow_72 rfl ?_
    refine go_getr fl_X8_14 dX8_tryRow_73 sh_115 rfl ?_
    refine go_cvP1 (M2 := mX1_isSame) dX8_tryRow_76 ml_X8_80 mv_X1_isSame k3.1 rfl rfl (Nat.le_of_ble_eq_true rfl) (by decide) (ev_X1_isSame hq2 r2) ?_
    refine go_if_eq (tgt := 95) dX8_tryRow_79 (by decide) (by unfold inR; split <;> omega) (fun b79 => ?_) (fun b79 => ?_)
    · skip
      refine go_aload_n dX8_tryRow_95 rfl ?_
      refine go_dup dX8_tryRow_96 rfl ?_
      refine go_geti fl_X8_34 dX8_tryRow_97 sh_115 rfl ?_
      refine go_iconst dX8_tryRow_100 ?_
      refine go_iadd dX8_tryRow_101 ?_
      refine go_puti fl_X8_34 dX8_tryRow_102 sh_115 rfl am_fit_int ?_
      refine go_retV dX8_tryRow_105 rfl ?_
      refine ⟨?_, d2, ⟨⟨_, hold_si r2 (by decide) (by decide)⟩, ⟨_, hold_si s2 (by decide) (by decide)⟩, _, hold_si hq2 (by decide) (by decide)⟩, o2.tr (am_off_si (by decide))⟩
      first
        | (rw [if_pos (by omega)]; simp [tr_f, tr_add, am_si, f2, f1])
        | (rw [if_neg (by omega)]; by_cases z : Dc.1 = row
           · rw [if_pos z] at b79 ⊢; first | omega | simp [tr_f, tr_add, am_si, f2, f1]
           · rw [if_neg z] at b79 ⊢; first | omega | simp [tr_f, tr_add, am_si, f2, f1])
    · skip
      refine go_aload_n dX8_tryRow_82 rfl ?_
      refine go_dup dX8_tryRow_83 rfl ?_
      refine go_geti fl_X8_30 dX8_tryRow_84 sh_115 rfl ?_
      refine go_iconst dX8_tryRow_87 ?_
      refine go_iadd dX8_tryRow_88 ?_
      refine go_puti fl_X8_30 dX8_tryRow_89 sh_115 rfl am_fit_int ?_
      refine go_goto (tgt := 105) dX8_tryRow_92 (by decide) ?_
      refine go_retV dX8_tryRow_105 rfl ?_
      refine ⟨?_, d2, ⟨⟨_, hold_si r2 (by decide) (by decide)⟩, ⟨_, hold_si s2 (by decide) (by decide)⟩, _, hold_si hq2 (by decide) (by decide)⟩, o2.tr (am_off_si (by decide))⟩
      first
        | (rw [if_pos (by omega)]; simp [tr_f, tr_add, am_si, f2, f1])
        | (rw [if_neg (by omega)]; by_cases z : Dc.1 = row
           · rw [if_pos z] at b79 ⊢; first | omega | simp [tr_f, tr_add, am_si, f2, f1]
           · rw [if_neg z] at b79 ⊢; first | omega | simp [tr_f, tr_add, am_si, f2, f1])
  · skip
    refine go_aload_n dX8_tryRow_55 rfl ?_
    refine go_dup dX8_tryRow_56 rfl ?_
    refine go_geti fl_X8_37 dX8_tryRow_57 sh_115 rfl ?_
    refine go_iconst dX8_tryRow_60 ?_
    refine go_iadd dX8_tryRow_61 ?_
    refine go_puti fl_X8_37 dX8_tryRow_62 sh_115 rfl am_fit_int ?_
    refine go_goto (tgt := 105) dX8_tryRow_65 (by decide) ?_
    refine go_retV dX8_tryRow_105 rfl ?_
    refine ⟨?_, d2, ⟨⟨_, hold_si r2 (by decide) (by decide)⟩, ⟨_, hold_si s2 (by decide) (by decide)⟩, _, hold_si hq2 (by decide) (by decide)⟩, o2.tr (am_off_si (by decide))⟩
    first
      | (rw [if_pos (by omega)]; simp [tr_f, tr_add, am_si, f2, f1])
      | (rw [if_neg (by omega)]; by_cases z : Dc.1 = row
         · rw [if_pos z] at b79 ⊢; first | omega | simp [tr_f, tr_add, am_si, f2, f1]
         · rw [if_neg z] at b79 ⊢; first | omega | simp [tr_f, tr_add, am_si, f2, f1])
theorem ev_X8_run {σ : am_St} {L R : List (List Int)} {mk : Nat} {times : Nat} {seed : Int} (h : rls σ L R mk) (hR : 0 < R.length) (hb : trB σ) (ht : times ≤ 40) (hs0 : 0 ≤ seed) (hsR : inR seed) : am_Ev SH mX8_run 5 [.ref 115, .ref 22, .int (iZ (times : Int)), .int (iZ seed)] σ (am_rV (fun σ2 => tr_f σ2 = tr_run (mt_sg R mk) times seed (0, 0, 0, 0) ∧ trB σ2 ∧ am_off TRL σ σ2)) := by
  have h8 := h.2.2.2.2.2.1
  have hgl : (mt_sg R mk).length = R.length := mt_sg_len R mk
  generalize hT : tr_run (mt_sg R mk) times seed (0, 0, 0, 0) = T
  have hs2 : seed < 2147483648 := hsR.2
  have loop : ∀ (m : Nat) (i : Nat) (σ1 : am_St), times - i < m → i ≤ times → 0 ≤ σ1.2.1 115 3 → σ1.2.1 115 3 < 2147483648 → tr_run (mt_sg R mk) (times - i) (σ1.2.1 115 3) (tr_f σ1) = T → trB σ1 → am_off TRL σ σ1 → am_Go SH mX8_run 5 (am_rV (fun σ2 => tr_f σ2 = T ∧ trB σ2 ∧ am_off TRL σ σ2)) 29 [some (.ref 115), some (.ref 22), some (.int (iZ (times : Int))), some (.int (iZ seed)), some (.int (iZ i))] [] σ1 := by
    intro m
    induction m with
    | zero => intro i σ1 hm; exact absurd hm (by omega)
    | succ m ih =>
      intro i σ1 hm hi g0 g1 e1 hb1 ho
      have h1 := h.off ho (by decide)
      by_cases hlt : i < times
      · obtain ⟨f, hf⟩ : ∃ f, times - i = f + 1 := ⟨times - i - 1, by omega⟩
        rw [hf] at e1
        unfold tr_run at e1
        rw [hgl] at e1
        have hbd := tr_row_bd (tr_len (σ1.2.1 115 3)) (tr_nx (σ1.2.1 115 3)) R.length (by omega) (tr_nx_bd _).1 (tr_nx_bd _).2
        obtain ⟨⟨y1, k1⟩, ⟨y2, k2⟩, y3, k3⟩ := hb1
        refine go_iload dX8_run_29 rfl ?_
        refine go_iload_n dX8_run_31 rfl ?_
        refine go_icmp_ge (tgt := 54) dX8_run_32 (by decide) (by unfold inR; omega) (by unfold inR; omega) (fun b32 => ?_) (fun b32 => ?_)
        · skip
          exact absurd b32 (by omega)
        · skip
          refine go_aload_n dX8_run_35 rfl ?_
          refine go_aload_n dX8_run_36 rfl ?_
          refine go_cvP0 (M2 := mX6_size) dX8_run_37 ml_X8_43 mv_X6_size sh_22 rfl rfl (Nat.le_of_ble_eq_true rfl) (by decide) (ev_X6_size h1) ?_
          refine go_cvV1 (M2 := mX8_drawRow) dX8_run_40 ml_X8_49 mv_X8_drawRow sh_115 rfl rfl (Nat.le_of_ble_eq_true rfl) (by decide) (ev_X8_drawRow k1 g0 g1 (n := (R.length : Int)) (by omega) (by omega)) (fun σ2 hq2 => ?_)
          obtain ⟨a1, a2, a3, a4⟩ := hq2
          refine go_aload_n dX8_run_43 rfl ?_
          refine go_aload_n dX8_run_44 rfl ?_
          refine go_cvV1 (M2 := mX8_tryRow) dX8_run_45 ml_X8_52 mv_X8_tryRow sh_115 rfl rfl (Nat.le_of_ble_eq_true rfl) (by decide) (ev_X8_tryRow (h1.off a4 (by decide)) a1 hbd.2.1 ⟨⟨_, a1⟩, ⟨_, k2.off a4 (by decide) (by decide)⟩, _, k3.off a4 (by decide) (by decide)⟩) (fun σ3 hq3 => ?_)
          obtain ⟨c1, c2, c3, c4⟩ := hq3
          refine go_inc4 dX8_run_48 (Nat.le_of_ble_eq_true rfl) rfl ?_
          refine go_goto (tgt := 29) dX8_run_51 (by decide) ?_
          rw [show (i : Int) + 1 = ((i + 1 : Nat) : Int) by omega]
          have ef : tr_f σ2 = tr_f σ1 := by unfold tr_f; rw [a3, a3, a3, a3]
          refine ih (i + 1) σ3 (by omega) (by omega) (by rw [c2, a2]; exact hbd.2.2.1) (by rw [c2, a2]; exact hbd.2.2.2) ?_ c3 ((ho.tr (a4.wk (by decide))).tr c4)
          rw [← e1, show times - (i + 1) = f by omega, c1, c2, a2, ef]
      · skip
        refine go_iload dX8_run_29 rfl ?_
        refine go_iload_n dX8_run_31 rfl ?_
        refine go_icmp_ge (tgt := 54) dX8_run_32 (by decide) (by unfold inR; omega) (by unfold inR; omega) (fun b32 => ?_) (fun b32 => ?_)
        · skip
          refine go_retV dX8_run_54 rfl ?_
          rw [show times - i = 0 by omega] at e1
          exact ⟨e1, hb1, ho⟩
        · skip
          exact absurd b32 (by omega)
  obtain ⟨⟨y1, k1⟩, ⟨y2, k2⟩, y3, k3⟩ := hb
  refine am_ev (by decide) [some (.ref 115), some (.ref 22), some (.int (iZ ((times : Int)))), some (.int (iZ (seed))), none] rfl (Nat.le_of_ble_eq_true rfl) ?_
  refine go_aload_n dX8_run_0 rfl ?_
  refine go_iload_n dX8_run_1 rfl ?_
  refine go_i2l dX8_run_2 hsR ?_
  refine go_putl fl_X8_26 dX8_run_3 sh_115 rfl am_fit_long ?_
  refine go_aload_n dX8_run_6 rfl ?_
  refine go_iconst dX8_run_7 ?_
  refine go_puti fl_X8_30 dX8_run_8 sh_115 rfl am_fit_int ?_
  refine go_aload_n dX8_run_11 rfl ?_
  refine go_iconst dX8_run_12 ?_
  refine go_puti fl_X8_34 dX8_run_13 sh_115 rfl am_fit_int ?_
  refine go_aload_n dX8_run_16 rfl ?_
  refine go_iconst dX8_run_17 ?_
  refine go_puti fl_X8_37 dX8_run_18 sh_115 rfl am_fit_int ?_
  refine go_aload_n dX8_run_21 rfl ?_
  refine go_iconst dX8_run_22 ?_
  refine go_puti fl_X8_40 dX8_run_23 sh_115 rfl am_fit_int ?_
  refine go_iconst dX8_run_26 ?_
  refine go_ist4 dX8_run_27 (Nat.le_of_ble_eq_true rfl) rfl ?_
  refine loop 41 0 _ (by omega) (by omega) ?_ ?_ ?_ ?_ ?_
  · simp [am_si, am_sl]; exact hs0
  · simp [am_si, am_sl]; exact hs2
  · rw [← hT]; simp [am_si, am_sl, tr_f]
  · exact ⟨⟨_, hold_si (hold_si (hold_si (hold_si (hold_sl k1 (by decide) (by decide)) (by decide) (by decide)) (by decide) (by decide)) (by decide) (by decide)) (by decide) (by decide)⟩, ⟨_, hold_si (hold_si (hold_si (hold_si (hold_sl k2 (by decide) (by decide)) (by decide) (by decide)) (by decide) (by decide)) (by decide) (by decide)) (by decide) (by decide)⟩, _, hold_si (hold_si (hold_si (hold_si (hold_sl k3 (by decide) (by decide)) (by decide) (by decide)) (by decide) (by decide)) (by decide) (by decide)) (by decide) (by decide)⟩
  · exact ((((am_off_sl (by decide)).tr (am_off_si (by decide))).tr (am_off_si (by decide))).tr (am_off_si (by decide))).tr (am_off_si (by decide))
def tr_pick (q : Int × Int × Int × Int) (what : Int) : Int := if what = 0 then q.1 else if what = 1 then q.2.1 else if what = 2 then q.2.2.1 else q.2.2.2
theorem ev_X8_value {σ : am_St} {what : Int} (h0 : 0 ≤ what) (h3 : what ≤ 3) : am_Ev SH mX8_value 0 [.ref 115, .int (iZ what)] σ (am_rI (fun x σ2 => x = tr_pick (tr_f σ) what ∧ σ2 = σ)) := by
  refine am_ev (by decide) [some (.ref 115), some (.int (iZ (what)))] rfl (Nat.le_of_ble_eq_true rfl) ?_
  refine go_iload_n dX8_value_0 rfl ?_
  rcases (show what = 0 ∨ what = 1 ∨ what = 2 ∨ what = 3 by omega) with rfl | rfl | rfl | rfl
  · refine go_tswIn (tgt := 28) (off := 27) dX8_value_1 (by unfold inR; omega) (by omega) (by omega) (by rfl) (by decide) ?_
    refine go_aload_n dX8_value_28 rfl ?_
    refine go_geti fl_X8_30 dX8_value_29 sh_115 rfl ?_
    refine go_retI dX8_value_32 rfl ?_
    exact ⟨rfl, rfl⟩
  · refine go_tswIn (tgt := 33) (off := 32) dX8_value_1 (by unfold inR; omega) (by omega) (by omega) (by rfl) (by decide) ?_
    refine go_aload_n dX8_value_33 rfl ?_
    refine go_geti fl_X8_34 dX8_value_34 sh_115 rfl ?_
    refine go_retI dX8_value_37 rfl ?_
    exact ⟨rfl, rfl⟩
  · refine go_tswIn (tgt := 38) (off := 37) dX8_value_1 (by unfold inR; omega) (by omega) (by omega) (by rfl) (by decide) ?_
    refine go_aload_n dX8_value_38 rfl ?_
    refine go_geti fl_X8_37 dX8_value_39 sh_115 rfl ?_
    refine go_retI dX8_value_42 rfl ?_
    exact ⟨rfl, rfl⟩
  · refine go_tswOut (tgt := 43) dX8_value_1 (by unfold inR; omega) (by omega) (by decide) ?_
    refine go_aload_n dX8_value_43 rfl ?_
    refine go_geti fl_X8_40 dX8_value_44 sh_115 rfl ?_
    refine go_retI dX8_value_47 rfl ?_
    exact ⟨rfl, rfl⟩
