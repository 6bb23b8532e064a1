/-! ===== Reader: read, readWhole ===== -/
def rd_0 : rd_S := ([], [], [], [])
theorem rd_0_ok : rd_ok rd_0 := ⟨rfl, by decide, fun _ h => by simp [rd_0] at h, fun _ h => by simp [rd_0] at h, fun _ h => by simp [rd_0] at h, by decide, fun _ h => by simp [rd_0] at h, by decide, fun h => absurd rfl h⟩
/-- what the cells 36 to 39 hold, whatever has been read before -/
def rdl (σ : am_St) : Prop := (∃ ys, hold σ 36 8 ys) ∧ ∃ ys, hold σ 38 8 ys
theorem ev_X4_read {σ : am_St} {k n : Nat} {xs : List Int} (h : rdl σ) (g : hold σ k n xs) (d : k ∉ [35, 36, 37, 38, 39] ∧ k + 1 ∉ [35, 36, 37, 38, 39]) : am_Ev SH mX4_read 4 [.ref 35, .ref k] σ (am_rI (fun x σ2 => x = (rd_run xs rd_0).1 ∧ rdr σ2 (rd_run xs rd_0).2 ∧ am_off [35, 36, 37, 38, 39] σ σ2)) := by
  obtain ⟨⟨y1, h1⟩, y2, h2⟩ := h
  have hk := g.1
  have gl := g.2.2.2.2.1
  have gn := g.2.2.1
  generalize hT : rd_run xs rd_0 = T
  have loop : ∀ (m : Nat) (i : Nat) (s : rd_S) (σ1 : am_St), xs.length - i < m → i ≤ xs.length → rdr σ1 s → am_off [35, 36, 37, 38, 39] σ σ1 → i + (rd_run (xs.drop i) s).1 = T.1 → (rd_run (xs.drop i) s).2 = T.2 → am_Go SH mX4_read 4 (am_rI (fun x σ2 => x = T.1 ∧ rdr σ2 T.2 ∧ am_off [35, 36, 37, 38, 39] σ σ2)) 26 [some (.ref 35), some (.ref k), some (.int (iZ i))] [] σ1 := by
    intro m
    induction m with
    | zero => intro i s σ1 hm; exact absurd hm (by omega)
    | succ m ih =>
      intro i s σ1 hm hi hs ho e1 e2
      have g' := g.off ho d.1 d.2
      refine go_iload_n dX4_read_26 rfl ?_
      refine go_aload_n dX4_read_27 rfl ?_
      refine go_cvP0 (M2 := mX1_size) dX4_read_28 ml_X4_35 mv_X1_size hk rfl rfl (Nat.le_of_ble_eq_true rfl) (by decide) (ev_X1_size g') ?_
      refine go_icmp_ge (tgt := 54) dX4_read_31 (by decide) (by unfold inR; omega) (by unfold inR; omega) (fun b31 => ?_) (fun b31 => ?_)
      · skip
        refine go_aload_n dX4_read_54 rfl ?_
        refine go_cvP0 (M2 := mX1_size) dX4_read_55 ml_X4_35 mv_X1_size hk rfl rfl (Nat.le_of_ble_eq_true rfl) (by decide) (ev_X1_size g') ?_
        refine go_retI dX4_read_58 rfl ?_
        have hfull : i = xs.length := by omega
        rw [hfull, List.drop_length] at e1 e2
        exact ⟨by rw [← e1]; simp [rd_run], by rw [← e2]; exact hs, ho⟩
      · skip
        refine go_aload_n dX4_read_34 rfl ?_
        refine go_aload_n dX4_read_35 rfl ?_
        refine go_iload_n dX4_read_36 rfl ?_
        refine go_cvP1 (M2 := mX1_at) dX4_read_37 ml_X4_39 mv_X1_at hk rfl rfl (Nat.le_of_ble_eq_true rfl) (by decide) (ev_X1_at g' (by unfold inR; omega)) ?_
        have hlt : i < xs.length := by omega
        have ei : ln_at xs (i : Int) = xs[i] := ln_at_get (List.getElem?_eq_getElem hlt)
        rw [ei]
        rw [List.drop_eq_getElem_cons hlt] at e1 e2
        unfold rd_run at e1 e2
        refine go_cvI1 (M2 := mX4_takes) dX4_read_40 ml_X4_43 mv_X4_takes sh_35 rfl rfl (Nat.le_of_ble_eq_true rfl) (by decide) (ev_X4_takes hs (c := xs[i]) (g.2.2.2.2.2.2 _ (List.getElem_mem hlt))) (fun x σ2 hq => ?_)
        refine go_if_ne (tgt := 48) dX4_read_43 (by decide) (by rcases hq with q | q <;> unfold inR <;> omega) (fun b43 => ?_) (fun b43 => ?_)
        · skip
          refine go_inc2 dX4_read_48 (Nat.le_of_ble_eq_true rfl) rfl ?_
          refine go_goto (tgt := 26) dX4_read_51 (by decide) ?_
          rcases hq with q | ⟨-, s', q2, q3, q4⟩
          · omega
          · rw [q2] at e1 e2
            dsimp only at e1 e2
            rw [show (i : Int) + 1 = ((i + 1 : Nat) : Int) by omega]
            exact ih (i + 1) s' σ2 (by omega) (by omega) q3 (ho.tr q4) (by omega) e2
        · skip
          refine go_iload_n dX4_read_46 rfl ?_
          refine go_retI dX4_read_47 rfl ?_
          rcases hq with ⟨-, q2, rfl⟩ | q
          · rw [q2] at e1 e2
            dsimp only at e1 e2
            exact ⟨by omega, by rw [← e2]; exact hs, ho⟩
          · omega
  refine am_ev (by decide) [some (.ref 35), some (.ref k), none] rfl (Nat.le_of_ble_eq_true rfl) ?_
  refine go_aload_n dX4_read_0 rfl ?_
  refine go_getr fl_X4_14 dX4_read_1 sh_35 rfl ?_
  refine go_cvV0 (M2 := mX1_clear) dX4_read_4 ml_X4_32 mv_X1_clear h1.1 rfl rfl (Nat.le_of_ble_eq_true rfl) (by decide) (ev_X1_clear h1) (fun σ1 hq1 => ?_)
  refine go_aload_n dX4_read_7 rfl ?_
  refine go_getr fl_X4_20 dX4_read_8 sh_35 rfl ?_
  refine go_cvV0 (M2 := mX1_clear) dX4_read_11 ml_X4_32 mv_X1_clear h2.1 rfl rfl (Nat.le_of_ble_eq_true rfl) (by decide) (ev_X1_clear (h2.off hq1.2 (by decide) (by decide))) (fun σ2 hq2 => ?_)
  refine go_aload_n dX4_read_14 rfl ?_
  refine go_iconst dX4_read_15 ?_
  refine go_puti fl_X4_25 dX4_read_16 sh_35 rfl am_fit_int ?_
  refine go_aload_n dX4_read_19 rfl ?_
  refine go_iconst dX4_read_20 ?_
  refine go_puti fl_X4_29 dX4_read_21 sh_35 rfl am_fit_int ?_
  refine go_iconst dX4_read_24 ?_
  refine go_ist2 dX4_read_25 (Nat.le_of_ble_eq_true rfl) rfl ?_
  have a1 := hold_si (a := 35) (j := 3) (v := 1) (hold_si (a := 35) (j := 2) (v := 1) (hq1.1.off hq2.2 (by decide) (by decide)) (by decide) (by decide)) (by decide) (by decide)
  have a2 := hold_si (a := 35) (j := 3) (v := 1) (hold_si (a := 35) (j := 2) (v := 1) hq2.1 (by decide) (by decide)) (by decide) (by decide)
  exact loop (xs.length + 1) 0 rd_0 _ (by omega) (by omega) ⟨a1, a2, by simp [am_si, rd_0, enc, encN], by simp [am_si, rd_0, enc, encN], rd_0_ok⟩ ((((hq1.2.wk (by decide)).tr (hq2.2.wk (by decide))).tr (am_off_si (by decide))).tr (am_off_si (by decide))) (by rw [← hT]; simp) (by rw [← hT]; simp)
theorem rd_run_le : ∀ (xs : List Int) (s : rd_S), (rd_run xs s).1 ≤ xs.length
  | [], s => Nat.le_refl _
  | c :: t, s => by
    unfold rd_run
    split
    · exact Nat.zero_le _
    · rename_i s' _
      have := rd_run_le t s'
      simp only [List.length_cons]
      omega
/-- the table that a page is; none: it is no table -/
def rd_tab (xs : List Int) : Option (List (List Int) × List (List Int)) := if (rd_run xs rd_0).1 < xs.length ∨ (rd_run xs rd_0).2.2.2.2 = [] then none else some ((rd_run xs rd_0).2.1 ++ [(rd_run xs rd_0).2.2.2.1], (rd_run xs rd_0).2.2.1 ++ [(rd_run xs rd_0).2.2.2.2])
theorem rd_tab_ok {xs : List Int} {L R : List (List Int)} (hok : rd_ok (rd_run xs rd_0).2) (h : rd_tab xs = some (L, R)) : tabOK L R 0 := by
  unfold rd_tab at h
  split at h
  · cases h
  · rename_i hc
    have h := Option.some.inj h
    obtain ⟨rfl, rfl⟩ : _ = L ∧ _ = R := ⟨congrArg Prod.fst h, congrArg Prod.snd h⟩
    obtain ⟨o1, o2, o3, o4, o5, o6, o7, o8, o9⟩ := hok
    have hne : (rd_run xs rd_0).2.2.2.2 ≠ [] := fun q => hc (Or.inr q)
    exact ⟨by simp [o1], by simp; omega, Nat.two_pow_pos _, okr_snoc o3 o5 (o9 hne) o6, okr_snoc o4 o7 hne o8⟩
theorem ev_X4_readWhole {σ : am_St} {k n : Nat} {xs : List Int} (h : rdl σ) (g : hold σ k n xs) (d : k ∉ [35, 36, 37, 38, 39] ∧ k + 1 ∉ [35, 36, 37, 38, 39]) : am_Ev SH mX4_readWhole 5 [.ref 35, .ref k] σ (am_rI (fun x σ2 => ((x = 0 ∧ rd_tab xs = none) ∨ (x = 1 ∧ ∃ L R, rd_tab xs = some (L, R) ∧ hold σ2 36 8 (L.map enc) ∧ hold σ2 38 8 (R.map enc) ∧ tabOK L R 0)) ∧ rdl σ2 ∧ am_off [35, 36, 37, 38, 39] σ σ2)) := by
  have hk := g.1
  have gl := g.2.2.2.2.1
  have gn := g.2.2.1
  have hle := rd_run_le xs rd_0
  refine am_ev (by decide) [some (.ref 35), some (.ref k)] rfl (Nat.le_of_ble_eq_true rfl) ?_
  refine go_aload_n dX4_readWhole_0 rfl ?_
  refine go_aload_n dX4_readWhole_1 rfl ?_
  refine go_cvI1 (M2 := mX4_read) dX4_readWhole_2 ml_X4_47 mv_X4_read sh_35 rfl rfl (Nat.le_of_ble_eq_true rfl) (by decide) (ev_X4_read h g d) (fun x σ1 hq => ?_)
  obtain ⟨rfl, hr, ho⟩ := hq
  have hr' := hr
  obtain ⟨h1, h2, h3, h4, hok⟩ := hr
  have er := enc_inR hok.2.2.2.2.2.2.1 (by have := hok.2.2.2.2.2.2.2.1; omega)
  have en := enc_nil_iff hok.2.2.2.2.2.2.1
  refine go_aload_n dX4_readWhole_5 rfl ?_
  refine go_cvP0 (M2 := mX1_size) dX4_readWhole_6 ml_X4_35 mv_X1_size hk rfl rfl (Nat.le_of_ble_eq_true rfl) (by decide) (ev_X1_size (g.off ho d.1 d.2)) ?_
  refine go_icmp_lt (tgt := 20) dX4_readWhole_9 (by decide) (by unfold inR; omega) (by unfold inR; omega) (fun b9 => ?_) (fun b9 => ?_)
  · skip
    refine go_iconst dX4_readWhole_20 ?_
    refine go_retZ dX4_readWhole_21 rfl (by omega) ?_
    refine ⟨Or.inl ⟨rfl, ?_⟩, ⟨⟨_, h1⟩, _, h2⟩, ho⟩
    unfold rd_tab
    rw [if_pos]
    first | exact Or.inl (by omega) | exact Or.inr (en.mp b17)
  · skip
    refine go_aload_n dX4_readWhole_12 rfl ?_
    refine go_geti fl_X4_29 dX4_readWhole_13 sh_35 rfl ?_
    rw [h4]
    refine go_iconst dX4_readWhole_16 ?_
    refine go_icmp_ne (tgt := 22) dX4_readWhole_17 (by decide) er (by unfold inR; omega) (fun b17 => ?_) (fun b17 => ?_)
    · skip
      refine go_aload_n dX4_readWhole_22 rfl ?_
      refine go_cvV0 (M2 := mX4_endRule) dX4_readWhole_23 ml_X4_51 mv_X4_endRule sh_35 rfl rfl (Nat.le_of_ble_eq_true rfl) (by decide) (ev_X4_endRule hr') (fun σ2 hq2 => ?_)
      refine go_iconst dX4_readWhole_26 ?_
      refine go_retZ dX4_readWhole_27 rfl (by omega) ?_
      have et : rd_tab xs = some ((rd_run xs rd_0).2.1 ++ [(rd_run xs rd_0).2.2.2.1], (rd_run xs rd_0).2.2.1 ++ [(rd_run xs rd_0).2.2.2.2]) := by
        unfold rd_tab
        rw [if_neg]
        rintro (q | q)
        · omega
        · exact b17 (en.mpr q)
      exact ⟨Or.inr ⟨rfl, _, _, et, hq2.1, hq2.2.1, rd_tab_ok hok et⟩, ⟨⟨_, hq2.1⟩, _, hq2.2.1⟩, ho.tr hq2.2.2.2.2⟩
    · skip
      refine go_iconst dX4_readWhole_20 ?_
      refine go_retZ dX4_readWhole_21 rfl (by omega) ?_
      refine ⟨Or.inl ⟨rfl, ?_⟩, ⟨⟨_, h1⟩, _, h2⟩, ho⟩
      unfold rd_tab
      rw [if_pos]
      first | exact Or.inl (by omega) | exact Or.inr (en.mp b17)
