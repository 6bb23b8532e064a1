/-! ===== the contracts of the constructors ===== -/
theorem ct_X1 (n : Nat) (hn : n * 4 ≤ 536870912) : al_Ct mX1_init 1 1 n [.int (iZ (n : Int))] (.inr (1, df_X1)) [.inr (1, [(4, 0), (0, 0)]), .inl (0, n, none)] := by
  refine al_ct (by decide) dz_X1 rfl (Nat.le_of_ble_eq_true rfl) (fun _ => rfl) rfl ?_
  refine ge_aload_n dX1_init_0 rfl ?_
  refine al_ini co_X1 oi_1 oi_2 dX1_init_1 (Nat.le_of_ble_eq_true rfl) (Nat.le_of_ble_eq_true rfl) ?_
  refine ge_aload_n dX1_init_4 rfl ?_
  refine ge_iconst dX1_init_5 ?_
  refine ge_iload_n dX1_init_6 rfl ?_
  refine al_max ml_X1_9 ms_J9_max_7cf53.1 ms_J9_max_7cf53.2.1 ms_J9_max_7cf53.2.2.1 dX1_init_7 (by omega) (Nat.le_of_ble_eq_true rfl) (Nat.le_of_ble_eq_true rfl) (Nat.zero_le _) (Nat.zero_le _) ?_
  refine al_newi (n := n) (k := 1) (w' := [.inr (1, [(2, 0), (0, 0)]), .inl (0, n, none)]) aw_int dX1_init_10 hn rfl (by decide) (by decide) rfl rfl (Nat.le_refl _) (by rw [Nat.zero_add]; exact Nat.le_refl _) ?_
  rw [Nat.zero_add n]
  refine al_putF (w' := [.inr (1, [(4, 0), (0, 0)]), .inl (0, n, none)]) fl_X1_15 (fun C T N h => by cases h; rfl) rfl dX1_init_12 rfl (by decide) (Nat.le_of_ble_eq_true rfl) (fun _ => ⟨rfl, rfl⟩) rfl ?_
  refine ge_aload_n dX1_init_15 rfl ?_
  refine ge_iconst dX1_init_16 ?_
  refine al_put (f := (0, 0)) (w' := [.inr (1, [(4, 0), (0, 0)]), .inl (0, n, none)]) fl_X1_21 dX1_init_17 rfl (by decide) (by decide) (fun _ => rfl) (fun _ => am_fit_int) rfl ?_
  exact al_ret dX1_init_20 rfl
theorem ct_X5 : al_Ct mX5_init 2 2 27 [] (.inr (4, df_X5)) [.inr (4, [(4, 0), (0, 0)]), .inr (1, [(5, 0), (0, 0)]), .inl (0, 25, none)] := by
  refine al_ct (by decide) dz_X5 rfl (Nat.le_of_ble_eq_true rfl) (fun _ => rfl) rfl ?_
  refine ge_aload_n dX5_init_0 rfl ?_
  refine al_ini co_X5 oi_1 oi_2 dX5_init_1 (Nat.le_of_ble_eq_true rfl) (Nat.le_of_ble_eq_true rfl) ?_
  refine ge_aload_n dX5_init_4 rfl ?_
  refine al_new (k := 1) (w' := [.inr (4, [(2, 0), (0, 0)]), .inr (1, [(2, 0), (0, 0)])]) nw_X5_9 dX5_init_5 rfl (by decide) (by decide) rfl rfl (Nat.le_of_ble_eq_true rfl) (Nat.le_of_ble_eq_true rfl) ?_
  refine ge_dup dX5_init_8 rfl ?_
  refine ge_bipush dX5_init_9 rfl ?_
  refine al_call (M2 := mX1_init) (av := [.int (iZ 25)]) (k := 1) (w := [.inr (4, [(2, 0), (0, 0)])]) (w' := [.inr (4, [(2, 0), (0, 0)]), .inr (1, [(5, 0), (0, 0)]), .inl (0, 25, none)]) dX5_init_11 cl_X5_11 mi_X1 (ct_X1 25 (Nat.le_of_ble_eq_true rfl)) dz_X1 (fun _ => rfl) rfl rfl rfl (by decide) (by decide) rfl (Nat.le_of_ble_eq_true rfl) ⟨(Nat.le_of_ble_eq_true rfl), (Nat.le_of_ble_eq_true rfl)⟩ ⟨(Nat.le_of_ble_eq_true rfl), (Nat.le_of_ble_eq_true rfl)⟩ rfl ?_
  refine al_putF (w' := [.inr (4, [(4, 0), (0, 0)]), .inr (1, [(5, 0), (0, 0)]), .inl (0, 25, none)]) fl_X5_14 (fun C T N h => by cases h; rfl) rfl dX5_init_14 rfl (by decide) (Nat.le_of_ble_eq_true rfl) (fun _ => ⟨rfl, rfl⟩) rfl ?_
  refine ge_aload_n dX5_init_17 rfl ?_
  refine ge_iconst dX5_init_18 ?_
  refine al_put (f := (0, 0)) (w' := [.inr (4, [(4, 0), (0, 0)]), .inr (1, [(5, 0), (0, 0)]), .inl (0, 25, none)]) fl_X5_20 dX5_init_19 rfl (by decide) (by decide) (fun _ => rfl) (fun _ => am_fit_bool (by decide)) rfl ?_
  exact al_ret dX5_init_22 rfl
theorem ct_X6 : al_Ct mX6_init 2 6 30 [] (.inr (5, df_X6)) [.inr (5, [(4, 0), (6, 0), (8, 0), (0, 0)]), .inr (1, [(5, 0), (0, 0)]), .inl (0, 8, none), .inr (1, [(7, 0), (0, 0)]), .inl (0, 8, none), .inr (1, [(9, 0), (0, 0)]), .inl (0, 8, none)] := by
  refine al_ct (by decide) dz_X6 rfl (Nat.le_of_ble_eq_true rfl) (fun _ => rfl) rfl ?_
  refine ge_aload_n dX6_init_0 rfl ?_
  refine al_ini co_X6 oi_1 oi_2 dX6_init_1 (Nat.le_of_ble_eq_true rfl) (Nat.le_of_ble_eq_true rfl) ?_
  refine ge_aload_n dX6_init_4 rfl ?_
  refine al_new (k := 1) (w' := [.inr (5, [(2, 0), (2, 0), (2, 0), (0, 0)]), .inr (1, [(2, 0), (0, 0)])]) nw_X6_9 dX6_init_5 rfl (by decide) (by decide) rfl rfl (Nat.le_of_ble_eq_true rfl) (Nat.le_of_ble_eq_true rfl) ?_
  refine ge_dup dX6_init_8 rfl ?_
  refine ge_bipush dX6_init_9 rfl ?_
  refine al_call (M2 := mX1_init) (av := [.int (iZ 8)]) (k := 1) (w := [.inr (5, [(2, 0), (2, 0), (2, 0), (0, 0)])]) (w' := [.inr (5, [(2, 0), (2, 0), (2, 0), (0, 0)]), .inr (1, [(5, 0), (0, 0)]), .inl (0, 8, none)]) dX6_init_11 cl_X6_11 mi_X1 (ct_X1 8 (Nat.le_of_ble_eq_true rfl)) dz_X1 (fun _ => rfl) rfl rfl rfl (by decide) (by decide) rfl (Nat.le_of_ble_eq_true rfl) ⟨(Nat.le_of_ble_eq_true rfl), (Nat.le_of_ble_eq_true rfl)⟩ ⟨(Nat.le_of_ble_eq_true rfl), (Nat.le_of_ble_eq_true rfl)⟩ rfl ?_
  refine al_putF (w' := [.inr (5, [(4, 0), (2, 0), (2, 0), (0, 0)]), .inr (1, [(5, 0), (0, 0)]), .inl (0, 8, none)]) fl_X6_14 (fun C T N h => by cases h; rfl) rfl dX6_init_14 rfl (by decide) (Nat.le_of_ble_eq_true rfl) (fun _ => ⟨rfl, rfl⟩) rfl ?_
  refine ge_aload_n dX6_init_17 rfl ?_
  refine al_new (k := 3) (w' := [.inr (5, [(4, 0), (2, 0), (2, 0), (0, 0)]), .inr (1, [(5, 0), (0, 0)]), .inl (0, 8, none), .inr (1, [(2, 0), (0, 0)])]) nw_X6_9 dX6_init_18 rfl (by decide) (by decide) rfl rfl (Nat.le_of_ble_eq_true rfl) (Nat.le_of_ble_eq_true rfl) ?_
  refine ge_dup dX6_init_21 rfl ?_
  refine ge_bipush dX6_init_22 rfl ?_
  refine al_call (M2 := mX1_init) (av := [.int (iZ 8)]) (k := 3) (w := [.inr (5, [(4, 0), (2, 0), (2, 0), (0, 0)]), .inr (1, [(5, 0), (0, 0)]), .inl (0, 8, none)]) (w' := [.inr (5, [(4, 0), (2, 0), (2, 0), (0, 0)]), .inr (1, [(5, 0), (0, 0)]), .inl (0, 8, none), .inr (1, [(7, 0), (0, 0)]), .inl (0, 8, none)]) dX6_init_24 cl_X6_11 mi_X1 (ct_X1 8 (Nat.le_of_ble_eq_true rfl)) dz_X1 (fun _ => rfl) rfl rfl rfl (by decide) (by decide) rfl (Nat.le_of_ble_eq_true rfl) ⟨(Nat.le_of_ble_eq_true rfl), (Nat.le_of_ble_eq_true rfl)⟩ ⟨(Nat.le_of_ble_eq_true rfl), (Nat.le_of_ble_eq_true rfl)⟩ rfl ?_
  refine al_putF (w' := [.inr (5, [(4, 0), (6, 0), (2, 0), (0, 0)]), .inr (1, [(5, 0), (0, 0)]), .inl (0, 8, none), .inr (1, [(7, 0), (0, 0)]), .inl (0, 8, none)]) fl_X6_20 (fun C T N h => by cases h; rfl) rfl dX6_init_27 rfl (by decide) (Nat.le_of_ble_eq_true rfl) (fun _ => ⟨rfl, rfl⟩) rfl ?_
  refine ge_aload_n dX6_init_30 rfl ?_
  refine al_new (k := 5) (w' := [.inr (5, [(4, 0), (6, 0), (2, 0), (0, 0)]), .inr (1, [(5, 0), (0, 0)]), .inl (0, 8, none), .inr (1, [(7, 0), (0, 0)]), .inl (0, 8, none), .inr (1, [(2, 0), (0, 0)])]) nw_X6_9 dX6_init_31 rfl (by decide) (by decide) rfl rfl (Nat.le_of_ble_eq_true rfl) (Nat.le_of_ble_eq_true rfl) ?_
  refine ge_dup dX6_init_34 rfl ?_
  refine ge_bipush dX6_init_35 rfl ?_
  refine al_call (M2 := mX1_init) (av := [.int (iZ 8)]) (k := 5) (w := [.inr (5, [(4, 0), (6, 0), (2, 0), (0, 0)]), .inr (1, [(5, 0), (0, 0)]), .inl (0, 8, none), .inr (1, [(7, 0), (0, 0)]), .inl (0, 8, none)]) (w' := [.inr (5, [(4, 0), (6, 0), (2, 0), (0, 0)]), .inr (1, [(5, 0), (0, 0)]), .inl (0, 8, none), .inr (1, [(7, 0), (0, 0)]), .inl (0, 8, none), .inr (1, [(9, 0), (0, 0)]), .inl (0, 8, none)]) dX6_init_37 cl_X6_11 mi_X1 (ct_X1 8 (Nat.le_of_ble_eq_true rfl)) dz_X1 (fun _ => rfl) rfl rfl rfl (by decide) (by decide) rfl (Nat.le_of_ble_eq_true rfl) ⟨(Nat.le_of_ble_eq_true rfl), (Nat.le_of_ble_eq_true rfl)⟩ ⟨(Nat.le_of_ble_eq_true rfl), (Nat.le_of_ble_eq_true rfl)⟩ rfl ?_
  refine al_putF (w' := [.inr (5, [(4, 0), (6, 0), (8, 0), (0, 0)]), .inr (1, [(5, 0), (0, 0)]), .inl (0, 8, none), .inr (1, [(7, 0), (0, 0)]), .inl (0, 8, none), .inr (1, [(9, 0), (0, 0)]), .inl (0, 8, none)]) fl_X6_23 (fun C T N h => by cases h; rfl) rfl dX6_init_40 rfl (by decide) (Nat.le_of_ble_eq_true rfl) (fun _ => ⟨rfl, rfl⟩) rfl ?_
  refine ge_aload_n dX6_init_43 rfl ?_
  refine ge_iconst dX6_init_44 ?_
  refine al_put (f := (0, 0)) (w' := [.inr (5, [(4, 0), (6, 0), (8, 0), (0, 0)]), .inr (1, [(5, 0), (0, 0)]), .inl (0, 8, none), .inr (1, [(7, 0), (0, 0)]), .inl (0, 8, none), .inr (1, [(9, 0), (0, 0)]), .inl (0, 8, none)]) fl_X6_26 dX6_init_45 rfl (by decide) (by decide) (fun _ => rfl) (fun _ => am_fit_int) rfl ?_
  exact al_ret dX6_init_48 rfl
theorem ct_X4 : al_Ct mX4_init 2 4 20 [] (.inr (3, df_X4)) [.inr (3, [(4, 0), (6, 0), (0, 1), (0, 1)]), .inr (1, [(5, 0), (0, 0)]), .inl (0, 8, none), .inr (1, [(7, 0), (0, 0)]), .inl (0, 8, none)] := by
  refine al_ct (by decide) dz_X4 rfl (Nat.le_of_ble_eq_true rfl) (fun _ => rfl) rfl ?_
  refine ge_aload_n dX4_init_0 rfl ?_
  refine al_ini co_X4 oi_1 oi_2 dX4_init_1 (Nat.le_of_ble_eq_true rfl) (Nat.le_of_ble_eq_true rfl) ?_
  refine ge_aload_n dX4_init_4 rfl ?_
  refine al_new (k := 1) (w' := [.inr (3, [(2, 0), (2, 0), (0, 0), (0, 0)]), .inr (1, [(2, 0), (0, 0)])]) nw_X4_9 dX4_init_5 rfl (by decide) (by decide) rfl rfl (Nat.le_of_ble_eq_true rfl) (Nat.le_of_ble_eq_true rfl) ?_
  refine ge_dup dX4_init_8 rfl ?_
  refine ge_bipush dX4_init_9 rfl ?_
  refine al_call (M2 := mX1_init) (av := [.int (iZ 8)]) (k := 1) (w := [.inr (3, [(2, 0), (2, 0), (0, 0), (0, 0)])]) (w' := [.inr (3, [(2, 0), (2, 0), (0, 0), (0, 0)]), .inr (1, [(5, 0), (0, 0)]), .inl (0, 8, none)]) dX4_init_11 cl_X4_11 mi_X1 (ct_X1 8 (Nat.le_of_ble_eq_true rfl)) dz_X1 (fun _ => rfl) rfl rfl rfl (by decide) (by decide) rfl (Nat.le_of_ble_eq_true rfl) ⟨(Nat.le_of_ble_eq_true rfl), (Nat.le_of_ble_eq_true rfl)⟩ ⟨(Nat.le_of_ble_eq_true rfl), (Nat.le_of_ble_eq_true rfl)⟩ rfl ?_
  refine al_putF (w' := [.inr (3, [(4, 0), (2, 0), (0, 0), (0, 0)]), .inr (1, [(5, 0), (0, 0)]), .inl (0, 8, none)]) fl_X4_14 (fun C T N h => by cases h; rfl) rfl dX4_init_14 rfl (by decide) (Nat.le_of_ble_eq_true rfl) (fun _ => ⟨rfl, rfl⟩) rfl ?_
  refine ge_aload_n dX4_init_17 rfl ?_
  refine al_new (k := 3) (w' := [.inr (3, [(4, 0), (2, 0), (0, 0), (0, 0)]), .inr (1, [(5, 0), (0, 0)]), .inl (0, 8, none), .inr (1, [(2, 0), (0, 0)])]) nw_X4_9 dX4_init_18 rfl (by decide) (by decide) rfl rfl (Nat.le_of_ble_eq_true rfl) (Nat.le_of_ble_eq_true rfl) ?_
  refine ge_dup dX4_init_21 rfl ?_
  refine ge_bipush dX4_init_22 rfl ?_
  refine al_call (M2 := mX1_init) (av := [.int (iZ 8)]) (k := 3) (w := [.inr (3, [(4, 0), (2, 0), (0, 0), (0, 0)]), .inr (1, [(5, 0), (0, 0)]), .inl (0, 8, none)]) (w' := [.inr (3, [(4, 0), (2, 0), (0, 0), (0, 0)]), .inr (1, [(5, 0), (0, 0)]), .inl (0, 8, none), .inr (1, [(7, 0), (0, 0)]), .inl (0, 8, none)]) dX4_init_24 cl_X4_11 mi_X1 (ct_X1 8 (Nat.le_of_ble_eq_true rfl)) dz_X1 (fun _ => rfl) rfl rfl rfl (by decide) (by decide) rfl (Nat.le_of_ble_eq_true rfl) ⟨(Nat.le_of_ble_eq_true rfl), (Nat.le_of_ble_eq_true rfl)⟩ ⟨(Nat.le_of_ble_eq_true rfl), (Nat.le_of_ble_eq_true rfl)⟩ rfl ?_
  refine al_putF (w' := [.inr (3, [(4, 0), (6, 0), (0, 0), (0, 0)]), .inr (1, [(5, 0), (0, 0)]), .inl (0, 8, none), .inr (1, [(7, 0), (0, 0)]), .inl (0, 8, none)]) fl_X4_20 (fun C T N h => by cases h; rfl) rfl dX4_init_27 rfl (by decide) (Nat.le_of_ble_eq_true rfl) (fun _ => ⟨rfl, rfl⟩) rfl ?_
  refine ge_aload_n dX4_init_30 rfl ?_
  refine ge_iconst dX4_init_31 ?_
  refine al_put (f := (0, 1)) (w' := [.inr (3, [(4, 0), (6, 0), (0, 1), (0, 0)]), .inr (1, [(5, 0), (0, 0)]), .inl (0, 8, none), .inr (1, [(7, 0), (0, 0)]), .inl (0, 8, none)]) fl_X4_25 dX4_init_32 rfl (by decide) (by decide) (fun _ => rfl) (fun _ => am_fit_int) rfl ?_
  refine ge_aload_n dX4_init_35 rfl ?_
  refine ge_iconst dX4_init_36 ?_
  refine al_put (f := (0, 1)) (w' := [.inr (3, [(4, 0), (6, 0), (0, 1), (0, 1)]), .inr (1, [(5, 0), (0, 0)]), .inl (0, 8, none), .inr (1, [(7, 0), (0, 0)]), .inl (0, 8, none)]) fl_X4_29 dX4_init_37 rfl (by decide) (by decide) (fun _ => rfl) (fun _ => am_fit_int) rfl ?_
  exact al_ret dX4_init_40 rfl
theorem ct_X7 : al_Ct mX7_init 1 2 114 [] (.inr (6, df_X7)) [.inr (6, [(4, 0), (5, 0), (0, 0)]), .inl (0, 57, none), .inl (0, 57, none)] := by
  refine al_ct (by decide) dz_X7 rfl (Nat.le_of_ble_eq_true rfl) (fun _ => rfl) rfl ?_
  refine ge_aload_n dX7_init_0 rfl ?_
  refine al_ini co_X7 oi_1 oi_2 dX7_init_1 (Nat.le_of_ble_eq_true rfl) (Nat.le_of_ble_eq_true rfl) ?_
  refine ge_aload_n dX7_init_4 rfl ?_
  refine ge_bipush dX7_init_5 rfl ?_
  refine al_newi (hw1 := aw_int) (n := 57) (k := 1) (w' := [.inr (6, [(2, 0), (2, 0), (0, 0)]), .inl (0, 57, none)]) dX7_init_7 (Nat.le_of_ble_eq_true rfl) rfl (by decide) (by decide) rfl rfl (Nat.le_of_ble_eq_true rfl) (Nat.le_of_ble_eq_true rfl) ?_
  refine al_putF (w' := [.inr (6, [(4, 0), (2, 0), (0, 0)]), .inl (0, 57, none)]) fl_X7_9 (fun C T N h => by cases h; rfl) rfl dX7_init_9 rfl (by decide) (Nat.le_of_ble_eq_true rfl) (fun _ => ⟨rfl, rfl⟩) rfl ?_
  refine ge_aload_n dX7_init_12 rfl ?_
  refine ge_bipush dX7_init_13 rfl ?_
  refine al_newi (hw1 := aw_int) (n := 57) (k := 2) (w' := [.inr (6, [(4, 0), (2, 0), (0, 0)]), .inl (0, 57, none), .inl (0, 57, none)]) dX7_init_15 (Nat.le_of_ble_eq_true rfl) rfl (by decide) (by decide) rfl rfl (Nat.le_of_ble_eq_true rfl) (Nat.le_of_ble_eq_true rfl) ?_
  refine al_putF (w' := [.inr (6, [(4, 0), (5, 0), (0, 0)]), .inl (0, 57, none), .inl (0, 57, none)]) fl_X7_15 (fun C T N h => by cases h; rfl) rfl dX7_init_17 rfl (by decide) (Nat.le_of_ble_eq_true rfl) (fun _ => ⟨rfl, rfl⟩) rfl ?_
  refine ge_aload_n dX7_init_20 rfl ?_
  refine ge_iconst dX7_init_21 ?_
  refine al_put (f := (0, 0)) (w' := [.inr (6, [(4, 0), (5, 0), (0, 0)]), .inl (0, 57, none), .inl (0, 57, none)]) fl_X7_18 dX7_init_22 rfl (by decide) (by decide) (fun _ => rfl) (fun _ => am_fit_int) rfl ?_
  exact al_ret dX7_init_25 rfl
theorem ct_X8 : al_Ct mX8_init 2 6 123 [] (.inr (7, df_X8)) [.inr (7, [(4, 0), (6, 0), (8, 0), (1, 0), (0, 0), (0, 0), (0, 0), (0, 0)]), .inr (1, [(5, 0), (0, 0)]), .inl (0, 5, none), .inr (1, [(7, 0), (0, 0)]), .inl (0, 56, none), .inr (1, [(9, 0), (0, 0)]), .inl (0, 56, none)] := by
  refine al_ct (by decide) dz_X8 rfl (Nat.le_of_ble_eq_true rfl) (fun _ => rfl) rfl ?_
  refine ge_aload_n dX8_init_0 rfl ?_
  refine al_ini co_X8 oi_1 oi_2 dX8_init_1 (Nat.le_of_ble_eq_true rfl) (Nat.le_of_ble_eq_true rfl) ?_
  refine ge_aload_n dX8_init_4 rfl ?_
  refine al_new (k := 1) (w' := [.inr (7, [(2, 0), (2, 0), (2, 0), (1, 0), (0, 0), (0, 0), (0, 0), (0, 0)]), .inr (1, [(2, 0), (0, 0)])]) nw_X8_9 dX8_init_5 rfl (by decide) (by decide) rfl rfl (Nat.le_of_ble_eq_true rfl) (Nat.le_of_ble_eq_true rfl) ?_
  refine ge_dup dX8_init_8 rfl ?_
  refine ge_iconst dX8_init_9 ?_
  refine al_call (M2 := mX1_init) (av := [.int (iZ 5)]) (k := 1) (w := [.inr (7, [(2, 0), (2, 0), (2, 0), (1, 0), (0, 0), (0, 0), (0, 0), (0, 0)])]) (w' := [.inr (7, [(2, 0), (2, 0), (2, 0), (1, 0), (0, 0), (0, 0), (0, 0), (0, 0)]), .inr (1, [(5, 0), (0, 0)]), .inl (0, 5, none)]) dX8_init_10 cl_X8_11 mi_X1 (ct_X1 5 (Nat.le_of_ble_eq_true rfl)) dz_X1 (fun _ => rfl) rfl rfl rfl (by decide) (by decide) rfl (Nat.le_of_ble_eq_true rfl) ⟨(Nat.le_of_ble_eq_true rfl), (Nat.le_of_ble_eq_true rfl)⟩ ⟨(Nat.le_of_ble_eq_true rfl), (Nat.le_of_ble_eq_true rfl)⟩ rfl ?_
  refine al_putF (w' := [.inr (7, [(4, 0), (2, 0), (2, 0), (1, 0), (0, 0), (0, 0), (0, 0), (0, 0)]), .inr (1, [(5, 0), (0, 0)]), .inl (0, 5, none)]) fl_X8_14 (fun C T N h => by cases h; rfl) rfl dX8_init_13 rfl (by decide) (Nat.le_of_ble_eq_true rfl) (fun _ => ⟨rfl, rfl⟩) rfl ?_
  refine ge_aload_n dX8_init_16 rfl ?_
  refine al_new (k := 3) (w' := [.inr (7, [(4, 0), (2, 0), (2, 0), (1, 0), (0, 0), (0, 0), (0, 0), (0, 0)]), .inr (1, [(5, 0), (0, 0)]), .inl (0, 5, none), .inr (1, [(2, 0), (0, 0)])]) nw_X8_9 dX8_init_17 rfl (by decide) (by decide) rfl rfl (Nat.le_of_ble_eq_true rfl) (Nat.le_of_ble_eq_true rfl) ?_
  refine ge_dup dX8_init_20 rfl ?_
  refine ge_bipush dX8_init_21 rfl ?_
  refine al_call (M2 := mX1_init) (av := [.int (iZ 56)]) (k := 3) (w := [.inr (7, [(4, 0), (2, 0), (2, 0), (1, 0), (0, 0), (0, 0), (0, 0), (0, 0)]), .inr (1, [(5, 0), (0, 0)]), .inl (0, 5, none)]) (w' := [.inr (7, [(4, 0), (2, 0), (2, 0), (1, 0), (0, 0), (0, 0), (0, 0), (0, 0)]), .inr (1, [(5, 0), (0, 0)]), .inl (0, 5, none), .inr (1, [(7, 0), (0, 0)]), .inl (0, 56, none)]) dX8_init_23 cl_X8_11 mi_X1 (ct_X1 56 (Nat.le_of_ble_eq_true rfl)) dz_X1 (fun _ => rfl) rfl rfl rfl (by decide) (by decide) rfl (Nat.le_of_ble_eq_true rfl) ⟨(Nat.le_of_ble_eq_true rfl), (Nat.le_of_ble_eq_true rfl)⟩ ⟨(Nat.le_of_ble_eq_true rfl), (Nat.le_of_ble_eq_true rfl)⟩ rfl ?_
  refine al_putF (w' := [.inr (7, [(4, 0), (6, 0), (2, 0), (1, 0), (0, 0), (0, 0), (0, 0), (0, 0)]), .inr (1, [(5, 0), (0, 0)]), .inl (0, 5, none), .inr (1, [(7, 0), (0, 0)]), .inl (0, 56, none)]) fl_X8_20 (fun C T N h => by cases h; rfl) rfl dX8_init_26 rfl (by decide) (Nat.le_of_ble_eq_true rfl) (fun _ => ⟨rfl, rfl⟩) rfl ?_
  refine ge_aload_n dX8_init_29 rfl ?_
  refine al_new (k := 5) (w' := [.inr (7, [(4, 0), (6, 0), (2, 0), (1, 0), (0, 0), (0, 0), (0, 0), (0, 0)]), .inr (1, [(5, 0), (0, 0)]), .inl (0, 5, none), .inr (1, [(7, 0), (0, 0)]), .inl (0, 56, none), .inr (1, [(2, 0), (0, 0)])]) nw_X8_9 dX8_init_30 rfl (by decide) (by decide) rfl rfl (Nat.le_of_ble_eq_true rfl) (Nat.le_of_ble_eq_true rfl) ?_
  refine ge_dup dX8_init_33 rfl ?_
  refine ge_bipush dX8_init_34 rfl ?_
  refine al_call (M2 := mX1_init) (av := [.int (iZ 56)]) (k := 5) (w := [.inr (7, [(4, 0), (6, 0), (2, 0), (1, 0), (0, 0), (0, 0), (0, 0), (0, 0)]), .inr (1, [(5, 0), (0, 0)]), .inl (0, 5, none), .inr (1, [(7, 0), (0, 0)]), .inl (0, 56, none)]) (w' := [.inr (7, [(4, 0), (6, 0), (2, 0), (1, 0), (0, 0), (0, 0), (0, 0), (0, 0)]), .inr (1, [(5, 0), (0, 0)]), .inl (0, 5, none), .inr (1, [(7, 0), (0, 0)]), .inl (0, 56, none), .inr (1, [(9, 0), (0, 0)]), .inl (0, 56, none)]) dX8_init_36 cl_X8_11 mi_X1 (ct_X1 56 (Nat.le_of_ble_eq_true rfl)) dz_X1 (fun _ => rfl) rfl rfl rfl (by decide) (by decide) rfl (Nat.le_of_ble_eq_true rfl) ⟨(Nat.le_of_ble_eq_true rfl), (Nat.le_of_ble_eq_true rfl)⟩ ⟨(Nat.le_of_ble_eq_true rfl), (Nat.le_of_ble_eq_true rfl)⟩ rfl ?_
  refine al_putF (w' := [.inr (7, [(4, 0), (6, 0), (8, 0), (1, 0), (0, 0), (0, 0), (0, 0), (0, 0)]), .inr (1, [(5, 0), (0, 0)]), .inl (0, 5, none), .inr (1, [(7, 0), (0, 0)]), .inl (0, 56, none), .inr (1, [(9, 0), (0, 0)]), .inl (0, 56, none)]) fl_X8_23 (fun C T N h => by cases h; rfl) rfl dX8_init_39 rfl (by decide) (Nat.le_of_ble_eq_true rfl) (fun _ => ⟨rfl, rfl⟩) rfl ?_
  refine ge_aload_n dX8_init_42 rfl ?_
  refine ge_lconst (v := 0) dX8_init_43 rfl ?_
  refine al_put (f := (1, 0)) (w' := [.inr (7, [(4, 0), (6, 0), (8, 0), (1, 0), (0, 0), (0, 0), (0, 0), (0, 0)]), .inr (1, [(5, 0), (0, 0)]), .inl (0, 5, none), .inr (1, [(7, 0), (0, 0)]), .inl (0, 56, none), .inr (1, [(9, 0), (0, 0)]), .inl (0, 56, none)]) fl_X8_26 dX8_init_44 rfl (by decide) (by decide) (fun _ => rfl) (fun _ => am_fit_long) rfl ?_
  refine ge_aload_n dX8_init_47 rfl ?_
  refine ge_iconst dX8_init_48 ?_
  refine al_put (f := (0, 0)) (w' := [.inr (7, [(4, 0), (6, 0), (8, 0), (1, 0), (0, 0), (0, 0), (0, 0), (0, 0)]), .inr (1, [(5, 0), (0, 0)]), .inl (0, 5, none), .inr (1, [(7, 0), (0, 0)]), .inl (0, 56, none), .inr (1, [(9, 0), (0, 0)]), .inl (0, 56, none)]) fl_X8_30 dX8_init_49 rfl (by decide) (by decide) (fun _ => rfl) (fun _ => am_fit_int) rfl ?_
  refine ge_aload_n dX8_init_52 rfl ?_
  refine ge_iconst dX8_init_53 ?_
  refine al_put (f := (0, 0)) (w' := [.inr (7, [(4, 0), (6, 0), (8, 0), (1, 0), (0, 0), (0, 0), (0, 0), (0, 0)]), .inr (1, [(5, 0), (0, 0)]), .inl (0, 5, none), .inr (1, [(7, 0), (0, 0)]), .inl (0, 56, none), .inr (1, [(9, 0), (0, 0)]), .inl (0, 56, none)]) fl_X8_34 dX8_init_54 rfl (by decide) (by decide) (fun _ => rfl) (fun _ => am_fit_int) rfl ?_
  refine ge_aload_n dX8_init_57 rfl ?_
  refine ge_iconst dX8_init_58 ?_
  refine al_put (f := (0, 0)) (w' := [.inr (7, [(4, 0), (6, 0), (8, 0), (1, 0), (0, 0), (0, 0), (0, 0), (0, 0)]), .inr (1, [(5, 0), (0, 0)]), .inl (0, 5, none), .inr (1, [(7, 0), (0, 0)]), .inl (0, 56, none), .inr (1, [(9, 0), (0, 0)]), .inl (0, 56, none)]) fl_X8_37 dX8_init_59 rfl (by decide) (by decide) (fun _ => rfl) (fun _ => am_fit_int) rfl ?_
  refine ge_aload_n dX8_init_62 rfl ?_
  refine ge_iconst dX8_init_63 ?_
  refine al_put (f := (0, 0)) (w' := [.inr (7, [(4, 0), (6, 0), (8, 0), (1, 0), (0, 0), (0, 0), (0, 0), (0, 0)]), .inr (1, [(5, 0), (0, 0)]), .inl (0, 5, none), .inr (1, [(7, 0), (0, 0)]), .inl (0, 56, none), .inr (1, [(9, 0), (0, 0)]), .inl (0, 56, none)]) fl_X8_40 dX8_init_64 rfl (by decide) (by decide) (fun _ => rfl) (fun _ => am_fit_int) rfl ?_
  exact al_ret dX8_init_67 rfl
theorem ct_X3 : al_Ct mX3_init 3 5 39 [] (.inr (2, df_X3)) [.inr (2, [(4, 0), (7, 0), (0, 0)]), .inr (4, [(5, 0), (0, 0)]), .inr (1, [(6, 0), (0, 0)]), .inl (0, 25, none), .inr (1, [(8, 0), (0, 0)]), .inl (0, 8, none)] := by
  refine al_ct (by decide) dz_X3 rfl (Nat.le_of_ble_eq_true rfl) (fun _ => rfl) rfl ?_
  refine ge_aload_n dX3_init_0 rfl ?_
  refine al_ini co_X3 oi_1 oi_2 dX3_init_1 (Nat.le_of_ble_eq_true rfl) (Nat.le_of_ble_eq_true rfl) ?_
  refine ge_aload_n dX3_init_4 rfl ?_
  refine al_new (k := 1) (w' := [.inr (2, [(2, 0), (2, 0), (0, 0)]), .inr (4, [(2, 0), (0, 0)])]) nw_X3_9 dX3_init_5 rfl (by decide) (by decide) rfl rfl (Nat.le_of_ble_eq_true rfl) (Nat.le_of_ble_eq_true rfl) ?_
  refine ge_dup dX3_init_8 rfl ?_
  refine al_call (M2 := mX5_init) (av := []) (k := 1) (w := [.inr (2, [(2, 0), (2, 0), (0, 0)])]) (w' := [.inr (2, [(2, 0), (2, 0), (0, 0)]), .inr (4, [(5, 0), (0, 0)]), .inr (1, [(6, 0), (0, 0)]), .inl (0, 25, none)]) dX3_init_9 cl_X3_11 mi_X5 ct_X5 dz_X5 (fun _ => rfl) rfl rfl rfl (by decide) (by decide) rfl (Nat.le_of_ble_eq_true rfl) ⟨(Nat.le_of_ble_eq_true rfl), (Nat.le_of_ble_eq_true rfl)⟩ ⟨(Nat.le_of_ble_eq_true rfl), (Nat.le_of_ble_eq_true rfl)⟩ rfl ?_
  refine al_putF (w' := [.inr (2, [(4, 0), (2, 0), (0, 0)]), .inr (4, [(5, 0), (0, 0)]), .inr (1, [(6, 0), (0, 0)]), .inl (0, 25, none)]) fl_X3_12 (fun C T N h => by cases h; rfl) rfl dX3_init_12 rfl (by decide) (Nat.le_of_ble_eq_true rfl) (fun _ => ⟨rfl, rfl⟩) rfl ?_
  refine ge_aload_n dX3_init_15 rfl ?_
  refine al_new (k := 4) (w' := [.inr (2, [(4, 0), (2, 0), (0, 0)]), .inr (4, [(5, 0), (0, 0)]), .inr (1, [(6, 0), (0, 0)]), .inl (0, 25, none), .inr (1, [(2, 0), (0, 0)])]) nw_X3_18 dX3_init_16 rfl (by decide) (by decide) rfl rfl (Nat.le_of_ble_eq_true rfl) (Nat.le_of_ble_eq_true rfl) ?_
  refine ge_dup dX3_init_19 rfl ?_
  refine ge_bipush dX3_init_20 rfl ?_
  refine al_call (M2 := mX1_init) (av := [.int (iZ 8)]) (k := 4) (w := [.inr (2, [(4, 0), (2, 0), (0, 0)]), .inr (4, [(5, 0), (0, 0)]), .inr (1, [(6, 0), (0, 0)]), .inl (0, 25, none)]) (w' := [.inr (2, [(4, 0), (2, 0), (0, 0)]), .inr (4, [(5, 0), (0, 0)]), .inr (1, [(6, 0), (0, 0)]), .inl (0, 25, none), .inr (1, [(8, 0), (0, 0)]), .inl (0, 8, none)]) dX3_init_22 cl_X3_20 mi_X1 (ct_X1 8 (Nat.le_of_ble_eq_true rfl)) dz_X1 (fun _ => rfl) rfl rfl rfl (by decide) (by decide) rfl (Nat.le_of_ble_eq_true rfl) ⟨(Nat.le_of_ble_eq_true rfl), (Nat.le_of_ble_eq_true rfl)⟩ ⟨(Nat.le_of_ble_eq_true rfl), (Nat.le_of_ble_eq_true rfl)⟩ rfl ?_
  refine al_putF (w' := [.inr (2, [(4, 0), (7, 0), (0, 0)]), .inr (4, [(5, 0), (0, 0)]), .inr (1, [(6, 0), (0, 0)]), .inl (0, 25, none), .inr (1, [(8, 0), (0, 0)]), .inl (0, 8, none)]) fl_X3_23 (fun C T N h => by cases h; rfl) rfl dX3_init_25 rfl (by decide) (Nat.le_of_ble_eq_true rfl) (fun _ => ⟨rfl, rfl⟩) rfl ?_
  refine ge_aload_n dX3_init_28 rfl ?_
  refine ge_iconst dX3_init_29 ?_
  refine al_put (f := (0, 0)) (w' := [.inr (2, [(4, 0), (7, 0), (0, 0)]), .inr (4, [(5, 0), (0, 0)]), .inr (1, [(6, 0), (0, 0)]), .inl (0, 25, none), .inr (1, [(8, 0), (0, 0)]), .inl (0, 8, none)]) fl_X3_27 dX3_init_30 rfl (by decide) (by decide) (fun _ => rfl) (fun _ => am_fit_int) rfl ?_
  exact al_ret dX3_init_33 rfl
