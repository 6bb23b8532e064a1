/-! ===== the mathematical object, and the class's picture of it ===== -/
/-- left sides, right sides, marks, text, page, and how often table, turn, text succeeded -/
abbrev mS : Type := List (List Int) × List (List Int) × Nat × List Int × List Int × Int × Int × Int
def XL : List Nat := List.range' 21 101
theorem XL_mem {p : Nat} : p ∈ XL ↔ 21 ≤ p ∧ p < 122 := by unfold XL; rw [List.mem_range'_1]
theorem XL_of {σ σ' : am_St} {ks : List Nat} (h : am_off ks σ σ') (hk : ∀ p ∈ ks, 21 ≤ p ∧ p < 122) : am_off XL σ σ' := h.wk (fun p hp => XL_mem.mpr (hk p hp))
/-- all that the class keeps beside the table, the page and the text -/
def xB (σ : am_St) : Prop := (∃ ys, hold σ 33 56 ys) ∧ rdl σ ∧ clB σ ∧ prB σ ∧ trB σ
def xK (σ : am_St) (R : List (List Int)) (mk : Nat) : Prop := (σ.1 21 9 = 0 ∨ (σ.1 21 9 = 1 ∧ clsh σ (mt_sg R mk))) ∧ (σ.1 21 10 = 0 ∨ (σ.1 21 10 = 1 ∧ σ.1 109 2 = mt_part R))
def RepC (σ : am_St) (s : mS) : Prop := rls σ s.1 s.2.1 s.2.2.1 ∧ hold σ 31 56 s.2.2.2.1 ∧ hold σ 29 56 s.2.2.2.2.1 ∧ σ.1 21 11 = s.2.2.2.2.2.1 ∧ σ.1 21 12 = s.2.2.2.2.2.2.1 ∧ σ.1 21 13 = s.2.2.2.2.2.2.2 ∧ xB σ ∧ xK σ s.2.1 s.2.2.1
theorem xB.off {σ σ' : am_St} {ks : List Nat} (h : xB σ) (ho : am_off ks σ σ') (hk : ∀ p ∈ ks, p < 33 ∨ 121 < p) : xB σ' := by
  have nk : ∀ p, 33 ≤ p → p ≤ 121 → p ∉ ks := fun p h1 h2 z => by have := hk p z; omega
  obtain ⟨⟨y1, h1⟩, ⟨⟨y2, h2⟩, y3, h3⟩, ⟨⟨y4, h4⟩, ⟨y5, h5⟩, ⟨y6, h6⟩, ⟨y7, h7⟩, h8, y9, h9⟩, ⟨⟨y10, h10⟩, y11, h11⟩, ⟨y12, h12⟩, ⟨y13, h13⟩, y14, h14⟩ := h
  exact ⟨⟨y1, h1.off ho (nk _ (by decide) (by decide)) (nk _ (by decide) (by decide))⟩, ⟨⟨y2, h2.off ho (nk _ (by decide) (by decide)) (nk _ (by decide) (by decide))⟩, y3, h3.off ho (nk _ (by decide) (by decide)) (nk _ (by decide) (by decide))⟩, ⟨⟨y4, h4.off ho (nk _ (by decide) (by decide)) (nk _ (by decide) (by decide))⟩, ⟨y5, h5.off ho (nk _ (by decide) (by decide)) (nk _ (by decide) (by decide))⟩, ⟨y6, h6.off ho (nk _ (by decide) (by decide)) (nk _ (by decide) (by decide))⟩, ⟨y7, h7.off ho (nk _ (by decide) (by decide)) (nk _ (by decide) (by decide))⟩, fun i hi => by obtain ⟨ys, hy⟩ := h8 i hi; exact ⟨ys, hy.off ho (nk _ (by omega) (by omega)) (nk _ (by omega) (by omega))⟩, y9, h9.off ho (nk _ (by decide) (by decide)) (nk _ (by decide) (by decide))⟩, ⟨⟨y10, h10.off ho (nk _ (by decide) (by decide)) (nk _ (by decide) (by decide))⟩, y11, h11.off ho (nk _ (by decide) (by decide)) (nk _ (by decide) (by decide))⟩, ⟨y12, h12.off ho (nk _ (by decide) (by decide)) (nk _ (by decide) (by decide))⟩, ⟨y13, h13.off ho (nk _ (by decide) (by decide)) (nk _ (by decide) (by decide))⟩, y14, h14.off ho (nk _ (by decide) (by decide)) (nk _ (by decide) (by decide))⟩
theorem clsh.off {σ σ' : am_St} {S : List (List Int)} {ks : List Nat} (h : clsh σ S) (ho : am_off ks σ σ') (hk : ∀ p ∈ ks, p < 44 ∨ 108 < p) : clsh σ' S := by
  have nk : ∀ p, 44 ≤ p → p ≤ 108 → p ∉ ks := fun p h1 h2 z => by have := hk p z; omega
  exact ⟨h.1.off ho (nk _ (by decide) (by decide)) (nk _ (by decide) (by decide)) (nk _ (by decide) (by decide)), h.2.1, h.2.2.1.off ho (nk _ (by decide) (by decide)) (nk _ (by decide) (by decide)), h.2.2.2.1.off ho (nk _ (by decide) (by decide)) (nk _ (by decide) (by decide)), h.2.2.2.2.1.off ho (nk _ (by decide) (by decide)) (nk _ (by decide) (by decide)), fun t ht => ⟨(h.2.2.2.2.2.1 t ht).1.off ho (nk _ (by decide) (by decide)) (nk _ (by decide) (by decide)) (nk _ (by decide) (by decide)), (h.2.2.2.2.2.1 t ht).2⟩, h.2.2.2.2.2.2⟩
theorem xK.off {σ σ' : am_St} {R : List (List Int)} {mk : Nat} {ks : List Nat} (h : xK σ R mk) (ho : am_off ks σ σ') (hk : ∀ p ∈ ks, (21 < p ∧ p < 44) ∨ (108 < p ∧ p ≠ 109)) : xK σ' R mk := by
  have n21 : 21 ∉ ks := fun z => by have := hk 21 z; omega
  have n109 : 109 ∉ ks := fun z => by have := hk 109 z; omega
  refine ⟨?_, ?_⟩
  · rcases h.1 with z | ⟨z1, z2⟩
    · exact Or.inl (by rw [(ho 21 n21).1]; exact z)
    · exact Or.inr ⟨by rw [(ho 21 n21).1]; exact z1, z2.off ho (fun p hp => by have := hk p hp; omega)⟩
  · rcases h.2 with z | ⟨z1, z2⟩
    · exact Or.inl (by rw [(ho 21 n21).1]; exact z)
    · exact Or.inr ⟨by rw [(ho 21 n21).1]; exact z1, by rw [(ho 109 n109).1]; exact z2⟩
/-- the page's line alone was written -/
theorem RepC.page {σ σ' : am_St} {s : mS} {p : List Int} (h : RepC σ s) (ho : am_off [29, 30] σ σ') (hp : hold σ' 29 56 p) : RepC σ' (s.1, s.2.1, s.2.2.1, s.2.2.2.1, p, s.2.2.2.2.2) := by
  obtain ⟨h1, h2, h3, h4, h5, h6, h7, h8⟩ := h
  have o21 := (ho 21 (by decide)).1
  exact ⟨h1.off ho (by decide), h2.off ho (by decide) (by decide), hp, (o21 11).trans h4, (o21 12).trans h5, (o21 13).trans h6, h7.off ho (by decide), h8.off ho (by decide)⟩
def m_letter (s : mS) (c : Int) : Int × mS := if c < 32 ∨ 126 < c then (-102, s) else if 56 ≤ s.2.2.2.2.1.length then (-104, s) else ((s.2.2.2.2.1.length : Int) + 1, (s.1, s.2.1, s.2.2.1, s.2.2.2.1, s.2.2.2.2.1 ++ [c], s.2.2.2.2.2))
def m_blank (s : mS) : Int × mS := ((s.2.2.2.2.1.length : Int), (s.1, s.2.1, s.2.2.1, s.2.2.2.1, [], s.2.2.2.2.2))
def m_fault (s : mS) : Int × mS := (((rd_run s.2.2.2.2.1 rd_0).1 : Int), s)
def m_table (s : mS) : Int × mS := match rd_tab s.2.2.2.2.1 with
  | none => (-103, s)
  | some q => ((q.2.length : Int), (q.1, q.2, 0, [], [], s.2.2.2.2.2.1 + 1, s.2.2.2.2.2.2))
theorem ev_X10_letter {σ : am_St} {s : mS} {c : Int} (h : RepC σ s) (hc : inR c) : am_Ev SH mX10_letter 1 [.ref 21, .int (iZ c)] σ (am_rI (fun x σ2 => x = (m_letter s c).1 ∧ RepC σ2 (m_letter s c).2 ∧ am_off XL σ σ2)) := by
  have h3 := h.2.2.1
  have h5 := h3.2.2.2.2.1
  refine am_ev (by decide) [some (.ref 21), some (.int (iZ (c)))] rfl (Nat.le_of_ble_eq_true rfl) ?_
  refine go_iload_n dX10_letter_0 rfl ?_
  refine go_bipush dX10_letter_1 rfl ?_
  refine go_icmp_lt (tgt := 12) dX10_letter_3 (by decide) hc (by unfold inR; omega) (fun b3 => ?_) (fun b3 => ?_)
  · skip
    refine go_bipush dX10_letter_12 rfl ?_
    refine go_retI dX10_letter_14 rfl ?_
    unfold m_letter
    rw [if_pos (by omega)]
    exact ⟨rfl, h, am_off.rf⟩
  · skip
    refine go_iload_n dX10_letter_6 rfl ?_
    refine go_bipush dX10_letter_7 rfl ?_
    refine go_icmp_le (tgt := 15) dX10_letter_9 (by decide) hc (by unfold inR; omega) (fun b9 => ?_) (fun b9 => ?_)
    · skip
      refine go_aload_n dX10_letter_15 rfl ?_
      refine go_getr fl_X10_21 dX10_letter_16 sh_21 rfl ?_
      refine go_cvP0 (M2 := mX1_size) dX10_letter_19 ml_X10_83 mv_X1_size h3.1 rfl rfl (Nat.le_of_ble_eq_true rfl) (by decide) (ev_X1_size h3) ?_
      refine go_bipush dX10_letter_22 rfl ?_
      refine go_icmp_lt (tgt := 30) dX10_letter_24 (by decide) (by unfold inR; omega) (by unfold inR; omega) (fun b24 => ?_) (fun b24 => ?_)
      · skip
        refine go_aload_n dX10_letter_30 rfl ?_
        refine go_getr fl_X10_21 dX10_letter_31 sh_21 rfl ?_
        refine go_iload_n dX10_letter_34 rfl ?_
        refine go_cvV1 (M2 := mX1_add) dX10_letter_35 ml_X10_87 mv_X1_add h3.1 rfl rfl (Nat.le_of_ble_eq_true rfl) (by decide) (ev_X1_add h3 hc (by omega)) (fun σ1 hq => ?_)
        refine go_aload_n dX10_letter_38 rfl ?_
        refine go_getr fl_X10_21 dX10_letter_39 sh_21 rfl ?_
        refine go_cvP0 (M2 := mX1_size) dX10_letter_42 ml_X10_83 mv_X1_size h3.1 rfl rfl (Nat.le_of_ble_eq_true rfl) (by decide) (ev_X1_size hq.1) ?_
        refine go_retI dX10_letter_45 rfl ?_
        unfold m_letter
        rw [if_neg (by omega), if_neg (by omega)]
        exact ⟨by rw [List.length_append]; simp, h.page hq.2 hq.1, XL_of hq.2 (by decide)⟩
      · skip
        refine go_bipush dX10_letter_27 rfl ?_
        refine go_retI dX10_letter_29 rfl ?_
        unfold m_letter
        rw [if_neg (by omega), if_pos (by omega)]
        exact ⟨rfl, h, am_off.rf⟩
    · skip
      refine go_bipush dX10_letter_12 rfl ?_
      refine go_retI dX10_letter_14 rfl ?_
      unfold m_letter
      rw [if_pos (by omega)]
      exact ⟨rfl, h, am_off.rf⟩
theorem ev_X10_blank {σ : am_St} {s : mS} (h : RepC σ s) : am_Ev SH mX10_blank 1 [.ref 21] σ (am_rI (fun x σ2 => x = (m_blank s).1 ∧ RepC σ2 (m_blank s).2 ∧ am_off XL σ σ2)) := by
  have h3 := h.2.2.1
  refine am_ev (by decide) [some (.ref 21), none] rfl (Nat.le_of_ble_eq_true rfl) ?_
  refine go_aload_n dX10_blank_0 rfl ?_
  refine go_getr fl_X10_21 dX10_blank_1 sh_21 rfl ?_
  refine go_cvP0 (M2 := mX1_size) dX10_blank_4 ml_X10_83 mv_X1_size h3.1 rfl rfl (Nat.le_of_ble_eq_true rfl) (by decide) (ev_X1_size h3) ?_
  refine go_ist1 dX10_blank_7 (Nat.le_of_ble_eq_true rfl) rfl ?_
  refine go_aload_n dX10_blank_8 rfl ?_
  refine go_getr fl_X10_21 dX10_blank_9 sh_21 rfl ?_
  refine go_cvV0 (M2 := mX1_clear) dX10_blank_12 ml_X10_90 mv_X1_clear h3.1 rfl rfl (Nat.le_of_ble_eq_true rfl) (by decide) (ev_X1_clear h3) (fun σ1 hq => ?_)
  refine go_iload_n dX10_blank_15 rfl ?_
  refine go_retI dX10_blank_16 rfl ?_
  exact ⟨rfl, h.page hq.2 hq.1, XL_of hq.2 (by decide)⟩
theorem RepC.reader {σ σ' : am_St} {s : mS} (h : RepC σ s) (ho : am_off [35, 36, 37, 38, 39] σ σ') (hr : rdl σ') : RepC σ' s := by
  obtain ⟨h1, h2, h3, h4, h5, h6, ⟨k1, k2, k3, k4, k5⟩, h8⟩ := h
  have o21 := (ho 21 (by decide)).1
  obtain ⟨y1, k1⟩ := k1
  obtain ⟨⟨y4, a4⟩, ⟨y5, a5⟩, ⟨y6, a6⟩, ⟨y7, a7⟩, a8, y9, a9⟩ := k3
  obtain ⟨⟨y10, a10⟩, y11, a11⟩ := k4
  obtain ⟨⟨y12, a12⟩, ⟨y13, a13⟩, y14, a14⟩ := k5
  refine ⟨h1.off ho (by decide), h2.off ho (by decide) (by decide), h3.off ho (by decide) (by decide), (o21 11).trans h4, (o21 12).trans h5, (o21 13).trans h6, ⟨⟨y1, k1.off ho (by decide) (by decide)⟩, hr, ⟨⟨y4, a4.off ho (by decide) (by decide)⟩, ⟨y5, a5.off ho (by decide) (by decide)⟩, ⟨y6, a6.off ho (by decide) (by decide)⟩, ⟨y7, a7.off ho (by decide) (by decide)⟩, fun i hi => by obtain ⟨ys, hy⟩ := a8 i hi; exact ⟨ys, hy.off ho (by simp; omega) (by simp; omega)⟩, y9, a9.off ho (by decide) (by decide)⟩, ⟨⟨y10, a10.off ho (by decide) (by decide)⟩, y11, a11.off ho (by decide) (by decide)⟩, ⟨y12, a12.off ho (by decide) (by decide)⟩, ⟨y13, a13.off ho (by decide) (by decide)⟩, y14, a14.off ho (by decide) (by decide)⟩, h8.off ho (by decide)⟩
theorem ev_X10_fault {σ : am_St} {s : mS} (h : RepC σ s) : am_Ev SH mX10_fault 5 [.ref 21] σ (am_rI (fun x σ2 => x = (m_fault s).1 ∧ RepC σ2 (m_fault s).2 ∧ am_off XL σ σ2)) := by
  have h3 := h.2.2.1
  refine am_ev (by decide) [some (.ref 21)] rfl (Nat.le_of_ble_eq_true rfl) ?_
  refine go_aload_n dX10_fault_0 rfl ?_
  refine go_getr fl_X10_34 dX10_fault_1 sh_21 rfl ?_
  refine go_aload_n dX10_fault_4 rfl ?_
  refine go_getr fl_X10_21 dX10_fault_5 sh_21 rfl ?_
  refine go_cvI1 (M2 := mX4_read) dX10_fault_8 ml_X10_93 mv_X4_read sh_35 rfl rfl (Nat.le_of_ble_eq_true rfl) (by decide) (ev_X4_read h.2.2.2.2.2.2.1.2.1 h3 (by decide)) (fun x σ1 hq => ?_)
  refine go_retI dX10_fault_11 rfl ?_
  exact ⟨hq.1, h.reader hq.2.2 ⟨⟨_, hq.2.1.1⟩, _, hq.2.1.2.1⟩, XL_of hq.2.2 (by decide)⟩
theorem ev_X10_forgetTable {σ : am_St} : am_Ev SH mX10_forgetTable 0 [.ref 21] σ (am_rV (fun σ2 => σ2 = am_si (am_si σ 21 9 0) 21 10 0)) := by
  refine am_ev (by decide) [some (.ref 21)] rfl (Nat.le_of_ble_eq_true rfl) ?_
  refine go_aload_n dX10_forgetTable_0 rfl ?_
  refine go_iconst dX10_forgetTable_1 ?_
  refine go_puti fl_X10_66 dX10_forgetTable_2 sh_21 rfl (am_fit_bool (by omega)) ?_
  refine go_aload_n dX10_forgetTable_5 rfl ?_
  refine go_iconst dX10_forgetTable_6 ?_
  refine go_puti fl_X10_70 dX10_forgetTable_7 sh_21 rfl (am_fit_bool (by omega)) ?_
  refine go_retV dX10_forgetTable_10 rfl ?_
  rfl
theorem ev_X10_table {σ : am_St} {s : mS} (h : RepC σ s) : am_Ev SH mX10_table 6 [.ref 21] σ (am_rI (fun x σ2 => x = (m_table s).1 ∧ RepC σ2 (m_table s).2 ∧ am_off XL σ σ2)) := by
  have h3 := h.2.2.1
  refine am_ev (by decide) [some (.ref 21)] rfl (Nat.le_of_ble_eq_true rfl) ?_
  refine go_aload_n dX10_table_0 rfl ?_
  refine go_getr fl_X10_34 dX10_table_1 sh_21 rfl ?_
  refine go_aload_n dX10_table_4 rfl ?_
  refine go_getr fl_X10_21 dX10_table_5 sh_21 rfl ?_
  refine go_cvI1 (M2 := mX4_readWhole) dX10_table_8 ml_X10_97 mv_X4_readWhole sh_35 rfl rfl (Nat.le_of_ble_eq_true rfl) (by decide) (ev_X4_readWhole h.2.2.2.2.2.2.1.2.1 h3 (by decide)) (fun x σ1 hq => ?_)
  obtain ⟨hx, hrl, ho1⟩ := hq
  have hc1 := h.reader ho1 hrl
  refine go_if_ne (tgt := 17) dX10_table_11 (by decide) (by rcases hx with z | z <;> unfold inR <;> omega) (fun b11 => ?_) (fun b11 => ?_)
  · skip
    obtain ⟨L, R, e1, e2, e3, e4⟩ : ∃ L R, rd_tab s.2.2.2.2.1 = some (L, R) ∧ hold σ1 36 8 (L.map enc) ∧ hold σ1 38 8 (R.map enc) ∧ tabOK L R 0 := by rcases hx with z | z; exact absurd z.1 b11; exact z.2
    obtain ⟨c1, c2, c3, c4, c5, c6, c7, c8⟩ := hc1
    refine go_aload_n dX10_table_17 rfl ?_
    refine go_getr fl_X10_10 dX10_table_18 sh_21 rfl ?_
    refine go_aload_n dX10_table_21 rfl ?_
    refine go_getr fl_X10_34 dX10_table_22 sh_21 rfl ?_
    refine go_getr fl_X10_101 dX10_table_25 sh_35 rfl ?_
    refine go_aload_n dX10_table_28 rfl ?_
    refine go_getr fl_X10_34 dX10_table_29 sh_21 rfl ?_
    refine go_getr fl_X10_104 dX10_table_32 sh_35 rfl ?_
    refine go_cvV2 (M2 := mX6_replace) dX10_table_35 ml_X10_107 mv_X6_replace sh_22 rfl rfl (Nat.le_of_ble_eq_true rfl) (by decide) (ev_X6_replace c1 e2 e3 e4) (fun σ2 hq2 => ?_)
    refine go_aload_n dX10_table_38 rfl ?_
    refine go_cvV0 (M2 := mX10_forgetTable) dX10_table_39 ml_X10_111 mv_X10_forgetTable sh_21 rfl rfl (Nat.le_of_ble_eq_true rfl) (by decide) (ev_X10_forgetTable) (fun σ3 hq3 => ?_)
    subst hq3
    refine go_aload_n dX10_table_42 rfl ?_
    refine go_getr fl_X10_25 dX10_table_43 sh_21 rfl ?_
    refine go_cvV0 (M2 := mX1_clear) dX10_table_46 ml_X10_90 mv_X1_clear c2.1 rfl rfl (Nat.le_of_ble_eq_true rfl) (by decide) (ev_X1_clear (hold_si (hold_si (c2.off hq2.2 (by decide) (by decide)) (by decide) (by decide)) (by decide) (by decide))) (fun σ4 hq4 => ?_)
    refine go_aload_n dX10_table_49 rfl ?_
    refine go_getr fl_X10_21 dX10_table_50 sh_21 rfl ?_
    refine go_cvV0 (M2 := mX1_clear) dX10_table_53 ml_X10_90 mv_X1_clear c3.1 rfl rfl (Nat.le_of_ble_eq_true rfl) (by decide) (ev_X1_clear ((hold_si (hold_si (c3.off hq2.2 (by decide) (by decide)) (by decide) (by decide)) (by decide) (by decide)).off hq4.2 (by decide) (by decide))) (fun σ5 hq5 => ?_)
    have oA : am_off [21, 22, 23, 24, 25, 26, 27, 28, 29, 30, 31, 32] σ1 σ5 := ((((hq2.2.wk (by decide)).tr (am_off_si (by decide))).tr (am_off_si (by decide))).tr (hq4.2.wk (by decide))).tr (hq5.2.wk (by decide))
    have f5 : ∀ j, σ5.1 21 j = (am_si (am_si σ2 21 9 0) 21 10 0).1 21 j := fun j => by rw [(hq5.2 21 (by decide)).1, (hq4.2 21 (by decide)).1]
    have g2 : ∀ j, σ2.1 21 j = σ1.1 21 j := (hq2.2 21 (by decide)).1
    have r5 : rls σ5 L R 0 := (((hq2.1.off (ks := [21]) (am_off_si (by decide)) (by decide)).off (ks := [21]) (am_off_si (by decide)) (by decide)).off hq4.2 (by decide)).off hq5.2 (by decide)
    refine go_aload_n dX10_table_56 rfl ?_
    refine go_dup dX10_table_57 rfl ?_
    refine go_geti fl_X10_73 dX10_table_58 sh_21 rfl ?_
    refine go_iconst dX10_table_61 ?_
    refine go_iadd dX10_table_62 ?_
    refine go_puti fl_X10_73 dX10_table_63 sh_21 rfl am_fit_int ?_
    refine go_aload_n dX10_table_66 rfl ?_
    refine go_getr fl_X10_10 dX10_table_67 sh_21 rfl ?_
    refine go_cvP0 (M2 := mX6_size) dX10_table_70 ml_X10_114 mv_X6_size sh_22 rfl rfl (Nat.le_of_ble_eq_true rfl) (by decide) (ev_X6_size (r5.off (ks := [21]) (am_off_si (by decide)) (by decide))) ?_
    refine go_retI dX10_table_73 rfl ?_
    unfold m_table
    rw [e1]
    refine ⟨rfl, ⟨r5.off (ks := [21]) (am_off_si (by decide)) (by decide), hold_si (hq4.1.off hq5.2 (by decide) (by decide)) (by decide) (by decide), hold_si hq5.1 (by decide) (by decide), ?_, ?_, ?_, c7.off (oA.tr (am_off_si (by decide))) (by decide), Or.inl ?_, Or.inl ?_⟩, (XL_of ho1 (by decide)).tr ((XL_of oA (by decide)).tr (XL_of (ks := [21]) (am_off_si (by decide)) (by decide)))⟩
    · simp [am_si, f5, g2, c4]
    · simp [am_si, f5, g2, c5]
    · simp [am_si, f5, g2, c6]
    · simp [am_si, f5]
    · simp [am_si, f5]
  · skip
    refine go_bipush dX10_table_14 rfl ?_
    refine go_retI dX10_table_16 rfl ?_
    have ez : rd_tab s.2.2.2.2.1 = none := by rcases hx with z | z; exact z.2; omega
    unfold m_table
    rw [ez]
    exact ⟨rfl, hc1, XL_of ho1 (by decide)⟩
