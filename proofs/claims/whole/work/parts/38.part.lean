/-! ===== parting: the mathematics, and the class's Partings ===== -/
def clean (R : List (List Int)) (m : Nat) : Prop := ¬ Rem (mt_sg R m) []
def isPart (R : List (List Int)) (x : Int) : Prop := (x = -1 ∧ ∀ m, m < 2 ^ R.length → ¬ clean R m) ∨ ∃ m : Nat, m < 2 ^ R.length ∧ x = (m : Int) ∧ clean R m ∧ ∀ m', m' < 2 ^ R.length → clean R m' → mt_bc m < mt_bc m' ∨ (mt_bc m = mt_bc m' ∧ m ≤ m')
theorem isPart_uniq {R : List (List Int)} {x y : Int} (hx : isPart R x) (hy : isPart R y) : x = y := by
  rcases hx with ⟨h1, h2⟩ | ⟨m, h1, h2, h3, h4⟩ <;> rcases hy with ⟨g1, g2⟩ | ⟨m', g1, g2, g3, g4⟩
  · omega
  · exact absurd g3 (h2 m' g1)
  · exact absurd h3 (g2 m h1)
  · have a := h4 m' g1 g3
    have b := g4 m h1 h3
    omega
noncomputable def mt_part (R : List (List Int)) : Int := @dite _ (∃ x, isPart R x) (Classical.propDecidable _) (fun h => Classical.choose h) (fun _ => -1)
theorem mt_part_eq {R : List (List Int)} {x : Int} (h : isPart R x) : mt_part R = x := by
  unfold mt_part
  have hex : ∃ x, isPart R x := ⟨x, h⟩
  rw [dif_pos hex]
  exact isPart_uniq (Classical.choose_spec hex) h
theorem mt_bc_le : ∀ n : Fin 9, ∀ m : Fin 256, m.val < 2 ^ n.val → mt_bc m.val ≤ (n.val : Int) := by decide +kernel
theorem mt_bc_0 : ∀ m : Fin 256, 0 ≤ mt_bc m.val ∧ mt_bc m.val ≤ 8 := by decide +kernel
def prB (σ : am_St) : Prop := (∃ ys, hold σ 111 25 ys) ∧ ∃ ys, hold σ 113 8 ys
def PRL : List Nat := [109, 110, 111, 112, 113, 114]
theorem okS_sg {R : List (List Int)} (h : okr R) (h8 : R.length ≤ 8) (mk : Nat) : okS (mt_sg R mk) := ⟨(okw_sg h mk).1, (okw_sg h mk).2, by rw [mt_sg_len]; exact h8⟩
theorem ev_X3_find {σ : am_St} {L R : List (List Int)} {mk : Nat} (h : rls σ L R mk) (hb : prB σ) : am_Ev SH mX3_find 4 [.ref 109, .ref 22] σ (am_rV (fun σ2 => σ2.1 109 2 = mt_part R ∧ prB σ2 ∧ am_off PRL σ σ2)) := by
  have ht := h.2.2.2.2
  have h8 := ht.2.1
  have hp8 : 2 ^ R.length ≤ 2 ^ 8 := Nat.pow_le_pow_right (by decide) h8
  have hsh : am_shl 1 (R.length : Int) = ((2 ^ R.length : Nat) : Int) := by
    rw [show (1 : Int) = ((1 : Nat) : Int) from rfl, am_shlN (by omega) (by omega), Nat.one_mul]
  have bc8 : ∀ m, m < 2 ^ R.length → mt_bc m ≤ R.length := fun m hm => mt_bc_le ⟨R.length, by omega⟩ ⟨m, by omega⟩ hm
  have bc0 : ∀ m, m < 2 ^ R.length → 0 ≤ mt_bc m ∧ mt_bc m ≤ 8 := fun m hm => mt_bc_0 ⟨m, by omega⟩
  have outer : ∀ (k : Nat) (c : Nat) (σ1 : am_St) (w4 : Option Value), R.length + 1 - c < k → c ≤ R.length + 1 → σ1.1 109 2 = -1 → prB σ1 → am_off PRL σ σ1 → (∀ m', m' < 2 ^ R.length → mt_bc m' < c → ¬ clean R m') → am_Go SH mX3_find 4 (am_rV (fun σ2 => σ2.1 109 2 = mt_part R ∧ prB σ2 ∧ am_off PRL σ σ2)) 14 [some (.ref 109), some (.ref 22), some (.int (iZ ((2 ^ R.length : Nat) : Int))), some (.int (iZ c)), w4] [] σ1 := by
    intro k
    induction k with
    | zero => intro c σ1 w4 hk; exact absurd hk (by omega)
    | succ k ih =>
      intro c σ1 w4 hk hc hs hb1 ho hno
      have h1 := h.off ho (by decide)
      by_cases hend : c ≤ R.length
      · have inner : ∀ (k2 : Nat) (m : Nat) (σ2 : am_St), 2 ^ R.length - m < k2 → m ≤ 2 ^ R.length → σ2.1 109 2 = -1 → prB σ2 → am_off PRL σ σ2 → (∀ m', m' < m → mt_bc m' = c → ¬ clean R m') → am_Go SH mX3_find 4 (am_rV (fun σ2 => σ2.1 109 2 = mt_part R ∧ prB σ2 ∧ am_off PRL σ σ2)) 25 [some (.ref 109), some (.ref 22), some (.int (iZ ((2 ^ R.length : Nat) : Int))), some (.int (iZ c)), some (.int (iZ m))] [] σ2 := by
          intro k2
          induction k2 with
          | zero => intro m σ2 hk2; exact absurd hk2 (by omega)
          | succ k2 ih2 =>
            intro m σ2 hk2 hm hs2 hb2 ho2 hno2
            have h2 := h.off ho2 (by decide)
            by_cases hlt : m < 2 ^ R.length
            · have hbm := bc0 m hlt
              obtain ⟨⟨y1, e1⟩, y2, e2⟩ := hb2
              have hSm := okS_sg ht.2.2.2.2 h8 m
              refine go_iload dX3_find_25 rfl ?_
              refine go_iload_n dX3_find_27 rfl ?_
              refine go_icmp_ge (tgt := 77) dX3_find_28 (by decide) (by unfold inR; omega) (by unfold inR; omega) (fun b28 => ?_) (fun b28 => ?_)
              · skip
                exact absurd b28 (by omega)
              · skip
                refine go_iload dX3_find_31 rfl ?_
                refine go_csP1 (M2 := mJ6_bitCount_0f7a4) dX3_find_33 ml_X3_31 ms_J6_bitCount_0f7a4 (Nat.le_of_ble_eq_true rfl) (by decide) (ev_J6_bitCount (n := m) (by omega)) ?_
                refine go_iload_n dX3_find_36 rfl ?_
                refine go_icmp_ne (tgt := 71) dX3_find_37 (by decide) (by unfold inR; omega) (by unfold inR; omega) (fun b37 => ?_) (fun b37 => ?_)
                · skip
                  have nxt := ih2 (m + 1) σ2 (by omega) (by omega) hs2 ⟨⟨_, e1⟩, _, e2⟩ ho2 (fun m' z1 z2 => by
                    by_cases e : m' = m
                    · rw [e] at z2; exact absurd z2 b37
                    · exact hno2 m' (by omega) z2)
                  refine go_inc4 dX3_find_71 (Nat.le_of_ble_eq_true rfl) rfl ?_
                  refine go_goto (tgt := 25) dX3_find_74 (by decide) ?_
                  rw [show (m : Int) + 1 = ((m + 1 : Nat) : Int) by omega]
                  exact nxt
                · skip
                  refine go_aload_n dX3_find_40 rfl ?_
                  refine go_iload dX3_find_41 rfl ?_
                  refine go_aload_n dX3_find_43 rfl ?_
                  refine go_getr fl_X3_23 dX3_find_44 sh_109 rfl ?_
                  refine go_cvV2 (M2 := mX6_makeSigns) dX3_find_47 ml_X3_43 mv_X6_makeSigns sh_22 rfl rfl (Nat.le_of_ble_eq_true rfl) (by decide) (ev_X6_makeSigns (mk := m) h2.2.1 e2 ht.2.2.2.2 (by omega) h8 (by decide)) (fun σ3 hq3 => ?_)
                  refine go_aload_n dX3_find_50 rfl ?_
                  refine go_getr fl_X3_12 dX3_find_51 sh_109 rfl ?_
                  refine go_aload_n dX3_find_54 rfl ?_
                  refine go_getr fl_X3_23 dX3_find_55 sh_109 rfl ?_
                  refine go_cvI1 (M2 := mX5_wouldBeClean) dX3_find_58 ml_X3_47 mv_X5_wouldBeClean sh_110 rfl rfl (Nat.le_of_ble_eq_true rfl) (by decide) (ev_X5_wouldBeClean sh_110 (e1.off hq3.2 (by decide) (by decide)) hq3.1 hSm (by decide)) (fun x σ4 hq4 => ?_)
                  obtain ⟨hx, ⟨zs, hz⟩, ho4⟩ := hq4
                  have o34 : am_off PRL σ2 σ4 := (hq3.2.wk (by decide)).tr (ho4.wk (by decide))
                  refine go_if_eq (tgt := 71) dX3_find_61 (by decide) (by rcases hx with z | z <;> unfold inR <;> omega) (fun b61 => ?_) (fun b61 => ?_)
                  · skip
                    have hnc : ¬ clean R m := by rcases hx with z | z; omega; exact fun z2 => z2 z.2
                    have nxt := ih2 (m + 1) σ4 (by omega) (by omega) (by rw [(ho4 109 (by decide)).1, (hq3.2 109 (by decide)).1]; exact hs2) ⟨⟨_, hz⟩, _, hq3.1.off ho4 (by decide) (by decide)⟩ (ho2.tr o34) (fun m' z1 z2 => by
                      by_cases e : m' = m
                      · rw [e]; exact hnc
                      · exact hno2 m' (by omega) z2)
                    refine go_inc4 dX3_find_71 (Nat.le_of_ble_eq_true rfl) rfl ?_
                    refine go_goto (tgt := 25) dX3_find_74 (by decide) ?_
                    rw [show (m : Int) + 1 = ((m + 1 : Nat) : Int) by omega]
                    exact nxt
                  · skip
                    have hcl : clean R m := by rcases hx with z | z; exact z.2; omega
                    refine go_aload_n dX3_find_64 rfl ?_
                    refine go_iload dX3_find_65 rfl ?_
                    refine go_puti fl_X3_27 dX3_find_67 sh_109 rfl am_fit_int ?_
                    refine go_retV dX3_find_70 rfl ?_
                    have hpt : isPart R (m : Int) := Or.inr ⟨m, hlt, rfl, hcl, fun m' z1 z2 => by
                      by_cases e1 : mt_bc m' < c
                      · exact absurd z2 (hno m' z1 e1)
                      · by_cases e2 : mt_bc m' = c
                        · exact Or.inr ⟨by omega, Nat.le_of_not_lt (fun z3 => hno2 m' z3 e2 z2)⟩
                        · exact Or.inl (by omega)⟩
                    refine ⟨by rw [mt_part_eq hpt]; simp [am_si], ⟨⟨_, hold_si hz (by decide) (by decide)⟩, _, hold_si (hq3.1.off ho4 (by decide) (by decide)) (by decide) (by decide)⟩, (ho2.tr o34).tr (am_off_si (by decide))⟩
            · skip
              refine go_iload dX3_find_25 rfl ?_
              refine go_iload_n dX3_find_27 rfl ?_
              refine go_icmp_ge (tgt := 77) dX3_find_28 (by decide) (by unfold inR; omega) (by unfold inR; omega) (fun b28 => ?_) (fun b28 => ?_)
              · skip
                refine go_inc3 dX3_find_77 (Nat.le_of_ble_eq_true rfl) rfl ?_
                refine go_goto (tgt := 14) dX3_find_80 (by decide) ?_
                rw [show (c : Int) + 1 = ((c + 1 : Nat) : Int) by omega]
                exact ih (c + 1) σ2 _ (by omega) (by omega) hs2 hb2 ho2 (fun m' z1 z2 => by
                  by_cases e : mt_bc m' = c
                  · exact hno2 m' (by omega) e
                  · exact hno m' z1 (by omega))
              · skip
                exact absurd b28 (by omega)
        refine go_iload_n dX3_find_14 rfl ?_
        refine go_aload_n dX3_find_15 rfl ?_
        refine go_cvP0 (M2 := mX6_size) dX3_find_16 ml_X3_37 mv_X6_size sh_22 rfl rfl (Nat.le_of_ble_eq_true rfl) (by decide) (ev_X6_size h1) ?_
        refine go_icmp_gt (tgt := 83) dX3_find_19 (by decide) (by unfold inR; omega) (by unfold inR; omega) (fun b19 => ?_) (fun b19 => ?_)
        · skip
          exact absurd b19 (by omega)
        · skip
          refine go_iconst dX3_find_22 ?_
          refine go_ist4 dX3_find_23 (Nat.le_of_ble_eq_true rfl) rfl ?_
          exact inner (2 ^ R.length + 1) 0 σ1 (Nat.lt_succ_of_le (Nat.sub_le _ _)) (Nat.zero_le _) hs hb1 ho (fun m' z1 => absurd z1 (by omega))
      · skip
        refine go_iload_n dX3_find_14 rfl ?_
        refine go_aload_n dX3_find_15 rfl ?_
        refine go_cvP0 (M2 := mX6_size) dX3_find_16 ml_X3_37 mv_X6_size sh_22 rfl rfl (Nat.le_of_ble_eq_true rfl) (by decide) (ev_X6_size h1) ?_
        refine go_icmp_gt (tgt := 83) dX3_find_19 (by decide) (by unfold inR; omega) (by unfold inR; omega) (fun b19 => ?_) (fun b19 => ?_)
        · skip
          refine go_retV dX3_find_83 rfl ?_
          have hpt : isPart R (-1) := Or.inl ⟨rfl, fun m' z1 => hno m' z1 (by have := bc8 m' z1; omega)⟩
          exact ⟨by rw [mt_part_eq hpt]; exact hs, hb1, ho⟩
        · skip
          exact absurd b19 (by omega)
  obtain ⟨⟨y1, e1⟩, y2, e2⟩ := hb
  have h0 : rls (am_si σ 109 2 (-1)) L R mk := h.off (ks := [109]) (am_off_si (by decide)) (by decide)
  refine am_ev (by decide) [some (.ref 109), some (.ref 22), none, none, none] rfl (Nat.le_of_ble_eq_true rfl) ?_
  refine go_aload_n dX3_find_0 rfl ?_
  refine go_iconst dX3_find_1 ?_
  refine go_puti fl_X3_27 dX3_find_2 sh_109 rfl am_fit_int ?_
  refine go_iconst dX3_find_5 ?_
  refine go_aload_n dX3_find_6 rfl ?_
  refine go_cvP0 (M2 := mX6_size) dX3_find_7 ml_X3_37 mv_X6_size sh_22 rfl rfl (Nat.le_of_ble_eq_true rfl) (by decide) (ev_X6_size h0) ?_
  refine go_ishl dX3_find_10 ?_
  rw [hsh]
  refine go_ist2 dX3_find_11 (Nat.le_of_ble_eq_true rfl) rfl ?_
  refine go_iconst dX3_find_12 ?_
  refine go_ist3 dX3_find_13 (Nat.le_of_ble_eq_true rfl) rfl ?_
  exact outer (R.length + 2) 0 _ none (by omega) (by omega) (by simp [am_si]) ⟨⟨_, hold_si e1 (by decide) (by decide)⟩, _, hold_si e2 (by decide) (by decide)⟩ (am_off_si (by decide)) (fun m' z1 z2 => absurd (bc0 m' z1).1 (by omega))
theorem mt_part_bd {R : List (List Int)} (h8 : R.length ≤ 8) : mt_part R = -1 ∨ ∃ m : Nat, m < 256 ∧ mt_part R = (m : Int) := by
  have hp8 : 2 ^ R.length ≤ 2 ^ 8 := Nat.pow_le_pow_right (by decide) h8
  by_cases hex : ∃ x, isPart R x
  · obtain ⟨x, hx⟩ := hex
    rw [mt_part_eq hx]
    rcases hx with z | ⟨m, z1, z2, -⟩
    · exact Or.inl z.1
    · exact Or.inr ⟨m, by omega, z2⟩
  · unfold mt_part
    rw [dif_neg hex]
    exact Or.inl rfl
noncomputable def mt_pval (R : List (List Int)) (what : Int) : Int := if mt_part R = -1 then -1 else if what = 0 then mt_bc (mt_part R).toNat else mt_part R
theorem ev_X3_value {σ : am_St} {R : List (List Int)} {what : Int} (h8 : R.length ≤ 8) (h : σ.1 109 2 = mt_part R) (hw : inR what) : am_Ev SH mX3_value 1 [.ref 109, .int (iZ what)] σ (am_rI (fun x σ2 => x = mt_pval R what ∧ σ2 = σ)) := by
  have hbd := mt_part_bd h8
  have hR : inR (mt_part R) := by rcases hbd with z | ⟨m, z1, z2⟩ <;> unfold inR <;> omega
  refine am_ev (by decide) [some (.ref 109), some (.int (iZ (what)))] rfl (Nat.le_of_ble_eq_true rfl) ?_
  refine go_aload_n dX3_value_0 rfl ?_
  refine go_geti fl_X3_27 dX3_value_1 sh_109 rfl ?_
  rw [h]
  refine go_iconst dX3_value_4 ?_
  refine go_icmp_ne (tgt := 10) dX3_value_5 (by decide) hR (by unfold inR; omega) (fun b5 => ?_) (fun b5 => ?_)
  · skip
    obtain ⟨m, m1, m2⟩ : ∃ m : Nat, m < 256 ∧ mt_part R = (m : Int) := by rcases hbd with z | z; exact absurd z b5; exact z
    refine go_iload_n dX3_value_10 rfl ?_
    refine go_if_ne (tgt := 24) dX3_value_11 (by decide) hw (fun b11 => ?_) (fun b11 => ?_)
    · skip
      refine go_aload_n dX3_value_24 rfl ?_
      refine go_geti fl_X3_27 dX3_value_25 sh_109 rfl ?_
      refine go_retI dX3_value_28 rfl ?_
      refine ⟨?_, rfl⟩
      unfold mt_pval; rw [if_neg b5]
      first
        | (rw [if_neg b11, h])
        | (rw [if_pos b11, m2, Int.toNat_natCast])
    · skip
      refine go_aload_n dX3_value_14 rfl ?_
      refine go_geti fl_X3_27 dX3_value_15 sh_109 rfl ?_
      rw [h, m2]
      refine go_csP1 (M2 := mJ6_bitCount_0f7a4) dX3_value_18 ml_X3_31 ms_J6_bitCount_0f7a4 (Nat.le_of_ble_eq_true rfl) (by decide) (ev_J6_bitCount m1) ?_
      refine go_goto (tgt := 28) dX3_value_21 (by decide) ?_
      refine go_retI dX3_value_28 rfl ?_
      refine ⟨?_, rfl⟩
      unfold mt_pval; rw [if_neg b5]
      first
        | (rw [if_neg b11, h])
        | (rw [if_pos b11, m2, Int.toNat_natCast])
  · skip
    refine go_iconst dX3_value_8 ?_
    refine go_retI dX3_value_9 rfl ?_
    refine ⟨?_, rfl⟩
    unfold mt_pval; rw [if_pos b5]
