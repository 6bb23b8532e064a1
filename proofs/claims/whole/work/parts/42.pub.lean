/-! ===== the class: turn, text, mark, drop, rule, sign, ink, back, backAt, ways, first ===== -/
def isSm (c : Int) : Bool := decide (97 ≤ c ∧ c ≤ 122)
def isInk (c : Int) : Bool := decide ((65 ≤ c ∧ c ≤ 90) ∨ c = 39)
theorem ev_X10_onlySmall {σ : am_St} {k n : Nat} {xs : List Int} (h : hold σ k n xs) : am_Ev SH mX10_onlySmall 1 [.ref k] σ (am_rI (fun x σ2 => x = (if xs.all isSm = true then 1 else 0) ∧ σ2 = σ)) := by
  have h5 := h.2.2.2.2.1
  have h3 := h.2.2.1
  have loop : ∀ (m : Nat) (i : Nat), xs.length - i < m → i ≤ xs.length → (xs.take i).all isSm = true → am_Go SH mX10_onlySmall 1 (am_rI (fun x σ2 => x = (if xs.all isSm = true then 1 else 0) ∧ σ2 = σ)) 2 [some (.ref k), some (.int (iZ i))] [] σ := by
    intro m
    induction m with
    | zero => intro i hm; exact absurd hm (by omega)
    | succ m ih =>
      intro i hm hi hall
      refine go_iload_n dX10_onlySmall_2 rfl ?_
      refine go_aload_n dX10_onlySmall_3 rfl ?_
      refine go_cvP0 (M2 := mX1_size) dX10_onlySmall_4 ml_X10_83 mv_X1_size h.1 rfl rfl (Nat.le_of_ble_eq_true rfl) (by decide) (ev_X1_size h) ?_
      refine go_icmp_ge (tgt := 29) dX10_onlySmall_7 (by decide) (by unfold inR; omega) (by unfold inR; omega) (fun b7 => ?_) (fun b7 => ?_)
      · skip
        refine go_iconst dX10_onlySmall_29 ?_
        refine go_retZ dX10_onlySmall_30 rfl (by omega) ?_
        refine ⟨?_, rfl⟩
        rw [List.take_of_length_le (by omega)] at hall
        rw [if_pos hall]
      · skip
        refine go_aload_n dX10_onlySmall_10 rfl ?_
        refine go_iload_n dX10_onlySmall_11 rfl ?_
        refine go_cvP1 (M2 := mX1_at) dX10_onlySmall_12 ml_X10_148 mv_X1_at h.1 rfl rfl (Nat.le_of_ble_eq_true rfl) (by decide) (ev_X1_at h (by unfold inR; omega)) ?_
        have hlt : i < xs.length := by omega
        have ei : ln_at xs (i : Int) = xs[i] := ln_at_get (List.getElem?_eq_getElem hlt)
        rw [ei]
        refine go_csP1 (M2 := mX10_isSmall) dX10_onlySmall_15 ml_X10_254 ms_X10_isSmall (Nat.le_of_ble_eq_true rfl) (by decide) (ev_X10_isSmall (h.2.2.2.2.2.2 _ (List.getElem_mem hlt))) ?_
        refine go_if_ne (tgt := 23) dX10_onlySmall_18 (by decide) (by unfold inR; split <;> omega) (fun b18 => ?_) (fun b18 => ?_)
        · skip
          refine go_inc1 dX10_onlySmall_23 (Nat.le_of_ble_eq_true rfl) rfl ?_
          refine go_goto (tgt := 2) dX10_onlySmall_26 (by decide) ?_
          rw [show (i : Int) + 1 = ((i + 1 : Nat) : Int) by omega]
          refine ih (i + 1) (by omega) (by omega) ?_
          have hs : isSm xs[i] = true := by
            unfold isSm
            apply decide_eq_true
            apply Classical.byContradiction
            intro z
            rw [if_neg z] at b18
            exact b18 rfl
          rw [List.take_add_one, List.getElem?_eq_getElem hlt, List.all_append, hall]
          simp [hs]
        · skip
          refine go_iconst dX10_onlySmall_21 ?_
          refine go_retZ dX10_onlySmall_22 rfl (by omega) ?_
          refine ⟨?_, rfl⟩
          rw [if_neg]
          intro z
          have := List.all_eq_true.mp z _ (List.getElem_mem hlt)
          unfold isSm at this
          rw [if_pos (of_decide_eq_true this)] at b18
          omega
  refine am_ev (by decide) [some (.ref k), none] rfl (Nat.le_of_ble_eq_true rfl) ?_
  refine go_iconst dX10_onlySmall_0 ?_
  refine go_ist1 dX10_onlySmall_1 (Nat.le_of_ble_eq_true rfl) rfl ?_
  exact loop (xs.length + 1) 0 (by omega) (by omega) (by simp)
theorem ev_X10_onlyInk {σ : am_St} {k n : Nat} {xs : List Int} (h : hold σ k n xs) : am_Ev SH mX10_onlyInk 1 [.ref k] σ (am_rI (fun x σ2 => x = (if xs.all isInk = true then 1 else 0) ∧ σ2 = σ)) := by
  have h5 := h.2.2.2.2.1
  have h3 := h.2.2.1
  have loop : ∀ (m : Nat) (i : Nat) (w2 : Option Value), xs.length - i < m → i ≤ xs.length → (xs.take i).all isInk = true → am_Go SH mX10_onlyInk 1 (am_rI (fun x σ2 => x = (if xs.all isInk = true then 1 else 0) ∧ σ2 = σ)) 2 [some (.ref k), some (.int (iZ i)), w2] [] σ := by
    intro m
    induction m with
    | zero => intro i w2 hm; exact absurd hm (by omega)
    | succ m ih =>
      intro i w2 hm hi hall
      have nxt : ∀ (hlt : i < xs.length), isInk xs[i] = true → ∀ w2 : Option Value, am_Go SH mX10_onlyInk 1 (am_rI (fun x σ2 => x = (if xs.all isInk = true then 1 else 0) ∧ σ2 = σ)) 2 [some (.ref k), some (.int (iZ ((i : Int) + 1))), w2] [] σ := by
        intro hlt hs w2
        rw [show (i : Int) + 1 = ((i + 1 : Nat) : Int) by omega]
        refine ih (i + 1) w2 (by omega) (by omega) ?_
        rw [List.take_add_one, List.getElem?_eq_getElem hlt, List.all_append, hall]
        simp [hs]
      refine go_iload_n dX10_onlyInk_2 rfl ?_
      refine go_aload_n dX10_onlyInk_3 rfl ?_
      refine go_cvP0 (M2 := mX1_size) dX10_onlyInk_4 ml_X10_83 mv_X1_size h.1 rfl rfl (Nat.le_of_ble_eq_true rfl) (by decide) (ev_X1_size h) ?_
      refine go_icmp_ge (tgt := 37) dX10_onlyInk_7 (by decide) (by unfold inR; omega) (by unfold inR; omega) (fun b7 => ?_) (fun b7 => ?_)
      · skip
        refine go_iconst dX10_onlyInk_37 ?_
        refine go_retZ dX10_onlyInk_38 rfl (by omega) ?_
        refine ⟨?_, rfl⟩
        rw [List.take_of_length_le (by omega)] at hall
        rw [if_pos hall]
      · skip
        refine go_aload_n dX10_onlyInk_10 rfl ?_
        refine go_iload_n dX10_onlyInk_11 rfl ?_
        refine go_cvP1 (M2 := mX1_at) dX10_onlyInk_12 ml_X10_148 mv_X1_at h.1 rfl rfl (Nat.le_of_ble_eq_true rfl) (by decide) (ev_X1_at h (by unfold inR; omega)) ?_
        have hlt : i < xs.length := by omega
        have ei : ln_at xs (i : Int) = xs[i] := ln_at_get (List.getElem?_eq_getElem hlt)
        have eR := h.2.2.2.2.2.2 _ (List.getElem_mem hlt)
        rw [ei]
        refine go_ist2 dX10_onlyInk_15 (Nat.le_of_ble_eq_true rfl) rfl ?_
        refine go_iload_n dX10_onlyInk_16 rfl ?_
        refine go_csP1 (M2 := mX10_isCapital) dX10_onlyInk_17 ml_X10_257 ms_X10_isCapital (Nat.le_of_ble_eq_true rfl) (by decide) (ev_X10_isCapital eR) ?_
        refine go_if_ne (tgt := 31) dX10_onlyInk_20 (by decide) (by unfold inR; split <;> omega) (fun b20 => ?_) (fun b20 => ?_)
        · skip
          have hs : isInk xs[i] = true := by
            unfold isInk
            apply decide_eq_true
            apply Classical.byContradiction
            intro z
            rw [if_neg (fun z2 => z (Or.inl z2))] at b20
            exact b20 rfl
          refine go_inc1 dX10_onlyInk_31 (Nat.le_of_ble_eq_true rfl) rfl ?_
          refine go_goto (tgt := 2) dX10_onlyInk_34 (by decide) ?_
          exact nxt hlt hs _
        · skip
          refine go_iload_n dX10_onlyInk_23 rfl ?_
          refine go_bipush dX10_onlyInk_24 rfl ?_
          refine go_icmp_eq (tgt := 31) dX10_onlyInk_26 (by decide) eR (by unfold inR; omega) (fun b26 => ?_) (fun b26 => ?_)
          · skip
            have hs : isInk xs[i] = true := by unfold isInk; exact decide_eq_true (Or.inr b26)
            refine go_inc1 dX10_onlyInk_31 (Nat.le_of_ble_eq_true rfl) rfl ?_
            refine go_goto (tgt := 2) dX10_onlyInk_34 (by decide) ?_
            exact nxt hlt hs _
          · skip
            refine go_iconst dX10_onlyInk_29 ?_
            refine go_retZ dX10_onlyInk_30 rfl (by omega) ?_
            refine ⟨?_, rfl⟩
            rw [if_neg]
            intro z
            have := List.all_eq_true.mp z _ (List.getElem_mem hlt)
            unfold isInk at this
            rcases of_decide_eq_true this with z2 | z2
            · rw [if_pos z2] at b20; omega
            · exact b26 z2
  refine am_ev (by decide) [some (.ref k), none, none] rfl (Nat.le_of_ble_eq_true rfl) ?_
  refine go_iconst dX10_onlyInk_0 ?_
  refine go_ist1 dX10_onlyInk_1 (Nat.le_of_ble_eq_true rfl) rfl ?_
  exact loop (xs.length + 1) 0 none (by omega) (by omega) (by simp)
def m_turn (s : mS) : Int × mS :=
  if 12 < s.2.2.2.2.1.length ∨ ¬ s.2.2.2.2.1.all isSm = true then (-103, s)
  else if (mt_dec s.1 s.2.2.2.2.1.length s.2.2.2.2.1 0).2 < s.2.2.2.2.1.length then (-1000 - (mt_dec s.1 s.2.2.2.2.1.length s.2.2.2.2.1 0).2, s)
  else (((mt_dec s.1 s.2.2.2.2.1.length s.2.2.2.2.1 0).1.length : Int), (s.1, s.2.1, s.2.2.1, mt_spell (mt_sg s.2.1 s.2.2.1) (mt_dec s.1 s.2.2.2.2.1.length s.2.2.2.2.1 0).1, [], s.2.2.2.2.2.1, s.2.2.2.2.2.2.1 + 1, s.2.2.2.2.2.2.2))
def m_text (s : mS) : Int × mS := if ¬ s.2.2.2.2.1.all isInk = true then (-103, s) else ((s.2.2.2.2.1.length : Int), (s.1, s.2.1, s.2.2.1, s.2.2.2.2.1, [], s.2.2.2.2.2.1, s.2.2.2.2.2.2.1, s.2.2.2.2.2.2.2 + 1))
theorem okw_of {L : List (List Int)} (h : okr L) : okw L := fun l hl => ⟨(h l hl).1, by have := (h l hl).2.2; omega⟩
/-- the row's line alone was written -/
theorem RepC.row {σ σ' : am_St} {s : mS} {ys : List Int} (h : RepC σ s) (ho : am_off [33, 34] σ σ') (hp : hold σ' 33 56 ys) : RepC σ' s := by
  obtain ⟨h1, h2, h3, h4, h5, h6, ⟨k1, k2, k3, k4, k5⟩, h8⟩ := h
  have o21 := (ho 21 (by decide)).1
  obtain ⟨⟨y2, a2⟩, y3, a3⟩ := k2
  obtain ⟨⟨y4, a4⟩, ⟨y5, a5⟩, ⟨y6, a6⟩, ⟨y7, a7⟩, a8, y9, a9⟩ := k3
  obtain ⟨⟨y10, a10⟩, y11, a11⟩ := k4
  obtain ⟨⟨y12, a12⟩, ⟨y13, a13⟩, y14, a14⟩ := k5
  refine ⟨h1.off ho (by decide), h2.off ho (by decide) (by decide), h3.off ho (by decide) (by decide), (o21 11).trans h4, (o21 12).trans h5, (o21 13).trans h6, ⟨⟨_, hp⟩, ⟨⟨y2, a2.off ho (by decide) (by decide)⟩, y3, a3.off ho (by decide) (by decide)⟩, ⟨⟨y4, a4.off ho (by decide) (by decide)⟩, ⟨y5, a5.off ho (by decide) (by decide)⟩, ⟨y6, a6.off ho (by decide) (by decide)⟩, ⟨y7, a7.off ho (by decide) (by decide)⟩, fun i hi => by obtain ⟨ys, hy⟩ := a8 i hi; exact ⟨ys, hy.off ho (by simp; omega) (by simp; omega)⟩, y9, a9.off ho (by decide) (by decide)⟩, ⟨⟨y10, a10.off ho (by decide) (by decide)⟩, y11, a11.off ho (by decide) (by decide)⟩, ⟨y12, a12.off ho (by decide) (by decide)⟩, ⟨y13, a13.off ho (by decide) (by decide)⟩, y14, a14.off ho (by decide) (by decide)⟩, h8.off ho (by decide)⟩
theorem RepC.fld {σ : am_St} {s : mS} (h : RepC σ s) (j : Nat) (v : Int) (hj : j = 11 ∨ j = 12 ∨ j = 13) : RepC (am_si σ 21 j v) (s.1, s.2.1, s.2.2.1, s.2.2.2.1, s.2.2.2.2.1, if j = 11 then v else s.2.2.2.2.2.1, if j = 12 then v else s.2.2.2.2.2.2.1, if j = 13 then v else s.2.2.2.2.2.2.2) := by
  obtain ⟨h1, h2, h3, h4, h5, h6, h7, h8⟩ := h
  have ho : am_off [21] σ (am_si σ 21 j v) := am_off_si (by decide)
  refine ⟨h1.off ho (by decide), h2.off ho (by decide) (by decide), h3.off ho (by decide) (by decide), ?_, ?_, ?_, h7.off ho (by decide), ?_, ?_⟩
  · rcases hj with rfl | rfl | rfl <;> simp [am_si, h4]
  · rcases hj with rfl | rfl | rfl <;> simp [am_si, h5]
  · rcases hj with rfl | rfl | rfl <;> simp [am_si, h6]
  · rcases h8.1 with z | ⟨z1, z2⟩
    · exact Or.inl (by rcases hj with rfl | rfl | rfl <;> simp [am_si, z])
    · exact Or.inr ⟨by rcases hj with rfl | rfl | rfl <;> simp [am_si, z1], z2.off ho (by decide)⟩
  · rcases h8.2 with z | ⟨z1, z2⟩
    · exact Or.inl (by rcases hj with rfl | rfl | rfl <;> simp [am_si, z])
    · exact Or.inr ⟨by rcases hj with rfl | rfl | rfl <;> simp [am_si, z1], by rw [← z2]; rcases hj with rfl | rfl | rfl <;> simp [am_si]⟩
theorem ev_X10_turn {σ : am_St} {s : mS} (h : RepC σ s) : am_Ev SH mX10_turn 4 [.ref 21] σ (am_rI (fun x σ2 => x = (m_turn s).1 ∧ RepC σ2 (m_turn s).2 ∧ am_off XL σ σ2)) := by
  have hrep := h
  obtain ⟨h1, h2, h3, h4, h5, h6, ⟨⟨y1, k1⟩, k2⟩, h8⟩ := h
  have ht := h1.2.2.2.2
  have h56 := h3.2.2.2.2.1
  have hok := okw_sg ht.2.2.2.2 s.2.2.1
  generalize hP : s.2.2.2.2.1 = pg at h3 h56
  generalize hD : mt_dec s.1 pg.length pg 0 = Dc
  have hend := mt_dec_end s.1 pg.length pg 0
  have hlen := mt_len s.1 pg.length pg 0
  rw [hD] at hend hlen
  have hm : m_turn s = if 12 < pg.length ∨ ¬ pg.all isSm = true then (-103, s) else if Dc.2 < pg.length then (-1000 - Dc.2, s) else ((Dc.1.length : Int), (s.1, s.2.1, s.2.2.1, mt_spell (mt_sg s.2.1 s.2.2.1) Dc.1, [], s.2.2.2.2.2.1, s.2.2.2.2.2.2.1 + 1, s.2.2.2.2.2.2.2)) := by
    unfold m_turn; rw [hP, hD]
  rw [hm]
  refine am_ev (by decide) [some (.ref 21), none] rfl (Nat.le_of_ble_eq_true rfl) ?_
  refine go_aload_n dX10_turn_0 rfl ?_
  refine go_getr fl_X10_21 dX10_turn_1 sh_21 rfl ?_
  refine go_cvP0 (M2 := mX1_size) dX10_turn_4 ml_X10_83 mv_X1_size h3.1 rfl rfl (Nat.le_of_ble_eq_true rfl) (by decide) (ev_X1_size h3) ?_
  refine go_bipush dX10_turn_7 rfl ?_
  refine go_icmp_gt (tgt := 22) dX10_turn_9 (by decide) (by unfold inR; omega) (by unfold inR; omega) (fun b9 => ?_) (fun b9 => ?_)
  · skip
    refine go_bipush dX10_turn_22 rfl ?_
    refine go_retI dX10_turn_24 rfl ?_
    rw [if_pos]
    · exact ⟨rfl, hrep, am_off.rf⟩
    · first | exact Or.inl (by omega) | exact Or.inr (fun z => by rw [if_pos z] at b19; omega)
  · skip
    refine go_aload_n dX10_turn_12 rfl ?_
    refine go_getr fl_X10_21 dX10_turn_13 sh_21 rfl ?_
    refine go_csP1 (M2 := mX10_onlySmall) dX10_turn_16 ml_X10_115 ms_X10_onlySmall (Nat.le_of_ble_eq_true rfl) (by decide) (ev_X10_onlySmall h3) ?_
    refine go_if_ne (tgt := 25) dX10_turn_19 (by decide) (by unfold inR; split <;> omega) (fun b19 => ?_) (fun b19 => ?_)
    · skip
      have hall : pg.all isSm = true := by
        apply Classical.byContradiction
        intro z
        rw [if_neg z] at b19
        exact b19 rfl
      refine go_aload_n dX10_turn_25 rfl ?_
      refine go_getr fl_X10_10 dX10_turn_26 sh_21 rfl ?_
      refine go_getr fl_X10_118 dX10_turn_29 sh_22 rfl ?_
      refine go_aload_n dX10_turn_32 rfl ?_
      refine go_getr fl_X10_21 dX10_turn_33 sh_21 rfl ?_
      refine go_aload_n dX10_turn_36 rfl ?_
      refine go_getr fl_X10_28 dX10_turn_37 sh_21 rfl ?_
      refine go_csI3 (M2 := mX2_decode) dX10_turn_40 ml_X10_119 ms_X2_decode (Nat.le_of_ble_eq_true rfl) (by decide) (ev_X2_decode h1.1 h3 k1 (okw_of ht.2.2.2.1) (by have := ht.1; have := ht.2.1; omega) (by decide) (by omega) (by decide) (by decide)) (fun x σ1 hq1 => ?_)
      rw [hD] at hq1
      obtain ⟨rfl, hq1, hq2⟩ := hq1
      have rep1 := hrep.row hq2 hq1
      refine go_ist1 dX10_turn_43 (Nat.le_of_ble_eq_true rfl) rfl ?_
      refine go_iload_n dX10_turn_44 rfl ?_
      refine go_aload_n dX10_turn_45 rfl ?_
      refine go_getr fl_X10_21 dX10_turn_46 sh_21 rfl ?_
      refine go_cvP0 (M2 := mX1_size) dX10_turn_49 ml_X10_83 mv_X1_size h3.1 rfl rfl (Nat.le_of_ble_eq_true rfl) (by decide) (ev_X1_size (h3.off hq2 (by decide) (by decide))) ?_
      refine go_icmp_ge (tgt := 61) dX10_turn_52 (by decide) (by unfold inR; omega) (by unfold inR; omega) (fun b52 => ?_) (fun b52 => ?_)
      · skip
        refine go_aload_n dX10_turn_61 rfl ?_
        refine go_getr fl_X10_10 dX10_turn_62 sh_21 rfl ?_
        refine go_aload_n dX10_turn_65 rfl ?_
        refine go_getr fl_X10_28 dX10_turn_66 sh_21 rfl ?_
        refine go_aload_n dX10_turn_69 rfl ?_
        refine go_getr fl_X10_25 dX10_turn_70 sh_21 rfl ?_
        refine go_cvV2 (M2 := mX6_spell) dX10_turn_73 ml_X10_125 mv_X6_spell sh_22 rfl rfl (Nat.le_of_ble_eq_true rfl) (by decide) (ev_X6_spell (h1.off hq2 (by decide)) hq1 (h2.off hq2 (by decide) (by decide)) (fun r hr => by have := hlen.2 r hr; have := ht.1; omega) (by have := mt_spell_len hok.1 Dc.1; have := hlen.1; omega) (by decide) (by decide)) (fun σ2 hq3 => ?_)
        refine go_aload_n dX10_turn_76 rfl ?_
        refine go_getr fl_X10_21 dX10_turn_77 sh_21 rfl ?_
        refine go_cvV0 (M2 := mX1_clear) dX10_turn_80 ml_X10_90 mv_X1_clear h3.1 rfl rfl (Nat.le_of_ble_eq_true rfl) (by decide) (ev_X1_clear ((h3.off hq2 (by decide) (by decide)).off hq3.2 (by decide) (by decide))) (fun σ3 hq4 => ?_)
        refine go_aload_n dX10_turn_83 rfl ?_
        refine go_dup dX10_turn_84 rfl ?_
        refine go_geti fl_X10_77 dX10_turn_85 sh_21 rfl ?_
        refine go_iconst dX10_turn_88 ?_
        refine go_iadd dX10_turn_89 ?_
        refine go_puti fl_X10_77 dX10_turn_90 sh_21 rfl am_fit_int ?_
        refine go_aload_n dX10_turn_93 rfl ?_
        refine go_getr fl_X10_28 dX10_turn_94 sh_21 rfl ?_
        refine go_cvP0 (M2 := mX1_size) dX10_turn_97 ml_X10_83 mv_X1_size k1.1 rfl rfl (Nat.le_of_ble_eq_true rfl) (by decide) (ev_X1_size (hold_si ((hq1.off hq3.2 (by decide) (by decide)).off hq4.2 (by decide) (by decide)) (by decide) (by decide))) ?_
        refine go_retI dX10_turn_100 rfl ?_
        rw [if_neg (fun z => by rcases z with z | z; omega; exact z hall), if_neg (by omega)]
        have oA : am_off [29, 30, 31, 32, 33, 34] σ σ3 := ((hq2.wk (by decide)).tr (hq3.2.wk (by decide))).tr (hq4.2.wk (by decide))
        have f3 : ∀ j, σ3.1 21 j = σ.1 21 j := (oA 21 (by decide)).1
        have xb3 : xB σ3 := rep1.2.2.2.2.2.2.1.off ((hq3.2.wk (ks' := [29, 30, 31, 32]) (by decide)).tr (hq4.2.wk (by decide))) (by decide)
        have rep3 : RepC σ3 (s.1, s.2.1, s.2.2.1, mt_spell (mt_sg s.2.1 s.2.2.1) Dc.1, [], s.2.2.2.2.2) := ⟨h1.off oA (by decide), hq3.1.off hq4.2 (by decide) (by decide), hq4.1, (f3 11).trans h4, (f3 12).trans h5, (f3 13).trans h6, xb3, h8.off oA (by decide)⟩
        refine ⟨rfl, ?_, (XL_of oA (by decide)).tr (XL_of (ks := [21]) (am_off_si (by decide)) (by decide))⟩
        have := rep3.fld 12 (σ3.1 21 12 + 1) (by decide)
        simp at this
        rw [f3, h5] at this
        rw [f3, h5]
        exact this
      · skip
        refine go_sipush dX10_turn_55 rfl ?_
        refine go_iload_n dX10_turn_58 rfl ?_
        refine go_isub dX10_turn_59 ?_
        refine go_retI dX10_turn_60 rfl ?_
        rw [if_neg (fun z => by rcases z with z | z; omega; exact z hall), if_pos (by omega)]
        exact ⟨rfl, rep1, XL_of hq2 (by decide)⟩
    · skip
      refine go_bipush dX10_turn_22 rfl ?_
      refine go_retI dX10_turn_24 rfl ?_
      rw [if_pos]
      · exact ⟨rfl, hrep, am_off.rf⟩
      · first | exact Or.inl (by omega) | exact Or.inr (fun z => by rw [if_pos z] at b19; omega)
theorem ev_X10_text {σ : am_St} {s : mS} (h : RepC σ s) : am_Ev SH mX10_text 2 [.ref 21] σ (am_rI (fun x σ2 => x = (m_text s).1 ∧ RepC σ2 (m_text s).2 ∧ am_off XL σ σ2)) := by
  have hrep := h
  obtain ⟨h1, h2, h3, h4, h5, h6, h7, h8⟩ := h
  have h56 := h3.2.2.2.2.1
  refine am_ev (by decide) [some (.ref 21)] rfl (Nat.le_of_ble_eq_true rfl) ?_
  refine go_aload_n dX10_text_0 rfl ?_
  refine go_getr fl_X10_21 dX10_text_1 sh_21 rfl ?_
  refine go_csP1 (M2 := mX10_onlyInk) dX10_text_4 ml_X10_128 ms_X10_onlyInk (Nat.le_of_ble_eq_true rfl) (by decide) (ev_X10_onlyInk h3) ?_
  refine go_if_ne (tgt := 13) dX10_text_7 (by decide) (by unfold inR; split <;> omega) (fun b7 => ?_) (fun b7 => ?_)
  · skip
    have hall : s.2.2.2.2.1.all isInk = true := by
      apply Classical.byContradiction
      intro z
      rw [if_neg z] at b7
      exact b7 rfl
    refine go_aload_n dX10_text_13 rfl ?_
    refine go_getr fl_X10_25 dX10_text_14 sh_21 rfl ?_
    refine go_aload_n dX10_text_17 rfl ?_
    refine go_getr fl_X10_21 dX10_text_18 sh_21 rfl ?_
    refine go_cvV1 (M2 := mX1_copy) dX10_text_21 ml_X10_131 mv_X1_copy h2.1 rfl rfl (Nat.le_of_ble_eq_true rfl) (by decide) (ev_X1_copy h2 h3 h56 (by decide) (by decide) (by decide)) (fun σ1 hq1 => ?_)
    refine go_aload_n dX10_text_24 rfl ?_
    refine go_getr fl_X10_21 dX10_text_25 sh_21 rfl ?_
    refine go_cvV0 (M2 := mX1_clear) dX10_text_28 ml_X10_90 mv_X1_clear h3.1 rfl rfl (Nat.le_of_ble_eq_true rfl) (by decide) (ev_X1_clear (h3.off hq1.2 (by decide) (by decide))) (fun σ2 hq2 => ?_)
    refine go_aload_n dX10_text_31 rfl ?_
    refine go_dup dX10_text_32 rfl ?_
    refine go_geti fl_X10_80 dX10_text_33 sh_21 rfl ?_
    refine go_iconst dX10_text_36 ?_
    refine go_iadd dX10_text_37 ?_
    refine go_puti fl_X10_80 dX10_text_38 sh_21 rfl am_fit_int ?_
    refine go_aload_n dX10_text_41 rfl ?_
    refine go_getr fl_X10_25 dX10_text_42 sh_21 rfl ?_
    refine go_cvP0 (M2 := mX1_size) dX10_text_45 ml_X10_83 mv_X1_size h2.1 rfl rfl (Nat.le_of_ble_eq_true rfl) (by decide) (ev_X1_size (hold_si (hq1.1.off hq2.2 (by decide) (by decide)) (by decide) (by decide))) ?_
    refine go_retI dX10_text_48 rfl ?_
    unfold m_text
    rw [if_neg (fun z => z hall)]
    have oA : am_off [29, 30, 31, 32] σ σ2 := (hq1.2.wk (by decide)).tr (hq2.2.wk (by decide))
    have f3 : ∀ j, σ2.1 21 j = σ.1 21 j := (oA 21 (by decide)).1
    have rep3 : RepC σ2 (s.1, s.2.1, s.2.2.1, s.2.2.2.2.1, [], s.2.2.2.2.2) := ⟨h1.off oA (by decide), hq1.1.off hq2.2 (by decide) (by decide), hq2.1, (f3 11).trans h4, (f3 12).trans h5, (f3 13).trans h6, h7.off oA (by decide), h8.off oA (by decide)⟩
    refine ⟨rfl, ?_, (XL_of oA (by decide)).tr (XL_of (ks := [21]) (am_off_si (by decide)) (by decide))⟩
    have := rep3.fld 13 (σ2.1 21 13 + 1) (by decide)
    simp at this
    rw [f3, h6] at this
    rw [f3, h6]
    exact this
  · skip
    refine go_bipush dX10_text_10 rfl ?_
    refine go_retI dX10_text_12 rfl ?_
    unfold m_text
    rw [if_pos (fun z => by rw [if_pos z] at b7; omega)]
    exact ⟨rfl, hrep, am_off.rf⟩
