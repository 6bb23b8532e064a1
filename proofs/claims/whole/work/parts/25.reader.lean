/-! ===== reading a page as a table: the mathematics, and the class's Reader ===== -/
abbrev rd_S : Type := List (List Int) × List (List Int) × List Int × List Int
/-- a further character: the rules that are whole, and the sides of the one that has begun; none: no table has it here -/
def rd_take (s : rd_S) (c : Int) : Option rd_S :=
  if 97 ≤ c ∧ c ≤ 122 then (if s.2.2.2 = [] ∧ s.2.2.1.length < 3 then some (s.1, s.2.1, s.2.2.1 ++ [c], s.2.2.2) else none)
  else if 65 ≤ c ∧ c ≤ 90 then (if s.2.2.1 ≠ [] ∧ s.2.2.2.length < 3 ∧ (s.2.2.2 ≠ [] ∨ s.2.2.1 ∉ s.1) then some (s.1, s.2.1, s.2.2.1, s.2.2.2 ++ [c]) else none)
  else if c = 44 then (if s.2.2.2 ≠ [] ∧ s.1.length + 1 < 8 then some (s.1 ++ [s.2.2.1], s.2.1 ++ [s.2.2.2], [], []) else none)
  else none
/-- how many characters are read, and what has been read -/
def rd_run : List Int → rd_S → Nat × rd_S
  | [], s => (0, s)
  | c :: t, s => match rd_take s c with
    | none => (0, s)
    | some s' => ((rd_run t s').1 + 1, (rd_run t s').2)
def rd_ok (s : rd_S) : Prop := s.1.length = s.2.1.length ∧ s.1.length < 8 ∧ okr s.1 ∧ okr s.2.1 ∧ okl s.2.2.1 ∧ s.2.2.1.length ≤ 3 ∧ okl s.2.2.2 ∧ s.2.2.2.length ≤ 3 ∧ (s.2.2.2 ≠ [] → s.2.2.1 ≠ [])
theorem okr_snoc {L : List (List Int)} {l : List Int} (h : okr L) (h1 : okl l) (h2 : l ≠ []) (h3 : l.length ≤ 3) : okr (L ++ [l]) := by
  intro x hx
  rcases List.mem_append.mp hx with hx | hx
  · exact h x hx
  · simp at hx; subst hx; exact ⟨h1, List.length_pos_iff.mpr h2, h3⟩
theorem okl_snoc {l : List Int} {c : Int} (h : okl l) (hc : okc c) : okl (l ++ [c]) := okl_app.mpr ⟨h, fun x hx => by simp at hx; rw [hx]; exact hc⟩
theorem rd_take_ok {s s' : rd_S} {c : Int} (h : rd_ok s) (e : rd_take s c = some s') : rd_ok s' := by
  obtain ⟨h1, h2, h3, h4, h5, h6, h7, h8, h9⟩ := h
  unfold rd_take at e
  split at e
  · rename_i hc
    split at e
    · rename_i q
      cases e
      exact ⟨h1, h2, h3, h4, okl_snoc h5 (by unfold okc; omega), by simp; omega, h7, h8, fun _ => by simp⟩
    · cases e
  · split at e
    · rename_i hc
      split at e
      · rename_i q
        cases e
        exact ⟨h1, h2, h3, h4, h5, h6, okl_snoc h7 (by unfold okc; omega), by simp; omega, fun _ => q.1⟩
      · cases e
    · split at e
      · split at e
        · rename_i q
          cases e
          exact ⟨by simp [h1], by simp; omega, okr_snoc h3 h5 (h9 q.1) h6, okr_snoc h4 h7 q.1 h8, fun c hc => by simp at hc, by simp, fun c hc => by simp at hc, by simp, fun q => absurd rfl q⟩
        · cases e
      · cases e
/-- the class's Reader (the cell 35) has read s -/
def rdr (σ : am_St) (s : rd_S) : Prop := hold σ 36 8 (s.1.map enc) ∧ hold σ 38 8 (s.2.1.map enc) ∧ σ.1 35 2 = enc s.2.2.1 ∧ σ.1 35 3 = enc s.2.2.2 ∧ rd_ok s
theorem enc_nil_iff {l : List Int} (h : okl l) : enc l = 1 ↔ l = [] := by
  have := encN_inj (b := []) h (fun c hc => by simp at hc)
  rw [encN_nil] at this
  rw [← this]
  unfold enc
  omega
theorem ev_X10_isSmall {σ : am_St} {c : Int} (hc : inR c) : am_Ev SH mX10_isSmall 0 [.int (iZ c)] σ (am_rI (fun x σ2 => x = (if 97 ≤ c ∧ c ≤ 122 then 1 else 0) ∧ σ2 = σ)) := by
  refine am_ev (by decide) [some (.int (iZ (c)))] rfl (Nat.le_of_ble_eq_true rfl) ?_
  refine go_iload_n dX10_isSmall_0 rfl ?_
  refine go_bipush dX10_isSmall_1 rfl ?_
  refine go_icmp_lt (tgt := 16) dX10_isSmall_3 (by decide) hc (by unfold inR; omega) (fun b3 => ?_) (fun b3 => ?_)
  · skip
    refine go_iconst dX10_isSmall_16 ?_
    refine go_retZ dX10_isSmall_17 rfl (by omega) ?_
    refine ⟨?_, rfl⟩
    split <;> omega
  · skip
    refine go_iload_n dX10_isSmall_6 rfl ?_
    refine go_bipush dX10_isSmall_7 rfl ?_
    refine go_icmp_gt (tgt := 16) dX10_isSmall_9 (by decide) hc (by unfold inR; omega) (fun b9 => ?_) (fun b9 => ?_)
    · skip
      refine go_iconst dX10_isSmall_16 ?_
      refine go_retZ dX10_isSmall_17 rfl (by omega) ?_
      refine ⟨?_, rfl⟩
      split <;> omega
    · skip
      refine go_iconst dX10_isSmall_12 ?_
      refine go_goto (tgt := 17) dX10_isSmall_13 (by decide) ?_
      refine go_retZ dX10_isSmall_17 rfl (by omega) ?_
      refine ⟨?_, rfl⟩
      split <;> omega
theorem ev_X10_isCapital {σ : am_St} {c : Int} (hc : inR c) : am_Ev SH mX10_isCapital 0 [.int (iZ c)] σ (am_rI (fun x σ2 => x = (if 65 ≤ c ∧ c ≤ 90 then 1 else 0) ∧ σ2 = σ)) := by
  refine am_ev (by decide) [some (.int (iZ (c)))] rfl (Nat.le_of_ble_eq_true rfl) ?_
  refine go_iload_n dX10_isCapital_0 rfl ?_
  refine go_bipush dX10_isCapital_1 rfl ?_
  refine go_icmp_lt (tgt := 16) dX10_isCapital_3 (by decide) hc (by unfold inR; omega) (fun b3 => ?_) (fun b3 => ?_)
  · skip
    refine go_iconst dX10_isCapital_16 ?_
    refine go_retZ dX10_isCapital_17 rfl (by omega) ?_
    refine ⟨?_, rfl⟩
    split <;> omega
  · skip
    refine go_iload_n dX10_isCapital_6 rfl ?_
    refine go_bipush dX10_isCapital_7 rfl ?_
    refine go_icmp_gt (tgt := 16) dX10_isCapital_9 (by decide) hc (by unfold inR; omega) (fun b9 => ?_) (fun b9 => ?_)
    · skip
      refine go_iconst dX10_isCapital_16 ?_
      refine go_retZ dX10_isCapital_17 rfl (by omega) ?_
      refine ⟨?_, rfl⟩
      split <;> omega
    · skip
      refine go_iconst dX10_isCapital_12 ?_
      refine go_goto (tgt := 17) dX10_isCapital_13 (by decide) ?_
      refine go_retZ dX10_isCapital_17 rfl (by omega) ?_
      refine ⟨?_, rfl⟩
      split <;> omega
theorem ev_X4_endRule {σ : am_St} {s : rd_S} (h : rdr σ s) : am_Ev SH mX4_endRule 1 [.ref 35] σ (am_rV (fun σ2 => hold σ2 36 8 ((s.1 ++ [s.2.2.1]).map enc) ∧ hold σ2 38 8 ((s.2.1 ++ [s.2.2.2]).map enc) ∧ σ2.1 35 2 = 1 ∧ σ2.1 35 3 = 1 ∧ am_off [35, 36, 37, 38, 39] σ σ2)) := by
  obtain ⟨h1, h2, h3, h4, o1, o2, o3, o4, o5, o6, o7, o8, o9⟩ := h
  refine am_ev (by decide) [some (.ref 35)] rfl (Nat.le_of_ble_eq_true rfl) ?_
  refine go_aload_n dX4_endRule_0 rfl ?_
  refine go_getr fl_X4_14 dX4_endRule_1 sh_35 rfl ?_
  refine go_aload_n dX4_endRule_4 rfl ?_
  refine go_geti fl_X4_25 dX4_endRule_5 sh_35 rfl ?_
  rw [h3]
  refine go_cvV1 (M2 := mX1_add) dX4_endRule_8 ml_X4_79 mv_X1_add h1.1 rfl rfl (Nat.le_of_ble_eq_true rfl) (by decide) (ev_X1_add h1 (enc_inR o5 (by omega)) (by simp; omega)) (fun σ1 hq1 => ?_)
  refine go_aload_n dX4_endRule_11 rfl ?_
  refine go_getr fl_X4_20 dX4_endRule_12 sh_35 rfl ?_
  refine go_aload_n dX4_endRule_15 rfl ?_
  refine go_geti fl_X4_29 dX4_endRule_16 sh_35 rfl ?_
  rw [(hq1.2 35 (by decide)).1, h4]
  refine go_cvV1 (M2 := mX1_add) dX4_endRule_19 ml_X4_79 mv_X1_add h2.1 rfl rfl (Nat.le_of_ble_eq_true rfl) (by decide) (ev_X1_add (h2.off hq1.2 (by decide) (by decide)) (enc_inR o7 (by omega)) (by simp; omega)) (fun σ2 hq2 => ?_)
  refine go_aload_n dX4_endRule_22 rfl ?_
  refine go_iconst dX4_endRule_23 ?_
  refine go_puti fl_X4_25 dX4_endRule_24 sh_35 rfl am_fit_int ?_
  refine go_aload_n dX4_endRule_27 rfl ?_
  refine go_iconst dX4_endRule_28 ?_
  refine go_puti fl_X4_29 dX4_endRule_29 sh_35 rfl am_fit_int ?_
  refine go_retV dX4_endRule_32 rfl ?_
  have a1 := hold_si (a := 35) (j := 3) (v := 1) (hold_si (a := 35) (j := 2) (v := 1) (hq1.1.off hq2.2 (by decide) (by decide)) (by decide) (by decide)) (by decide) (by decide)
  have a2 := hold_si (a := 35) (j := 3) (v := 1) (hold_si (a := 35) (j := 2) (v := 1) hq2.1 (by decide) (by decide)) (by decide) (by decide)
  refine ⟨by rw [List.map_append]; exact a1, by rw [List.map_append]; exact a2, by simp [am_si], by simp [am_si], ?_⟩
  exact (((hq1.2.wk (by decide)).tr (hq2.2.wk (by decide))).tr (am_off_si (by decide))).tr (am_off_si (by decide))
theorem ev_X4_takesSmall {σ : am_St} {s : rd_S} {c : Int} (h : rdr σ s) (hc : 97 ≤ c ∧ c ≤ 122) : am_Ev SH mX4_takesSmall 1 [.ref 35, .int (iZ c)] σ (am_rI (fun x σ2 => (x = 0 ∧ rd_take s c = none ∧ σ2 = σ) ∨ (x = 1 ∧ ∃ s', rd_take s c = some s' ∧ rdr σ2 s' ∧ am_off [35, 36, 37, 38, 39] σ σ2))) := by
  have hall := h
  obtain ⟨h1, h2, h3, h4, hok⟩ := h
  have hok' := hok
  obtain ⟨o1, o2, o3, o4, o5, o6, o7, o8, o9⟩ := hok
  have el := enc_inR o5 (by omega)
  have er := enc_inR o7 (by omega)
  have en := enc_nil_iff o7
  have ek : rd_take s c = if s.2.2.2 = [] ∧ s.2.2.1.length < 3 then some (s.1, s.2.1, s.2.2.1 ++ [c], s.2.2.2) else none := by unfold rd_take; rw [if_pos hc]
  refine am_ev (by decide) [some (.ref 35), some (.int (iZ (c)))] rfl (Nat.le_of_ble_eq_true rfl) ?_
  refine go_aload_n dX4_takesSmall_0 rfl ?_
  refine go_geti fl_X4_29 dX4_takesSmall_1 sh_35 rfl ?_
  rw [h4]
  refine go_iconst dX4_takesSmall_4 ?_
  refine go_icmp_ne (tgt := 19) dX4_takesSmall_5 (by decide) er (by unfold inR; omega) (fun b5 => ?_) (fun b5 => ?_)
  · skip
    refine go_iconst dX4_takesSmall_19 ?_
    refine go_retZ dX4_takesSmall_20 rfl (by omega) ?_
    refine Or.inl ⟨rfl, ?_, rfl⟩
    rw [ek, if_neg]
    first | exact fun q => b5 (en.mpr q.1) | exact fun q => b16 (by omega)
  · skip
    refine go_aload_n dX4_takesSmall_8 rfl ?_
    refine go_geti fl_X4_25 dX4_takesSmall_9 sh_35 rfl ?_
    rw [h3]
    refine go_csP1 (M2 := mX9_size) dX4_takesSmall_12 ml_X4_70 ms_X9_size (Nat.le_of_ble_eq_true rfl) (by decide) (ev_X9_size el) ?_
    rw [wd_sz_enc o5 (by omega)]
    refine go_iconst dX4_takesSmall_15 ?_
    refine go_icmp_lt (tgt := 21) dX4_takesSmall_16 (by decide) (by unfold inR; omega) (by unfold inR; omega) (fun b16 => ?_) (fun b16 => ?_)
    · skip
      refine go_aload_n dX4_takesSmall_21 rfl ?_
      refine go_aload_n dX4_takesSmall_22 rfl ?_
      refine go_geti fl_X4_25 dX4_takesSmall_23 sh_35 rfl ?_
      rw [h3]
      refine go_iload_n dX4_takesSmall_26 rfl ?_
      refine go_csP2 (M2 := mX9_append) dX4_takesSmall_27 ml_X4_72 ms_X9_append (Nat.le_of_ble_eq_true rfl) (by decide) (ev_X9_append) ?_
      rw [wd_ap_enc o5 (by unfold okc; omega) o6]
      refine go_puti fl_X4_25 dX4_takesSmall_30 sh_35 rfl am_fit_int ?_
      refine go_iconst dX4_takesSmall_33 ?_
      refine go_retZ dX4_takesSmall_34 rfl (by omega) ?_
      have ek2 : rd_take s c = some (s.1, s.2.1, s.2.2.1 ++ [c], s.2.2.2) := by rw [ek, if_pos ⟨en.mp b5, by omega⟩]
      refine Or.inr ⟨rfl, _, ek2, ⟨hold_si h1 (by decide) (by decide), hold_si h2 (by decide) (by decide), by simp [am_si], by simp [am_si]; exact h4, rd_take_ok hok' ek2⟩, am_off_si (by decide)⟩
    · skip
      refine go_iconst dX4_takesSmall_19 ?_
      refine go_retZ dX4_takesSmall_20 rfl (by omega) ?_
      refine Or.inl ⟨rfl, ?_, rfl⟩
      rw [ek, if_neg]
      first | exact fun q => b5 (en.mpr q.1) | exact fun q => b16 (by omega)
theorem enc_mem {L : List (List Int)} {l : List Int} (h : okr L) (hl : okl l) : enc l ∈ L.map enc ↔ l ∈ L := by
  rw [List.mem_map]
  constructor
  · rintro ⟨x, hx, e⟩
    have : encN x = encN l := by unfold enc at e; omega
    rw [← (encN_inj (h x hx).1 hl).mp this]
    exact hx
  · intro hx; exact ⟨l, hx, rfl⟩
theorem ev_X4_takesCapital {σ : am_St} {s : rd_S} {c : Int} (h : rdr σ s) (hc : 65 ≤ c ∧ c ≤ 90) : am_Ev SH mX4_takesCapital 1 [.ref 35, .int (iZ c)] σ (am_rI (fun x σ2 => (x = 0 ∧ rd_take s c = none ∧ σ2 = σ) ∨ (x = 1 ∧ ∃ s', rd_take s c = some s' ∧ rdr σ2 s' ∧ am_off [35, 36, 37, 38, 39] σ σ2))) := by
  obtain ⟨h1, h2, h3, h4, hok⟩ := h
  have hok' := hok
  obtain ⟨o1, o2, o3, o4, o5, o6, o7, o8, o9⟩ := hok
  have el := enc_inR o5 (by omega)
  have er := enc_inR o7 (by omega)
  have en := enc_nil_iff o7
  have em := enc_nil_iff o5
  have ein := enc_mem o3 o5
  have ek : rd_take s c = if s.2.2.1 ≠ [] ∧ s.2.2.2.length < 3 ∧ (s.2.2.2 ≠ [] ∨ s.2.2.1 ∉ s.1) then some (s.1, s.2.1, s.2.2.1, s.2.2.2 ++ [c]) else none := by unfold rd_take; rw [if_neg (by omega), if_pos hc]
  refine am_ev (by decide) [some (.ref 35), some (.int (iZ (c)))] rfl (Nat.le_of_ble_eq_true rfl) ?_
  refine go_aload_n dX4_takesCapital_0 rfl ?_
  refine go_geti fl_X4_25 dX4_takesCapital_1 sh_35 rfl ?_
  rw [h3]
  refine go_iconst dX4_takesCapital_4 ?_
  refine go_icmp_eq (tgt := 19) dX4_takesCapital_5 (by decide) el (by unfold inR; omega) (fun b5 => ?_) (fun b5 => ?_)
  · skip
    refine go_iconst dX4_takesCapital_19 ?_
    refine go_retZ dX4_takesCapital_20 rfl (by omega) ?_
    refine Or.inl ⟨rfl, ?_, rfl⟩
    rw [ek, if_neg]
    first | exact fun q => q.1 (em.mp b5) | exact fun q => b16 (by omega)
  · skip
    refine go_aload_n dX4_takesCapital_8 rfl ?_
    refine go_geti fl_X4_29 dX4_takesCapital_9 sh_35 rfl ?_
    rw [h4]
    refine go_csP1 (M2 := mX9_size) dX4_takesCapital_12 ml_X4_70 ms_X9_size (Nat.le_of_ble_eq_true rfl) (by decide) (ev_X9_size er) ?_
    rw [wd_sz_enc o7 (by omega)]
    refine go_iconst dX4_takesCapital_15 ?_
    refine go_icmp_lt (tgt := 21) dX4_takesCapital_16 (by decide) (by unfold inR; omega) (by unfold inR; omega) (fun b16 => ?_) (fun b16 => ?_)
    · skip
      refine go_aload_n dX4_takesCapital_21 rfl ?_
      refine go_geti fl_X4_29 dX4_takesCapital_22 sh_35 rfl ?_
      rw [h4]
      refine go_iconst dX4_takesCapital_25 ?_
      refine go_icmp_ne (tgt := 46) dX4_takesCapital_26 (by decide) er (by unfold inR; omega) (fun b26 => ?_) (fun b26 => ?_)
      · skip
        have hnin : s.2.2.2 ≠ [] ∨ s.2.2.1 ∉ s.1 := Or.inl (fun w => b26 (en.mpr w))
        refine go_aload_n dX4_takesCapital_46 rfl ?_
        refine go_aload_n dX4_takesCapital_47 rfl ?_
        refine go_geti fl_X4_29 dX4_takesCapital_48 sh_35 rfl ?_
        rw [h4]
        refine go_iload_n dX4_takesCapital_51 rfl ?_
        refine go_csP2 (M2 := mX9_append) dX4_takesCapital_52 ml_X4_72 ms_X9_append (Nat.le_of_ble_eq_true rfl) (by decide) (ev_X9_append) ?_
        rw [wd_ap_enc o7 (by unfold okc; omega) o8]
        refine go_puti fl_X4_29 dX4_takesCapital_55 sh_35 rfl am_fit_int ?_
        refine go_iconst dX4_takesCapital_58 ?_
        refine go_retZ dX4_takesCapital_59 rfl (by omega) ?_
        have ek2 : rd_take s c = some (s.1, s.2.1, s.2.2.1, s.2.2.2 ++ [c]) := by rw [ek, if_pos ⟨fun w => b5 (em.mpr w), by omega, hnin⟩]
        refine Or.inr ⟨rfl, _, ek2, ⟨hold_si h1 (by decide) (by decide), hold_si h2 (by decide) (by decide), by simp [am_si]; exact h3, by simp [am_si], rd_take_ok hok' ek2⟩, am_off_si (by decide)⟩
      · skip
        refine go_aload_n dX4_takesCapital_29 rfl ?_
        refine go_getr fl_X4_14 dX4_takesCapital_30 sh_35 rfl ?_
        refine go_aload_n dX4_takesCapital_33 rfl ?_
        refine go_geti fl_X4_25 dX4_takesCapital_34 sh_35 rfl ?_
        rw [h3]
        refine go_cvI1 (M2 := mX1_placeOf) dX4_takesCapital_37 ml_X4_76 mv_X1_placeOf h1.1 rfl rfl (Nat.le_of_ble_eq_true rfl) (by decide) (ev_X1_placeOf h1 el) (fun pl σp hpl => ?_)
        obtain ⟨hpl, rfl⟩ := hpl
        refine go_iconst dX4_takesCapital_40 ?_
        refine go_icmp_eq (tgt := 46) dX4_takesCapital_41 (by decide) (by rcases hpl with q | ⟨j, q, q2, q3⟩ <;> unfold inR; omega; have := (List.getElem?_eq_some_iff.mp q2).1; simp at this; omega) (by unfold inR; omega) (fun b41 => ?_) (fun b41 => ?_)
        · skip
          have hnin : s.2.2.2 ≠ [] ∨ s.2.2.1 ∉ s.1 := Or.inr (by rcases hpl with ⟨-, z⟩ | ⟨j, z, -⟩; exact fun w => z (ein.mpr w); omega)
          refine go_aload_n dX4_takesCapital_46 rfl ?_
          refine go_aload_n dX4_takesCapital_47 rfl ?_
          refine go_geti fl_X4_29 dX4_takesCapital_48 sh_35 rfl ?_
          rw [h4]
          refine go_iload_n dX4_takesCapital_51 rfl ?_
          refine go_csP2 (M2 := mX9_append) dX4_takesCapital_52 ml_X4_72 ms_X9_append (Nat.le_of_ble_eq_true rfl) (by decide) (ev_X9_append) ?_
          rw [wd_ap_enc o7 (by unfold okc; omega) o8]
          refine go_puti fl_X4_29 dX4_takesCapital_55 sh_35 rfl am_fit_int ?_
          refine go_iconst dX4_takesCapital_58 ?_
          refine go_retZ dX4_takesCapital_59 rfl (by omega) ?_
          have ek2 : rd_take s c = some (s.1, s.2.1, s.2.2.1, s.2.2.2 ++ [c]) := by rw [ek, if_pos ⟨fun w => b5 (em.mpr w), by omega, hnin⟩]
          refine Or.inr ⟨rfl, _, ek2, ⟨hold_si h1 (by decide) (by decide), hold_si h2 (by decide) (by decide), by simp [am_si]; exact h3, by simp [am_si], rd_take_ok hok' ek2⟩, am_off_si (by decide)⟩
        · skip
          refine go_iconst dX4_takesCapital_44 ?_
          refine go_retZ dX4_takesCapital_45 rfl (by omega) ?_
          refine Or.inl ⟨rfl, ?_, rfl⟩
          rw [ek, if_neg]
          rintro ⟨-, -, q | q⟩
          · exact q (en.mp b26)
          · rcases hpl with ⟨z, -⟩ | ⟨j, -, q2, -⟩
            · exact b41 z
            · exact q (ein.mp (List.mem_of_getElem? q2))
    · skip
      refine go_iconst dX4_takesCapital_19 ?_
      refine go_retZ dX4_takesCapital_20 rfl (by omega) ?_
      refine Or.inl ⟨rfl, ?_, rfl⟩
      rw [ek, if_neg]
      first | exact fun q => q.1 (em.mp b5) | exact fun q => b16 (by omega)
theorem ev_X4_takesComma {σ : am_St} {s : rd_S} (h : rdr σ s) : am_Ev SH mX4_takesComma 2 [.ref 35] σ (am_rI (fun x σ2 => (x = 0 ∧ rd_take s 44 = none ∧ σ2 = σ) ∨ (x = 1 ∧ ∃ s', rd_take s 44 = some s' ∧ rdr σ2 s' ∧ am_off [35, 36, 37, 38, 39] σ σ2))) := by
  have hall := h
  obtain ⟨h1, h2, h3, h4, hok⟩ := h
  have hok' := hok
  obtain ⟨o1, o2, o3, o4, o5, o6, o7, o8, o9⟩ := hok
  have er := enc_inR o7 (by omega)
  have en := enc_nil_iff o7
  have ek : rd_take s 44 = if s.2.2.2 ≠ [] ∧ s.1.length + 1 < 8 then some (s.1 ++ [s.2.2.1], s.2.1 ++ [s.2.2.2], [], []) else none := by unfold rd_take; rw [if_neg (by omega), if_neg (by omega), if_pos rfl]
  refine am_ev (by decide) [some (.ref 35)] rfl (Nat.le_of_ble_eq_true rfl) ?_
  refine go_aload_n dX4_takesComma_0 rfl ?_
  refine go_geti fl_X4_29 dX4_takesComma_1 sh_35 rfl ?_
  rw [h4]
  refine go_iconst dX4_takesComma_4 ?_
  refine go_icmp_eq (tgt := 22) dX4_takesComma_5 (by decide) er (by unfold inR; omega) (fun b5 => ?_) (fun b5 => ?_)
  · skip
    refine go_iconst dX4_takesComma_22 ?_
    refine go_retZ dX4_takesComma_23 rfl (by omega) ?_
    refine Or.inl ⟨rfl, ?_, rfl⟩
    rw [ek, if_neg]
    first | exact fun q => q.1 (en.mp b5) | exact fun q => b19 (by omega)
  · skip
    refine go_aload_n dX4_takesComma_8 rfl ?_
    refine go_getr fl_X4_14 dX4_takesComma_9 sh_35 rfl ?_
    refine go_cvP0 (M2 := mX1_size) dX4_takesComma_12 ml_X4_35 mv_X1_size h1.1 rfl rfl (Nat.le_of_ble_eq_true rfl) (by decide) (ev_X1_size h1) ?_
    rw [List.length_map]
    refine go_iconst dX4_takesComma_15 ?_
    refine go_iadd dX4_takesComma_16 ?_
    refine go_bipush dX4_takesComma_17 rfl ?_
    refine go_icmp_lt (tgt := 24) dX4_takesComma_19 (by decide) (by unfold inR; omega) (by unfold inR; omega) (fun b19 => ?_) (fun b19 => ?_)
    · skip
      refine go_aload_n dX4_takesComma_24 rfl ?_
      refine go_cvV0 (M2 := mX4_endRule) dX4_takesComma_25 ml_X4_51 mv_X4_endRule sh_35 rfl rfl (Nat.le_of_ble_eq_true rfl) (by decide) (ev_X4_endRule hall) (fun σ1 hq => ?_)
      refine go_iconst dX4_takesComma_28 ?_
      refine go_retZ dX4_takesComma_29 rfl (by omega) ?_
      have ek2 : rd_take s 44 = some (s.1 ++ [s.2.2.1], s.2.1 ++ [s.2.2.2], [], []) := by rw [ek, if_pos ⟨fun w => b5 (en.mpr w), by omega⟩]
      exact Or.inr ⟨rfl, _, ek2, ⟨hq.1, hq.2.1, hq.2.2.1, hq.2.2.2.1, rd_take_ok hok' ek2⟩, hq.2.2.2.2⟩
    · skip
      refine go_iconst dX4_takesComma_22 ?_
      refine go_retZ dX4_takesComma_23 rfl (by omega) ?_
      refine Or.inl ⟨rfl, ?_, rfl⟩
      rw [ek, if_neg]
      first | exact fun q => q.1 (en.mp b5) | exact fun q => b19 (by omega)
theorem ev_X4_takes {σ : am_St} {s : rd_S} {c : Int} (h : rdr σ s) (hc : inR c) : am_Ev SH mX4_takes 3 [.ref 35, .int (iZ c)] σ (am_rI (fun x σ2 => (x = 0 ∧ rd_take s c = none ∧ σ2 = σ) ∨ (x = 1 ∧ ∃ s', rd_take s c = some s' ∧ rdr σ2 s' ∧ am_off [35, 36, 37, 38, 39] σ σ2))) := by
  refine am_ev (by decide) [some (.ref 35), some (.int (iZ (c)))] rfl (Nat.le_of_ble_eq_true rfl) ?_
  refine go_iload_n dX4_takes_0 rfl ?_
  refine go_cnP1 (M2 := mX10_isSmall) dX4_takes_1 ml_X4_54 ms_X10_isSmall (Nat.le_of_ble_eq_true rfl) (by decide) (ev_X10_isSmall hc) ?_
  obtain ⟨E, hE⟩ : ∃ E : Int, E = (if 97 ≤ c ∧ c ≤ 122 then 1 else 0) := ⟨_, rfl⟩
  rw [← hE]
  refine go_if_eq (tgt := 13) dX4_takes_4 (by decide) (by rw [hE]; unfold inR; split <;> omega) (fun b4 => ?_) (fun b4 => ?_)
  · skip
    have hs : ¬ (97 ≤ c ∧ c ≤ 122) := fun q => by rw [if_pos q] at hE; omega
    refine go_iload_n dX4_takes_13 rfl ?_
    refine go_cnP1 (M2 := mX10_isCapital) dX4_takes_14 ml_X4_60 ms_X10_isCapital (Nat.le_of_ble_eq_true rfl) (by decide) (ev_X10_isCapital hc) ?_
    obtain ⟨G, hG⟩ : ∃ G : Int, G = (if 65 ≤ c ∧ c ≤ 90 then 1 else 0) := ⟨_, rfl⟩
    rw [← hG]
    refine go_if_eq (tgt := 26) dX4_takes_17 (by decide) (by rw [hG]; unfold inR; split <;> omega) (fun b17 => ?_) (fun b17 => ?_)
    · skip
      have hs2 : ¬ (65 ≤ c ∧ c ≤ 90) := fun q => by rw [if_pos q] at hG; omega
      refine go_iload_n dX4_takes_26 rfl ?_
      refine go_bipush dX4_takes_27 rfl ?_
      refine go_icmp_ne (tgt := 43) dX4_takes_29 (by decide) hc (by unfold inR; omega) (fun b29 => ?_) (fun b29 => ?_)
      · skip
        have hend : rd_take s c = none := by unfold rd_take; rw [if_neg hs, if_neg hs2, if_neg b29]
        refine go_iconst dX4_takes_43 ?_
        refine go_retZ dX4_takes_44 rfl (by omega) ?_
        first | exact Or.inl ⟨rfl, hend, rfl⟩ | (rcases hq with q | q; omega; exact Or.inr ⟨rfl, q.2⟩)
      · skip
        subst b29
        refine go_aload_n dX4_takes_32 rfl ?_
        refine go_cvI0 (M2 := mX4_takesComma) dX4_takes_33 ml_X4_66 mv_X4_takesComma sh_35 rfl rfl (Nat.le_of_ble_eq_true rfl) (by decide) (ev_X4_takesComma h) (fun x σ1 hq => ?_)
        refine go_if_eq (tgt := 43) dX4_takes_36 (by decide) (by rcases hq with q | q <;> unfold inR <;> omega) (fun b36 => ?_) (fun b36 => ?_)
        · skip
          have hend : rd_take s 44 = none ∧ σ1 = σ := by rcases hq with q | q; exact ⟨q.2.1, q.2.2⟩; omega
          obtain ⟨hend, rfl⟩ := hend
          refine go_iconst dX4_takes_43 ?_
          refine go_retZ dX4_takes_44 rfl (by omega) ?_
          first | exact Or.inl ⟨rfl, hend, rfl⟩ | (rcases hq with q | q; omega; exact Or.inr ⟨rfl, q.2⟩)
        · skip
          refine go_iconst dX4_takes_39 ?_
          refine go_goto (tgt := 44) dX4_takes_40 (by decide) ?_
          refine go_retZ dX4_takes_44 rfl (by omega) ?_
          first | exact Or.inl ⟨rfl, hend, rfl⟩ | (rcases hq with q | q; omega; exact Or.inr ⟨rfl, q.2⟩)
    · skip
      have hs2 : 65 ≤ c ∧ c ≤ 90 := by
        apply Classical.byContradiction
        intro q
        rw [if_neg q] at hG
        omega
      refine go_aload_n dX4_takes_20 rfl ?_
      refine go_iload_n dX4_takes_21 rfl ?_
      refine go_cvI1 (M2 := mX4_takesCapital) dX4_takes_22 ml_X4_63 mv_X4_takesCapital sh_35 rfl rfl (Nat.le_of_ble_eq_true rfl) (by decide) (ev_X4_takesCapital h hs2) (fun x σ1 hq => ?_)
      refine go_retZ dX4_takes_25 rfl (by rcases hq with q | q <;> omega) ?_
      exact hq
  · skip
    have hs : 97 ≤ c ∧ c ≤ 122 := by
      apply Classical.byContradiction
      intro q
      rw [if_neg q] at hE
      omega
    refine go_aload_n dX4_takes_7 rfl ?_
    refine go_iload_n dX4_takes_8 rfl ?_
    refine go_cvI1 (M2 := mX4_takesSmall) dX4_takes_9 ml_X4_57 mv_X4_takesSmall sh_35 rfl rfl (Nat.le_of_ble_eq_true rfl) (by decide) (ev_X4_takesSmall h hs) (fun x σ1 hq => ?_)
    refine go_retZ dX4_takes_12 rfl (by rcases hq with q | q <;> omega) ?_
    exact hq
