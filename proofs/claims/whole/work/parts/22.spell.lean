/-! ===== all rows that spell a text: the mathematics, and the class's Spellings ===== -/
/-- for each suffix of the text, from the whole on, the number of rows that spell it, modulo 1000000 -/
def mt_ws (S : List (List Int)) : List Int → List Int
  | [] => [1]
  | c :: t => (S.foldl (fun acc s => if s <+: (c :: t) ∧ 0 < s.length then (acc + (mt_ws S t).getD (s.length - 1) 0) % 1000000 else acc) 0) :: mt_ws S t
/-- the same number, up to 2 -/
def mt_us (S : List (List Int)) : List Int → List Int
  | [] => [1]
  | c :: t => (S.foldl (fun acc s => if s <+: (c :: t) ∧ 0 < s.length then min 2 (acc + (mt_us S t).getD (s.length - 1) 0) else acc) 0) :: mt_us S t
theorem mt_ws_len (S : List (List Int)) : ∀ t, (mt_ws S t).length = t.length + 1
  | [] => rfl
  | c :: t => by show (mt_ws S t).length + 1 = _; rw [mt_ws_len S t]; rfl
theorem mt_us_len (S : List (List Int)) : ∀ t, (mt_us S t).length = t.length + 1
  | [] => rfl
  | c :: t => by show (mt_us S t).length + 1 = _; rw [mt_us_len S t]; rfl
theorem mt_fold_bd {S : List (List Int)} {f : Int → List Int → Int} {lo hi : Int} (hf : ∀ a s, lo ≤ a → a < hi → lo ≤ f a s ∧ f a s < hi) : ∀ (S : List (List Int)) (a : Int), lo ≤ a → a < hi → lo ≤ S.foldl f a ∧ S.foldl f a < hi
  | [], a, h1, h2 => ⟨h1, h2⟩
  | s :: S, a, h1, h2 => mt_fold_bd (S := S) hf S (f a s) (hf a s h1 h2).1 (hf a s h1 h2).2
theorem mt_ws_bd (S : List (List Int)) : ∀ (t : List Int) (i : Nat), 0 ≤ (mt_ws S t).getD i 0 ∧ (mt_ws S t).getD i 0 < 1000000
  | [], i => by
    cases i with
    | zero => exact ⟨by simp [mt_ws], by simp [mt_ws]⟩
    | succ i => exact ⟨by simp [mt_ws], by simp [mt_ws]⟩
  | c :: t, i => by
    cases i with
    | zero =>
      show 0 ≤ S.foldl _ 0 ∧ S.foldl _ 0 < 1000000
      refine mt_fold_bd (S := S) (fun a s h1 h2 => ?_) S 0 (by omega) (by omega)
      split <;> omega
    | succ i => exact mt_ws_bd S t i
theorem mt_us_bd (S : List (List Int)) : ∀ (t : List Int) (i : Nat), 0 ≤ (mt_us S t).getD i 0 ∧ (mt_us S t).getD i 0 < 3
  | [], i => by
    cases i with
    | zero => exact ⟨by simp [mt_us], by simp [mt_us]⟩
    | succ i => exact ⟨by simp [mt_us], by simp [mt_us]⟩
  | c :: t, i => by
    cases i with
    | zero =>
      show 0 ≤ S.foldl _ 0 ∧ S.foldl _ 0 < 3
      refine mt_fold_bd (S := S) (fun a s h1 h2 => ?_) S 0 (by omega) (by omega)
      have := (mt_us_bd S t (s.length - 1)).1
      split <;> omega
    | succ i => exact mt_us_bd S t i
theorem mt_ws_drop (S : List (List Int)) : ∀ (t : List Int) (p i : Nat), p ≤ t.length → (mt_ws S (t.drop p)).getD i 0 = (mt_ws S t).getD (p + i) 0
  | t, 0, i, _ => by rw [List.drop_zero, Nat.zero_add]
  | [], p + 1, i, h => by simp at h
  | c :: t, p + 1, i, h => by
    rw [List.drop_succ_cons, mt_ws_drop S t p i (by simpa using h), show p + 1 + i = (p + i) + 1 by omega]
    rfl
theorem mt_us_drop (S : List (List Int)) : ∀ (t : List Int) (p i : Nat), p ≤ t.length → (mt_us S (t.drop p)).getD i 0 = (mt_us S t).getD (p + i) 0
  | t, 0, i, _ => by rw [List.drop_zero, Nat.zero_add]
  | [], p + 1, i, h => by simp at h
  | c :: t, p + 1, i, h => by
    rw [List.drop_succ_cons, mt_us_drop S t p i (by simpa using h), show p + 1 + i = (p + i) + 1 by omega]
    rfl
/-- what the two arrays of Spellings at the cell k hold for a text, from the place p on -/
def spl (σ : am_St) (k : Nat) (S : List (List Int)) (xs : List Int) (p : Int) : Prop := σ.1 k 2 = xs.length ∧ ∀ j : Int, p ≤ j → 0 ≤ j → j ≤ xs.length → σ.2.2 (k + 1) j = (mt_ws S xs).getD j.toNat 0 ∧ σ.2.2 (k + 2) j = (mt_us S xs).getD j.toNat 0
def isSp (k : Nat) : Prop := SH[k]? = some (.inr (6, [k + 4, k + 5, 0])) ∧ SH[k + 1]? = some (.inl (0, 57, none)) ∧ SH[k + 2]? = some (.inl (0, 57, none))
theorem isSp_40 : isSp 40 := ⟨rfl, rfl, rfl⟩
theorem isSp_106 : isSp 106 := ⟨rfl, rfl, rfl⟩
theorem ev_X7_weighPlace {σ : am_St} {k ks n kl nl : Nat} {xs : List Int} {S : List (List Int)} {p : Int} (hk : isSp k) (h : hold σ ks n (S.map enc)) (g : hold σ kl nl xs) (hS : okw S) (hS1 : S.length < 1000) (hx : xs.length ≤ 56) (hn : nl < 1000000) (h0 : 0 ≤ p) (h1 : p < xs.length) (hw : spl σ k S xs (p + 1)) (d1 : ks ≠ k + 1 ∧ ks ≠ k + 2 ∧ ks + 1 ≠ k + 1 ∧ ks + 1 ≠ k + 2) (d2 : kl ≠ k + 1 ∧ kl ≠ k + 2 ∧ kl + 1 ≠ k + 1 ∧ kl + 1 ≠ k + 2) : am_Ev SH mX7_weighPlace 2 [.ref k, .ref ks, .ref kl, .int (iZ p)] σ (am_rV (fun σ2 => spl σ2 k S xs p ∧ am_off [k + 1, k + 2] σ σ2)) := by
  obtain ⟨s1, s2, s3⟩ := hk
  have hks := h.1
  have hkl := g.1
  have hl5 := h.2.2.2.2.1
  have hl3 := h.2.2.1
  have gl5 := g.2.2.2.2.1
  rw [List.length_map] at hl5
  have hdr : xs.drop p.toNat = xs[p.toNat] :: xs.drop (p.toNat + 1) := List.drop_eq_getElem_cons (by omega)
  have loop : ∀ (m : Nat) (i : Nat) (a b : Int) (w : Option Value), S.length - i < m → i ≤ S.length → 0 ≤ a → a < 1000000 → 0 ≤ b → b < 3 → (S.drop i).foldl (fun acc s => if s <+: xs.drop p.toNat ∧ 0 < s.length then (acc + (mt_ws S (xs.drop (p.toNat + 1))).getD (s.length - 1) 0) % 1000000 else acc) a = (mt_ws S (xs.drop p.toNat)).getD 0 0 → (S.drop i).foldl (fun acc s => if s <+: xs.drop p.toNat ∧ 0 < s.length then min 2 (acc + (mt_us S (xs.drop (p.toNat + 1))).getD (s.length - 1) 0) else acc) b = (mt_us S (xs.drop p.toNat)).getD 0 0 → am_Go SH mX7_weighPlace 2 (am_rV (fun σ2 => spl σ2 k S xs p ∧ am_off [k + 1, k + 2] σ σ2)) 9 [some (.ref k), some (.ref ks), some (.ref kl), some (.int (iZ p)), some (.int (iZ a)), some (.int (iZ b)), some (.int (iZ i)), w] [] σ := by
    intro m
    induction m with
    | zero => intro i a b w hm; exact absurd hm (by omega)
    | succ m ih =>
      intro i a b w hm hil ha0 ha1 hb0 hb1 hA hB
      refine go_iload dX7_weighPlace_9 rfl ?_
      refine go_aload_n dX7_weighPlace_11 rfl ?_
      refine go_cvP0 (M2 := mX1_size) dX7_weighPlace_12 ml_X7_22 mv_X1_size (by assumption) rfl rfl (Nat.le_of_ble_eq_true rfl) (by decide) (ev_X1_size h) ?_
      rw [List.length_map]
      refine go_icmp_ge (tgt := 83) dX7_weighPlace_15 (by decide) (by unfold inR; omega) (by unfold inR; omega) (fun b15 => ?_) (fun b15 => ?_)
      · skip
        refine go_aload_n dX7_weighPlace_83 rfl ?_
        refine go_getr fl_X7_9 dX7_weighPlace_84 (by first | assumption | exact sh_40 | exact sh_106) rfl ?_
        refine go_iload_n dX7_weighPlace_87 rfl ?_
        refine go_iload dX7_weighPlace_88 rfl ?_
        refine go_iastore dX7_weighPlace_90 s2 (by first | assumption | exact Nat.le_of_ble_eq_true rfl) (by omega) (by omega) ?_
        refine go_aload_n dX7_weighPlace_91 rfl ?_
        refine go_getr fl_X7_15 dX7_weighPlace_92 (by first | assumption | exact sh_40 | exact sh_106) rfl ?_
        refine go_iload_n dX7_weighPlace_95 rfl ?_
        refine go_iload dX7_weighPlace_96 rfl ?_
        refine go_iastore dX7_weighPlace_98 s3 (by first | assumption | exact Nat.le_of_ble_eq_true rfl) (by omega) (by omega) ?_
        refine go_retV dX7_weighPlace_99 rfl ?_
        have hfull : i = S.length := by omega
        subst hfull
        rw [List.drop_length] at hA hB
        simp only [List.foldl_nil] at hA hB
        rw [mt_ws_drop S xs _ _ (by omega), Nat.add_zero] at hA
        rw [mt_us_drop S xs _ _ (by omega), Nat.add_zero] at hB
        refine ⟨⟨hw.1, fun j hj1 hj0 hj2 => ?_⟩, (am_off_sa (by simp)).tr (am_off_sa (by simp))⟩
        by_cases hjp : j = p
        · subst hjp; simp [am_sa, hA, hB]
        · have := hw.2 j (by omega) hj0 hj2; simp [am_sa, hjp, this]
      · skip
        refine go_aload_n dX7_weighPlace_18 rfl ?_
        refine go_iload dX7_weighPlace_19 rfl ?_
        refine go_cvP1 (M2 := mX1_at) dX7_weighPlace_21 ml_X7_38 mv_X1_at (by assumption) rfl rfl (Nat.le_of_ble_eq_true rfl) (by decide) (ev_X1_at h (by unfold inR; omega)) ?_
        rw [ln_at_map (by omega) (by omega), Int.toNat_natCast]
        refine go_aload_n dX7_weighPlace_24 rfl ?_
        refine go_iload_n dX7_weighPlace_25 rfl ?_
        refine go_csP3 (M2 := mX2_endOf) dX7_weighPlace_26 ml_X7_42 ms_X2_endOf (Nat.le_of_ble_eq_true rfl) (by decide) (ev_X2_endOf g (okw_get hS i).1 (okw_get hS i).2 h0 (by omega) hn) ?_
        have hlt : i < S.length := by omega
        have hsi : S.getD i [] = S[i] := by rw [List.getD_eq_getElem?_getD, List.getElem?_eq_getElem hlt]; rfl
        have hs4 := (okw_get hS i).2
        rw [List.drop_eq_getElem_cons hlt, List.foldl_cons, ← hsi] at hA hB
        obtain ⟨E, hE⟩ : ∃ E : Int, E = (if S.getD i [] <+: xs.drop p.toNat then p + (S.getD i []).length else -1) := ⟨_, rfl⟩
        rw [← hE]
        have hER : inR E := by rw [hE]; unfold inR; split <;> omega
        refine go_ist7 dX7_weighPlace_29 (Nat.le_of_ble_eq_true rfl) rfl ?_
        refine go_iload dX7_weighPlace_31 rfl ?_
        refine go_iload_n dX7_weighPlace_33 rfl ?_
        refine go_icmp_le (tgt := 77) dX7_weighPlace_34 (by decide) hER (by unfold inR; omega) (fun b34 => ?_) (fun b34 => ?_)
        · skip
          refine go_inc6 dX7_weighPlace_77 (Nat.le_of_ble_eq_true rfl) rfl ?_
          refine go_goto (tgt := 9) dX7_weighPlace_80 (by decide) ?_
          rw [show (i : Int) + 1 = ((i + 1 : Nat) : Int) by omega]
          first
            | (rw [eW, eU]
               rw [eW] at bW
               rw [eU] at bU
               refine ih (i + 1) _ _ _ (by omega) (by omega) (by omega) (by omega) (by omega) (by omega) hA hB)
            | (have hc : ¬ (S.getD i [] <+: xs.drop p.toNat ∧ 0 < (S.getD i []).length) := by
                 rintro ⟨hp, hq⟩
                 rw [if_pos hp] at hE
                 have := hp.length_le
                 rw [List.length_drop] at this
                 omega
               rw [if_neg hc] at hA hB
               exact ih (i + 1) a b _ (by omega) (by omega) ha0 ha1 hb0 hb1 hA hB)
        · skip
          refine go_iload dX7_weighPlace_37 rfl ?_
          refine go_aload_n dX7_weighPlace_39 rfl ?_
          refine go_geti fl_X7_18 dX7_weighPlace_40 (by first | assumption | exact sh_40 | exact sh_106) rfl ?_
          rw [hw.1]
          refine go_icmp_gt (tgt := 77) dX7_weighPlace_43 (by decide) hER (by unfold inR; omega) (fun b43 => ?_) (fun b43 => ?_)
          · skip
            refine go_inc6 dX7_weighPlace_77 (Nat.le_of_ble_eq_true rfl) rfl ?_
            refine go_goto (tgt := 9) dX7_weighPlace_80 (by decide) ?_
            rw [show (i : Int) + 1 = ((i + 1 : Nat) : Int) by omega]
            first
              | (rw [eW, eU]
                 rw [eW] at bW
                 rw [eU] at bU
                 refine ih (i + 1) _ _ _ (by omega) (by omega) (by omega) (by omega) (by omega) (by omega) hA hB)
              | (have hc : ¬ (S.getD i [] <+: xs.drop p.toNat ∧ 0 < (S.getD i []).length) := by
                   rintro ⟨hp, hq⟩
                   rw [if_pos hp] at hE
                   have := hp.length_le
                   rw [List.length_drop] at this
                   omega
                 rw [if_neg hc] at hA hB
                 exact ih (i + 1) a b _ (by omega) (by omega) ha0 ha1 hb0 hb1 hA hB)
          · skip
            have hpf : S.getD i [] <+: xs.drop p.toNat := by
              apply Classical.byContradiction
              intro q
              rw [if_neg q] at hE
              omega
            rw [if_pos hpf] at hE
            have hpos : 0 < (S.getD i []).length := by omega
            rw [if_pos ⟨hpf, hpos⟩] at hA hB
            have hwE := hw.2 E (by omega) (by omega) (by omega)
            have eW : (mt_ws S xs).getD E.toNat 0 = (mt_ws S (xs.drop (p.toNat + 1))).getD ((S.getD i []).length - 1) 0 := by rw [mt_ws_drop S xs _ _ (by omega)]; congr 1; omega
            have eU : (mt_us S xs).getD E.toNat 0 = (mt_us S (xs.drop (p.toNat + 1))).getD ((S.getD i []).length - 1) 0 := by rw [mt_us_drop S xs _ _ (by omega)]; congr 1; omega
            have bW := mt_ws_bd S xs E.toNat
            have bU := mt_us_bd S xs E.toNat
            refine go_iload dX7_weighPlace_46 rfl ?_
            refine go_aload_n dX7_weighPlace_48 rfl ?_
            refine go_getr fl_X7_9 dX7_weighPlace_49 (by first | assumption | exact sh_40 | exact sh_106) rfl ?_
            refine go_iload dX7_weighPlace_52 rfl ?_
            refine go_iaload dX7_weighPlace_54 s2 (by first | assumption | exact Nat.le_of_ble_eq_true rfl) (by omega) (by omega) ?_
            refine go_iadd dX7_weighPlace_55 ?_
            refine go_ldc dX7_weighPlace_56 kc_X7_48 ?_
            refine go_irem dX7_weighPlace_58 (by rw [hwE.1]; omega) (by rw [hwE.1]; unfold inR; omega) (by omega) (by unfold inR; omega) ?_
            refine go_ist4 dX7_weighPlace_59 (Nat.le_of_ble_eq_true rfl) rfl ?_
            refine go_iconst dX7_weighPlace_61 ?_
            refine go_iload dX7_weighPlace_62 rfl ?_
            refine go_aload_n dX7_weighPlace_64 rfl ?_
            refine go_getr fl_X7_15 dX7_weighPlace_65 (by first | assumption | exact sh_40 | exact sh_106) rfl ?_
            refine go_iload dX7_weighPlace_68 rfl ?_
            refine go_iaload dX7_weighPlace_70 s3 (by first | assumption | exact Nat.le_of_ble_eq_true rfl) (by omega) (by omega) ?_
            refine go_iadd dX7_weighPlace_71 ?_
            refine go_csP2 (M2 := mJ9_min_7cf53) dX7_weighPlace_72 ml_X7_28 ms_J9_min_7cf53 (Nat.le_of_ble_eq_true rfl) (by decide) (ev_J9_min (by unfold inR; omega) (by rw [hwE.2]; unfold inR; omega)) ?_
            rw [hwE.1, hwE.2]
            refine go_ist5 dX7_weighPlace_75 (Nat.le_of_ble_eq_true rfl) rfl ?_
            refine go_inc6 dX7_weighPlace_77 (Nat.le_of_ble_eq_true rfl) rfl ?_
            refine go_goto (tgt := 9) dX7_weighPlace_80 (by decide) ?_
            rw [show (i : Int) + 1 = ((i + 1 : Nat) : Int) by omega]
            first
              | (rw [eW, eU]
                 rw [eW] at bW
                 rw [eU] at bU
                 refine ih (i + 1) _ _ _ (by omega) (by omega) (by omega) (by omega) (by omega) (by omega) hA hB)
              | (have hc : ¬ (S.getD i [] <+: xs.drop p.toNat ∧ 0 < (S.getD i []).length) := by
                   rintro ⟨hp, hq⟩
                   rw [if_pos hp] at hE
                   have := hp.length_le
                   rw [List.length_drop] at this
                   omega
                 rw [if_neg hc] at hA hB
                 exact ih (i + 1) a b _ (by omega) (by omega) ha0 ha1 hb0 hb1 hA hB)
  refine am_ev (by decide) [some (.ref k), some (.ref ks), some (.ref kl), some (.int (iZ (p))), none, none, none, none] rfl (Nat.le_of_ble_eq_true rfl) ?_
  refine go_iconst dX7_weighPlace_0 ?_
  refine go_ist4 dX7_weighPlace_1 (Nat.le_of_ble_eq_true rfl) rfl ?_
  refine go_iconst dX7_weighPlace_3 ?_
  refine go_ist5 dX7_weighPlace_4 (Nat.le_of_ble_eq_true rfl) rfl ?_
  refine go_iconst dX7_weighPlace_6 ?_
  refine go_ist6 dX7_weighPlace_7 (Nat.le_of_ble_eq_true rfl) rfl ?_
  refine loop (S.length + 1) 0 0 0 none (by omega) (by omega) (by omega) (by omega) (by omega) (by omega) ?_ ?_
  · rw [List.drop_zero, hdr]; rfl
  · rw [List.drop_zero, hdr]; rfl
