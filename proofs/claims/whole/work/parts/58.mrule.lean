/-! ===== the reference: rule, sign, ink, count ===== -/
theorem ev_X11_begunBy {σ : am_St} {L R W : List (List Int)} {m r : Nat} {fl : Int} (h : tbM σ L R m) (hr : r < R.length) (hW : (fl = 0 ∧ W = mt_sg R m) ∨ (fl = 1 ∧ W = L)) : am_Ev SH mX11_begunBy 2 [.ref 0, .int (iZ (r : Int)), .int (iZ fl)] σ (am_rI (fun x σ2 => x = mt_ob (W.getD r []) W 0 (r : Int) ∧ σ2 = σ)) := by
  have h8 := h.2.2.2.2.2.1
  have hlr := h.2.2.2.2.1
  have hWl : W.length = R.length := by rcases hW with z | z <;> rw [z.2]; exact mt_sg_len _ _; exact hlr
  have hfl : inR fl := by rcases hW with z | z <;> rw [z.1] <;> (unfold inR; omega)
  generalize hT : mt_ob (W.getD r []) W 0 (r : Int) = T
  have loop : ∀ (m2 : Nat) (k : Nat) (acc : Int), acc + mt_ob (W.getD r []) (W.drop k) k (r : Int) = T → R.length - k < m2 → k ≤ R.length → am_Go SH mX11_begunBy 2 (am_rI (fun x σ2 => x = T ∧ σ2 = σ)) 5 [some (.ref 0), some (.int (iZ (r : Int))), some (.int (iZ fl)), some (.int (iZ acc)), some (.int (iZ (k : Int)))] [] σ := by
    intro m2
    induction m2 with
    | zero => intro k acc _ hm; exact absurd hm (by omega)
    | succ m2 ih =>
      intro k acc he hm hk
      have hst : k < R.length → acc + ((if ¬ (k : Int) = (r : Int) ∧ W.getD r [] <+: W.getD k [] then 1 else 0) + mt_ob (W.getD r []) (W.drop (k + 1)) ((k : Int) + 1) (r : Int)) = T := fun z => by
        rw [List.drop_eq_getElem_cons (by omega), ← getD_in (by omega)] at he
        exact he
      refine go_iload dX11_begunBy_5 rfl ?_
      refine go_aload_n dX11_begunBy_7 rfl ?_
      refine go_geti fl_X11_109 dX11_begunBy_8 sh_0 rfl ?_
      first | (rw [h.1]) | skip
      refine go_icmp_ge (tgt := 61) dX11_begunBy_11 (by decide) (by unfold inR; omega) (by unfold inR; omega) (fun b11 => ?_) (fun b11 => ?_)
      · skip
        refine go_iload_n dX11_begunBy_61 rfl ?_
        refine go_retI dX11_begunBy_62 rfl ?_
        refine ⟨?_, rfl⟩
        rw [List.drop_eq_nil_of_le (by omega)] at he
        rw [← he]; exact (Int.add_zero acc).symm
      · skip
        have hs1 := hst (by omega)
        refine go_iload_n dX11_begunBy_14 rfl ?_
        refine go_iload dX11_begunBy_15 rfl ?_
        refine go_iload_n dX11_begunBy_17 rfl ?_
        refine go_icmp_eq (tgt := 52) dX11_begunBy_18 (by decide) (by unfold inR; omega) (by unfold inR; omega) (fun b18 => ?_) (fun b18 => ?_)
        · skip
          refine go_iconst dX11_begunBy_52 ?_
          refine go_iadd dX11_begunBy_53 ?_
          refine go_ist3 dX11_begunBy_54 (Nat.le_of_ble_eq_true rfl) rfl ?_
          refine go_inc4 dX11_begunBy_55 (Nat.le_of_ble_eq_true rfl) rfl ?_
          refine go_goto (tgt := 5) dX11_begunBy_58 (by decide) ?_
          refine ih (k + 1) _ ?_ (by omega) (by omega)
          first
            | (rw [if_neg (fun z => z.1 (by omega))] at hs1; push_cast; omega)
            | (rw [if_neg (fun z => by rw [hW1] at z; rw [if_pos z.2] at b32; exact absurd b32 (by decide))] at hs1; push_cast; omega)
            | (rw [if_neg (fun z => by rw [hW1] at z; rw [if_pos z.2] at b45; exact absurd b45 (by decide))] at hs1; push_cast; omega)
            | (have hz : W.getD r [] <+: W.getD k [] := by (rw [hW1]; by_cases z : L.getD r [] <+: L.getD k []; exact z; rw [if_neg z] at b32; exact absurd rfl b32)
               rw [if_pos ⟨by omega, hz⟩] at hs1; push_cast; omega)
            | (have hz : W.getD r [] <+: W.getD k [] := by (rw [hW1]; by_cases z : (mt_sg R m).getD r [] <+: (mt_sg R m).getD k []; exact z; rw [if_neg z] at b45; exact absurd rfl b45)
               rw [if_pos ⟨by omega, hz⟩] at hs1; push_cast; omega)
        · skip
          refine go_iload_n dX11_begunBy_21 rfl ?_
          refine go_if_eq (tgt := 38) dX11_begunBy_22 (by decide) hfl (fun b22 => ?_) (fun b22 => ?_)
          · skip
            have hW1 : W = mt_sg R m := by rcases hW with z | z; exact z.2; exact absurd b22 (by omega)
            refine go_aload_n dX11_begunBy_38 rfl ?_
            refine go_iload_n dX11_begunBy_39 rfl ?_
            refine go_iload dX11_begunBy_40 rfl ?_
            refine go_cvP2 (M2 := mX11_begins) dX11_begunBy_42 ml_X11_157 mv_X11_begins sh_0 rfl rfl (Nat.le_of_ble_eq_true rfl) (by decide) (ev_X11_begins h hr (by omega)) ?_
            refine go_if_eq (tgt := 52) dX11_begunBy_45 (by decide) (by unfold inR; split <;> omega) (fun b45 => ?_) (fun b45 => ?_)
            · skip
              refine go_iconst dX11_begunBy_52 ?_
              refine go_iadd dX11_begunBy_53 ?_
              refine go_ist3 dX11_begunBy_54 (Nat.le_of_ble_eq_true rfl) rfl ?_
              refine go_inc4 dX11_begunBy_55 (Nat.le_of_ble_eq_true rfl) rfl ?_
              refine go_goto (tgt := 5) dX11_begunBy_58 (by decide) ?_
              refine ih (k + 1) _ ?_ (by omega) (by omega)
              first
                | (rw [if_neg (fun z => z.1 (by omega))] at hs1; push_cast; omega)
                | (rw [if_neg (fun z => by rw [hW1] at z; rw [if_pos z.2] at b32; exact absurd b32 (by decide))] at hs1; push_cast; omega)
                | (rw [if_neg (fun z => by rw [hW1] at z; rw [if_pos z.2] at b45; exact absurd b45 (by decide))] at hs1; push_cast; omega)
                | (have hz : W.getD r [] <+: W.getD k [] := by (rw [hW1]; by_cases z : L.getD r [] <+: L.getD k []; exact z; rw [if_neg z] at b32; exact absurd rfl b32)
                   rw [if_pos ⟨by omega, hz⟩] at hs1; push_cast; omega)
                | (have hz : W.getD r [] <+: W.getD k [] := by (rw [hW1]; by_cases z : (mt_sg R m).getD r [] <+: (mt_sg R m).getD k []; exact z; rw [if_neg z] at b45; exact absurd rfl b45)
                   rw [if_pos ⟨by omega, hz⟩] at hs1; push_cast; omega)
            · skip
              refine go_iconst dX11_begunBy_48 ?_
              refine go_goto (tgt := 53) dX11_begunBy_49 (by decide) ?_
              refine go_iadd dX11_begunBy_53 ?_
              refine go_ist3 dX11_begunBy_54 (Nat.le_of_ble_eq_true rfl) rfl ?_
              refine go_inc4 dX11_begunBy_55 (Nat.le_of_ble_eq_true rfl) rfl ?_
              refine go_goto (tgt := 5) dX11_begunBy_58 (by decide) ?_
              refine ih (k + 1) _ ?_ (by omega) (by omega)
              first
                | (rw [if_neg (fun z => z.1 (by omega))] at hs1; push_cast; omega)
                | (rw [if_neg (fun z => by rw [hW1] at z; rw [if_pos z.2] at b32; exact absurd b32 (by decide))] at hs1; push_cast; omega)
                | (rw [if_neg (fun z => by rw [hW1] at z; rw [if_pos z.2] at b45; exact absurd b45 (by decide))] at hs1; push_cast; omega)
                | (have hz : W.getD r [] <+: W.getD k [] := by (rw [hW1]; by_cases z : L.getD r [] <+: L.getD k []; exact z; rw [if_neg z] at b32; exact absurd rfl b32)
                   rw [if_pos ⟨by omega, hz⟩] at hs1; push_cast; omega)
                | (have hz : W.getD r [] <+: W.getD k [] := by (rw [hW1]; by_cases z : (mt_sg R m).getD r [] <+: (mt_sg R m).getD k []; exact z; rw [if_neg z] at b45; exact absurd rfl b45)
                   rw [if_pos ⟨by omega, hz⟩] at hs1; push_cast; omega)
          · skip
            have hW1 : W = L := by rcases hW with z | z; exact absurd z.1 b22; exact z.2
            refine go_aload_n dX11_begunBy_25 rfl ?_
            refine go_iload_n dX11_begunBy_26 rfl ?_
            refine go_iload dX11_begunBy_27 rfl ?_
            refine go_cvP2 (M2 := mX11_leftBegins) dX11_begunBy_29 ml_X11_153 mv_X11_leftBegins sh_0 rfl rfl (Nat.le_of_ble_eq_true rfl) (by decide) (ev_X11_leftBegins h hr (by omega)) ?_
            refine go_if_eq (tgt := 52) dX11_begunBy_32 (by decide) (by unfold inR; split <;> omega) (fun b32 => ?_) (fun b32 => ?_)
            · skip
              refine go_iconst dX11_begunBy_52 ?_
              refine go_iadd dX11_begunBy_53 ?_
              refine go_ist3 dX11_begunBy_54 (Nat.le_of_ble_eq_true rfl) rfl ?_
              refine go_inc4 dX11_begunBy_55 (Nat.le_of_ble_eq_true rfl) rfl ?_
              refine go_goto (tgt := 5) dX11_begunBy_58 (by decide) ?_
              refine ih (k + 1) _ ?_ (by omega) (by omega)
              first
                | (rw [if_neg (fun z => z.1 (by omega))] at hs1; push_cast; omega)
                | (rw [if_neg (fun z => by rw [hW1] at z; rw [if_pos z.2] at b32; exact absurd b32 (by decide))] at hs1; push_cast; omega)
                | (rw [if_neg (fun z => by rw [hW1] at z; rw [if_pos z.2] at b45; exact absurd b45 (by decide))] at hs1; push_cast; omega)
                | (have hz : W.getD r [] <+: W.getD k [] := by (rw [hW1]; by_cases z : L.getD r [] <+: L.getD k []; exact z; rw [if_neg z] at b32; exact absurd rfl b32)
                   rw [if_pos ⟨by omega, hz⟩] at hs1; push_cast; omega)
                | (have hz : W.getD r [] <+: W.getD k [] := by (rw [hW1]; by_cases z : (mt_sg R m).getD r [] <+: (mt_sg R m).getD k []; exact z; rw [if_neg z] at b45; exact absurd rfl b45)
                   rw [if_pos ⟨by omega, hz⟩] at hs1; push_cast; omega)
            · skip
              refine go_goto (tgt := 48) dX11_begunBy_35 (by decide) ?_
              refine go_iconst dX11_begunBy_48 ?_
              refine go_goto (tgt := 53) dX11_begunBy_49 (by decide) ?_
              refine go_iadd dX11_begunBy_53 ?_
              refine go_ist3 dX11_begunBy_54 (Nat.le_of_ble_eq_true rfl) rfl ?_
              refine go_inc4 dX11_begunBy_55 (Nat.le_of_ble_eq_true rfl) rfl ?_
              refine go_goto (tgt := 5) dX11_begunBy_58 (by decide) ?_
              refine ih (k + 1) _ ?_ (by omega) (by omega)
              first
                | (rw [if_neg (fun z => z.1 (by omega))] at hs1; push_cast; omega)
                | (rw [if_neg (fun z => by rw [hW1] at z; rw [if_pos z.2] at b32; exact absurd b32 (by decide))] at hs1; push_cast; omega)
                | (rw [if_neg (fun z => by rw [hW1] at z; rw [if_pos z.2] at b45; exact absurd b45 (by decide))] at hs1; push_cast; omega)
                | (have hz : W.getD r [] <+: W.getD k [] := by (rw [hW1]; by_cases z : L.getD r [] <+: L.getD k []; exact z; rw [if_neg z] at b32; exact absurd rfl b32)
                   rw [if_pos ⟨by omega, hz⟩] at hs1; push_cast; omega)
                | (have hz : W.getD r [] <+: W.getD k [] := by (rw [hW1]; by_cases z : (mt_sg R m).getD r [] <+: (mt_sg R m).getD k []; exact z; rw [if_neg z] at b45; exact absurd rfl b45)
                   rw [if_pos ⟨by omega, hz⟩] at hs1; push_cast; omega)
  refine am_ev (by decide) [some (.ref 0), some (.int (iZ ((r : Int)))), some (.int (iZ (fl))), none, none] rfl (Nat.le_of_ble_eq_true rfl) ?_
  refine go_iconst dX11_begunBy_0 ?_
  refine go_ist3 dX11_begunBy_1 (Nat.le_of_ble_eq_true rfl) rfl ?_
  refine go_iconst dX11_begunBy_2 ?_
  refine go_ist4 dX11_begunBy_3 (Nat.le_of_ble_eq_true rfl) rfl ?_
  exact loop (R.length + 1) 0 0 (by rw [List.drop_zero]; push_cast; rw [hT]; omega) (by omega) (by omega)
theorem ev_X11_ruleNow {σ : am_St} {s : mS} {r : Nat} {w : Int} (h : tbM σ s.1 s.2.1 s.2.2.1) (h5 : σ.1 0 5 = (s.2.2.1 : Int)) (hr : r < s.2.1.length) (h0 : 0 ≤ w) (h4 : w ≤ 4) : am_Ev SH mX11_ruleNow 3 [.ref 0, .int (iZ (r : Int)), .int (iZ w)] σ (am_rI (fun x σ2 => x = m_rule s r w ∧ σ2 = σ)) := by
  have hlr := h.2.2.2.2.1
  have h8 := h.2.2.2.2.2.1
  have hc : 0 ≤ (r : Int) ∧ (r : Int) < s.2.1.length := by omega
  have hm : m_rule s r w = if w = 0 then ((s.1.getD r []).length : Int) else if w = 1 then ((s.2.1.getD r []).length : Int) else if w = 2 then ((s.2.2.1 / 2 ^ r % 2 : Nat) : Int) else if w = 3 then mt_ob ((mt_sg s.2.1 s.2.2.1).getD r []) (mt_sg s.2.1 s.2.2.1) 0 r else if w = 4 then mt_ob (s.1.getD r []) s.1 0 r else -102 := by unfold m_rule; rw [if_neg (fun z => z hc), Int.toNat_natCast]
  rw [hm]
  refine am_ev (by decide) [some (.ref 0), some (.int (iZ ((r : Int)))), some (.int (iZ (w)))] rfl (Nat.le_of_ble_eq_true rfl) ?_
  refine go_iload_n dX11_ruleNow_0 rfl ?_
  rcases (by omega : w = 0 ∨ w = 1 ∨ w = 2 ∨ w = 3 ∨ w = 4) with rfl | rfl | rfl | rfl | rfl
  · refine go_tswIn (tgt := 32) (off := 31) dX11_ruleNow_1 (by unfold inR; omega) (by omega) (by omega) (by rfl) (by decide) ?_
    refine go_aload_n dX11_ruleNow_32 rfl ?_
    refine go_getr fl_X11_7 dX11_ruleNow_33 sh_0 rfl ?_
    refine go_iload_n dX11_ruleNow_36 rfl ?_
    refine go_iaload dX11_ruleNow_37 (by first | assumption | rfl) (by first | assumption | exact Nat.le_of_ble_eq_true rfl) (by omega) (by omega) ?_
    first | (rw [(h.2.2.1 r (by omega)).1]) | skip
    refine go_retI dX11_ruleNow_38 rfl ?_
    exact ⟨rfl, rfl⟩
  · refine go_tswIn (tgt := 39) (off := 38) dX11_ruleNow_1 (by unfold inR; omega) (by omega) (by omega) (by rfl) (by decide) ?_
    refine go_aload_n dX11_ruleNow_39 rfl ?_
    refine go_getr fl_X11_13 dX11_ruleNow_40 sh_0 rfl ?_
    refine go_iload_n dX11_ruleNow_43 rfl ?_
    refine go_iaload dX11_ruleNow_44 (by first | assumption | rfl) (by first | assumption | exact Nat.le_of_ble_eq_true rfl) (by omega) (by omega) ?_
    first | (rw [(h.2.2.2.1 r hr).1]) | skip
    refine go_retI dX11_ruleNow_45 rfl ?_
    exact ⟨rfl, rfl⟩
  · refine go_tswIn (tgt := 46) (off := 45) dX11_ruleNow_1 (by unfold inR; omega) (by omega) (by omega) (by rfl) (by decide) ?_
    refine go_aload_n dX11_ruleNow_46 rfl ?_
    refine go_geti fl_X11_112 dX11_ruleNow_47 sh_0 rfl ?_
    first | (rw [h5]) | skip
    refine go_iload_n dX11_ruleNow_50 rfl ?_
    refine go_ishr dX11_ruleNow_51 ?_
    refine go_iconst dX11_ruleNow_52 ?_
    refine go_iand dX11_ruleNow_53 ?_
    rw [mt_bit h.2.2.2.2.mk (by omega)]
    refine go_retI dX11_ruleNow_54 rfl ?_
    exact ⟨rfl, rfl⟩
  · refine go_tswIn (tgt := 55) (off := 54) dX11_ruleNow_1 (by unfold inR; omega) (by omega) (by omega) (by rfl) (by decide) ?_
    refine go_aload_n dX11_ruleNow_55 rfl ?_
    refine go_iload_n dX11_ruleNow_56 rfl ?_
    refine go_iconst dX11_ruleNow_57 ?_
    refine go_cvP2 (M2 := mX11_begunBy) dX11_ruleNow_58 ml_X11_160 mv_X11_begunBy sh_0 rfl rfl (Nat.le_of_ble_eq_true rfl) (by decide) (ev_X11_begunBy h hr (Or.inl ⟨rfl, rfl⟩)) ?_
    refine go_retI dX11_ruleNow_61 rfl ?_
    exact ⟨rfl, rfl⟩
  · refine go_tswOut (tgt := 62) dX11_ruleNow_1 (by unfold inR; omega) (by omega) (by decide) ?_
    refine go_aload_n dX11_ruleNow_62 rfl ?_
    refine go_iload_n dX11_ruleNow_63 rfl ?_
    refine go_iconst dX11_ruleNow_64 ?_
    refine go_cvP2 (M2 := mX11_begunBy) dX11_ruleNow_65 ml_X11_160 mv_X11_begunBy sh_0 rfl rfl (Nat.le_of_ble_eq_true rfl) (by decide) (ev_X11_begunBy h hr (Or.inr ⟨rfl, rfl⟩)) ?_
    refine go_retI dX11_ruleNow_68 rfl ?_
    exact ⟨rfl, rfl⟩
theorem ev_X11_rule {σ : am_St} {s : mS} {r w : Int} (h : RepM σ s) (hr : inR r) (hw : inR w) : am_Ev SH mX11_rule 4 [.ref 0, .int (iZ r), .int (iZ w)] σ (am_rI (fun x σ2 => x = m_rule s r w ∧ σ2 = σ)) := by
  refine am_ev (by decide) [some (.ref 0), some (.int (iZ (r))), some (.int (iZ (w)))] rfl (Nat.le_of_ble_eq_true rfl) ?_
  refine go_aload_n dX11_rule_0 rfl ?_
  refine go_iload_n dX11_rule_1 rfl ?_
  refine go_cvP1 (M2 := mX11_isRule) dX11_rule_2 ml_X11_150 mv_X11_isRule sh_0 rfl rfl (Nat.le_of_ble_eq_true rfl) (by decide) (ev_X11_isRule h.1 hr) ?_
  refine go_if_ne (tgt := 13) dX11_rule_5 (by decide) (by unfold inR; split <;> omega) (fun b5 => ?_) (fun b5 => ?_)
  · skip
    have hc : 0 ≤ r ∧ r < s.2.1.length := by by_cases z : 0 ≤ r ∧ r < (s.2.1.length : Int); exact z; rw [if_neg z] at b5; exact absurd rfl b5
    obtain ⟨n, rfl⟩ : ∃ n : Nat, r = (n : Int) := ⟨r.toNat, by omega⟩
    refine go_iload_n dX11_rule_13 rfl ?_
    refine go_iconst dX11_rule_14 ?_
    refine go_iconst dX11_rule_15 ?_
    refine go_csP3 (M2 := mX11_within) dX11_rule_16 ml_X11_71 ms_X11_within (Nat.le_of_ble_eq_true rfl) (by decide) (ev_X11_within hw (by unfold inR; omega) (by unfold inR; omega)) ?_
    refine go_if_eq (tgt := 31) dX11_rule_19 (by decide) (by unfold inR; split <;> omega) (fun b19 => ?_) (fun b19 => ?_)
    · skip
      have hw4 : ¬ (0 ≤ w ∧ w ≤ 4) := fun z => by rw [if_pos z] at b19; exact absurd b19 (by decide)
      refine go_bipush dX11_rule_31 rfl ?_
      refine go_retI dX11_rule_33 rfl ?_
      refine ⟨?_, rfl⟩
      first
        | rfl
        | (unfold m_rule; rw [if_pos hc])
        | (unfold m_rule; rw [if_neg (fun z => z hc), if_neg (by omega), if_neg (by omega), if_neg (by omega), if_neg (by omega), if_neg (by omega)])
    · skip
      have hw4 : 0 ≤ w ∧ w ≤ 4 := by by_cases z : 0 ≤ w ∧ w ≤ 4; exact z; rw [if_neg z] at b19; exact absurd rfl b19
      refine go_aload_n dX11_rule_22 rfl ?_
      refine go_iload_n dX11_rule_23 rfl ?_
      refine go_iload_n dX11_rule_24 rfl ?_
      refine go_cvP2 (M2 := mX11_ruleNow) dX11_rule_25 ml_X11_164 mv_X11_ruleNow sh_0 rfl rfl (Nat.le_of_ble_eq_true rfl) (by decide) (ev_X11_ruleNow h.1 h.2.1 (by omega) hw4.1 hw4.2) ?_
      refine go_goto (tgt := 33) dX11_rule_28 (by decide) ?_
      refine go_retI dX11_rule_33 rfl ?_
      refine ⟨?_, rfl⟩
      first
        | rfl
        | (unfold m_rule; rw [if_pos hc])
        | (unfold m_rule; rw [if_neg (fun z => z hc), if_neg (by omega), if_neg (by omega), if_neg (by omega), if_neg (by omega), if_neg (by omega)])
  · skip
    have hc : ¬ (0 ≤ r ∧ r < s.2.1.length) := fun z => by rw [if_pos z] at b5; exact absurd b5 (by decide)
    refine go_bipush dX11_rule_8 rfl ?_
    refine go_goto (tgt := 33) dX11_rule_10 (by decide) ?_
    refine go_retI dX11_rule_33 rfl ?_
    refine ⟨?_, rfl⟩
    first
      | rfl
      | (unfold m_rule; rw [if_pos hc])
      | (unfold m_rule; rw [if_neg (fun z => z hc), if_neg (by omega), if_neg (by omega), if_neg (by omega), if_neg (by omega), if_neg (by omega)])
theorem sgn_l {σ : am_St} {L R : List (List Int)} {m n j : Nat} {side : Int} (t : tbM σ L R m) (hn : n < L.length) (hj : j < (L.getD n []).length) (hs : side = 0) : am_Go SH mX11_sign 2 (am_rI (fun x σ2 => x = wd_char (L.getD n []) (j : Int) ∧ σ2 = σ)) 54 [some (.ref 0), some (.int (iZ (n : Int))), some (.int (iZ side)), some (.int (iZ (j : Int)))] [] σ := by
  subst hs
  have hlr := t.2.2.2.2.1
  have h8 := t.2.2.2.2.2.1
  have l3 := (okr_get t.2.2.2.2.2.2.2.1 n).2
  refine go_iload_n dX11_sign_54 rfl ?_
  refine go_if_ne (tgt := 71) dX11_sign_55 (by decide) (by unfold inR; omega) (fun b55 => ?_) (fun b55 => ?_)
  · skip
    exact absurd rfl b55
  · skip
    refine go_aload_n dX11_sign_58 rfl ?_
    refine go_getr fl_X11_16 dX11_sign_59 sh_0 rfl ?_
    refine go_iconst dX11_sign_62 ?_
    refine go_iload_n dX11_sign_63 rfl ?_
    refine go_imul dX11_sign_64 ?_
    refine go_iload_n dX11_sign_65 rfl ?_
    refine go_iadd dX11_sign_66 ?_
    refine go_iaload dX11_sign_67 (by first | assumption | rfl) (by first | assumption | exact Nat.le_of_ble_eq_true rfl) (by omega) (by omega) ?_
    first | (rw [(t.2.2.1 n hn).2 j hj]) | skip
    refine go_goto (tgt := 77) dX11_sign_68 (by decide) ?_
    refine go_retI dX11_sign_77 rfl ?_
    exact ⟨rfl, rfl⟩
theorem sgn_r {σ : am_St} {L R : List (List Int)} {m n j : Nat} {side : Int} (t : tbM σ L R m) (hn : n < R.length) (hj : j < ((mt_sg R m).getD n []).length) (hs : ¬ side = 0) (hR : inR side) : am_Go SH mX11_sign 2 (am_rI (fun x σ2 => x = wd_char ((mt_sg R m).getD n []) (j : Int) ∧ σ2 = σ)) 54 [some (.ref 0), some (.int (iZ (n : Int))), some (.int (iZ side)), some (.int (iZ (j : Int)))] [] σ := by
  refine go_iload_n dX11_sign_54 rfl ?_
  refine go_if_ne (tgt := 71) dX11_sign_55 (by decide) hR (fun b55 => ?_) (fun b55 => ?_)
  · skip
    refine go_aload_n dX11_sign_71 rfl ?_
    refine go_iload_n dX11_sign_72 rfl ?_
    refine go_iload_n dX11_sign_73 rfl ?_
    refine go_cvP2 (M2 := mX11_signAt) dX11_sign_74 ml_X11_140 mv_X11_signAt sh_0 rfl rfl (Nat.le_of_ble_eq_true rfl) (by decide) (ev_X11_signAt t hn hj) ?_
    refine go_retI dX11_sign_77 rfl ?_
    exact ⟨rfl, rfl⟩
  · skip
    exact absurd b55 hs
theorem ev_X11_sign {σ : am_St} {s : mS} {r side p : Int} (h : RepM σ s) (hr : inR r) (hs : inR side) (hp : inR p) : am_Ev SH mX11_sign 2 [.ref 0, .int (iZ r), .int (iZ side), .int (iZ p)] σ (am_rI (fun x σ2 => x = m_sign s r side p ∧ σ2 = σ)) := by
  have t := h.1
  have hlr := t.2.2.2.2.1
  have h8 := t.2.2.2.2.2.1
  by_cases hc : 0 ≤ r ∧ r < s.2.1.length
  · obtain ⟨n, rfl⟩ : ∃ n : Nat, r = (n : Int) := ⟨r.toNat, by omega⟩
    have kl := t.2.2.1 n (by omega)
    have l3 := (okr_get t.2.2.2.2.2.2.2.1 n).2
    have s4 := (t.sg n).2
    have hms : m_sign s n side p = if side < 0 ∨ 1 < side then -102 else if side = 0 then wd_char (s.1.getD n []) p else wd_char ((mt_sg s.2.1 s.2.2.1).getD n []) p := by unfold m_sign; rw [if_neg (fun z => z hc), Int.toNat_natCast]
    rw [hms]
    refine am_ev (by decide) [some (.ref 0), some (.int (iZ ((n : Int)))), some (.int (iZ (side))), some (.int (iZ (p)))] rfl (Nat.le_of_ble_eq_true rfl) ?_
    refine go_aload_n dX11_sign_0 rfl ?_
    refine go_iload_n dX11_sign_1 rfl ?_
    refine go_cvP1 (M2 := mX11_isRule) dX11_sign_2 ml_X11_150 mv_X11_isRule sh_0 rfl rfl (Nat.le_of_ble_eq_true rfl) (by decide) (ev_X11_isRule t hr) ?_
    rw [if_pos hc]
    refine go_if_ne (tgt := 11) dX11_sign_5 (by decide) (by unfold inR; omega) (fun b5 => ?_) (fun b5 => ?_)
    · skip
      refine go_iload_n dX11_sign_11 rfl ?_
      refine go_iconst dX11_sign_12 ?_
      refine go_iconst dX11_sign_13 ?_
      refine go_csP3 (M2 := mX11_within) dX11_sign_14 ml_X11_71 ms_X11_within (Nat.le_of_ble_eq_true rfl) (by decide) (ev_X11_within hs (by unfold inR; omega) (by unfold inR; omega)) ?_
      refine go_if_ne (tgt := 23) dX11_sign_17 (by decide) (by unfold inR; split <;> omega) (fun b17 => ?_) (fun b17 => ?_)
      · skip
        have hsd : 0 ≤ side ∧ side ≤ 1 := by by_cases z : 0 ≤ side ∧ side ≤ 1; exact z; rw [if_neg z] at b17; exact absurd rfl b17
        rw [if_neg (by omega)]
        refine go_iload_n dX11_sign_23 rfl ?_
        refine go_iconst dX11_sign_24 ?_
        refine go_iload_n dX11_sign_25 rfl ?_
        refine go_if_ne (tgt := 38) dX11_sign_26 (by decide) (by unfold inR; omega) (fun b26 => ?_) (fun b26 => ?_)
        · skip
          rw [if_neg b26]
          refine go_aload_n dX11_sign_38 rfl ?_
          refine go_iload_n dX11_sign_39 rfl ?_
          refine go_cvP1 (M2 := mX11_signLength) dX11_sign_40 ml_X11_137 mv_X11_signLength sh_0 rfl rfl (Nat.le_of_ble_eq_true rfl) (by decide) (ev_X11_signLength t (by omega)) ?_
          refine go_iconst dX11_sign_43 ?_
          refine go_isub dX11_sign_44 ?_
          refine go_csP3 (M2 := mX11_within) dX11_sign_45 ml_X11_71 ms_X11_within (Nat.le_of_ble_eq_true rfl) (by decide) (ev_X11_within hp (by unfold inR; omega) (by unfold inR; omega)) ?_
          refine go_if_ne (tgt := 54) dX11_sign_48 (by decide) (by unfold inR; split <;> omega) (fun b48 => ?_) (fun b48 => ?_)
          · skip
            have hpp : 0 ≤ p := by by_cases z : 0 ≤ p; exact z; rw [if_neg (fun q => z q.1)] at b48; exact absurd rfl b48
            obtain ⟨j, rfl⟩ : ∃ n : Nat, p = (n : Int) := ⟨p.toNat, by omega⟩
            first
              | (have hj : j < (s.1.getD n []).length := by by_cases z : j < (s.1.getD n []).length; exact z; rw [if_neg (fun q => z (by omega))] at b48; exact absurd rfl b48
                 have hs0 : side = 0 := b26
                 exact sgn_l t (by omega) hj hs0)
              | (have hj : j < ((mt_sg s.2.1 s.2.2.1).getD n []).length := by by_cases z : j < ((mt_sg s.2.1 s.2.2.1).getD n []).length; exact z; rw [if_neg (fun q => z (by omega))] at b48; exact absurd rfl b48
                 have hs0 : ¬ side = 0 := b26
                 exact sgn_r t (by omega) hj hs0 hs)
          · skip
            refine go_bipush dX11_sign_51 rfl ?_
            refine go_retI dX11_sign_53 rfl ?_
            refine ⟨?_, rfl⟩
            first
              | (unfold wd_char; rw [if_pos (by by_cases q : p < 0; exact Or.inl q; refine Or.inr ?_; by_cases q2 : ((s.1.getD n []).length : Int) ≤ p; exact q2; rw [if_pos (by omega)] at b48; exact absurd b48 (by decide))]; done)
              | (unfold wd_char; rw [if_pos (by by_cases q : p < 0; exact Or.inl q; refine Or.inr ?_; by_cases q2 : (((mt_sg s.2.1 s.2.2.1).getD n []).length : Int) ≤ p; exact q2; rw [if_pos (by omega)] at b48; exact absurd b48 (by decide))])
        · skip
          rw [if_pos b26]
          refine go_aload_n dX11_sign_29 rfl ?_
          refine go_getr fl_X11_7 dX11_sign_30 sh_0 rfl ?_
          refine go_iload_n dX11_sign_33 rfl ?_
          refine go_iaload dX11_sign_34 (by first | assumption | rfl) (by first | assumption | exact Nat.le_of_ble_eq_true rfl) (by omega) (by omega) ?_
          rw [kl.1]
          refine go_goto (tgt := 43) dX11_sign_35 (by decide) ?_
          refine go_iconst dX11_sign_43 ?_
          refine go_isub dX11_sign_44 ?_
          refine go_csP3 (M2 := mX11_within) dX11_sign_45 ml_X11_71 ms_X11_within (Nat.le_of_ble_eq_true rfl) (by decide) (ev_X11_within hp (by unfold inR; omega) (by unfold inR; omega)) ?_
          refine go_if_ne (tgt := 54) dX11_sign_48 (by decide) (by unfold inR; split <;> omega) (fun b48 => ?_) (fun b48 => ?_)
          · skip
            have hpp : 0 ≤ p := by by_cases z : 0 ≤ p; exact z; rw [if_neg (fun q => z q.1)] at b48; exact absurd rfl b48
            obtain ⟨j, rfl⟩ : ∃ n : Nat, p = (n : Int) := ⟨p.toNat, by omega⟩
            first
              | (have hj : j < (s.1.getD n []).length := by by_cases z : j < (s.1.getD n []).length; exact z; rw [if_neg (fun q => z (by omega))] at b48; exact absurd rfl b48
                 have hs0 : side = 0 := b26
                 exact sgn_l t (by omega) hj hs0)
              | (have hj : j < ((mt_sg s.2.1 s.2.2.1).getD n []).length := by by_cases z : j < ((mt_sg s.2.1 s.2.2.1).getD n []).length; exact z; rw [if_neg (fun q => z (by omega))] at b48; exact absurd rfl b48
                 have hs0 : ¬ side = 0 := b26
                 exact sgn_r t (by omega) hj hs0 hs)
          · skip
            refine go_bipush dX11_sign_51 rfl ?_
            refine go_retI dX11_sign_53 rfl ?_
            refine ⟨?_, rfl⟩
            first
              | (unfold wd_char; rw [if_pos (by by_cases q : p < 0; exact Or.inl q; refine Or.inr ?_; by_cases q2 : ((s.1.getD n []).length : Int) ≤ p; exact q2; rw [if_pos (by omega)] at b48; exact absurd b48 (by decide))]; done)
              | (unfold wd_char; rw [if_pos (by by_cases q : p < 0; exact Or.inl q; refine Or.inr ?_; by_cases q2 : (((mt_sg s.2.1 s.2.2.1).getD n []).length : Int) ≤ p; exact q2; rw [if_pos (by omega)] at b48; exact absurd b48 (by decide))])
      · skip
        refine go_bipush dX11_sign_20 rfl ?_
        refine go_retI dX11_sign_22 rfl ?_
        have hsd : ¬ (0 ≤ side ∧ side ≤ 1) := fun z => by rw [if_pos z] at b17; exact absurd b17 (by decide)
        rw [if_pos (by omega)]; exact ⟨rfl, rfl⟩
    · skip
      exact absurd b5 (by decide)
  · have hms : m_sign s r side p = -101 := by unfold m_sign; rw [if_pos hc]
    rw [hms]
    refine am_ev (by decide) [some (.ref 0), some (.int (iZ (r))), some (.int (iZ (side))), some (.int (iZ (p)))] rfl (Nat.le_of_ble_eq_true rfl) ?_
    refine go_aload_n dX11_sign_0 rfl ?_
    refine go_iload_n dX11_sign_1 rfl ?_
    refine go_cvP1 (M2 := mX11_isRule) dX11_sign_2 ml_X11_150 mv_X11_isRule sh_0 rfl rfl (Nat.le_of_ble_eq_true rfl) (by decide) (ev_X11_isRule t hr) ?_
    rw [if_neg hc]
    refine go_if_ne (tgt := 11) dX11_sign_5 (by decide) (by unfold inR; omega) (fun b5 => ?_) (fun b5 => ?_)
    · skip
      exact absurd rfl b5
    · skip
      refine go_bipush dX11_sign_8 rfl ?_
      refine go_retI dX11_sign_10 rfl ?_
      exact ⟨rfl, rfl⟩
theorem ev_X11_ink {σ : am_St} {s : mS} {p : Int} (h : RepM σ s) (hp : inR p) : am_Ev SH mX11_ink 1 [.ref 0, .int (iZ p)] σ (am_rI (fun x σ2 => x = ln_at s.2.2.2.1 p ∧ σ2 = σ)) := by
  obtain ⟨a1, a2, a3, a4⟩ := h.2.2.1
  by_cases hc : 0 ≤ p ∧ p ≤ (s.2.2.2.1.length : Int) - 1
  · obtain ⟨j, rfl⟩ : ∃ n : Nat, p = (n : Int) := ⟨p.toNat, by omega⟩
    have e := a2 j (by omega)
    refine am_ev (by decide) [some (.ref 0), some (.int (iZ ((j : Int))))] rfl (Nat.le_of_ble_eq_true rfl) ?_
    refine go_iload_n dX11_ink_0 rfl ?_
    refine go_iconst dX11_ink_1 ?_
    refine go_aload_n dX11_ink_2 rfl ?_
    refine go_geti fl_X11_118 dX11_ink_3 sh_0 rfl ?_
    first | (rw [a1]) | (rw [e]) | skip
    refine go_iconst dX11_ink_6 ?_
    refine go_isub dX11_ink_7 ?_
    refine go_csP3 (M2 := mX11_within) dX11_ink_8 ml_X11_71 ms_X11_within (Nat.le_of_ble_eq_true rfl) (by decide) (ev_X11_within hp (by unfold inR; omega) (by unfold inR; omega)) ?_
    rw [if_pos hc]
    refine go_if_eq (tgt := 23) dX11_ink_11 (by decide) (by unfold inR; omega) (fun b11 => ?_) (fun b11 => ?_)
    · skip
      exact absurd b11 (by decide)
    · skip
      refine go_aload_n dX11_ink_14 rfl ?_
      refine go_getr fl_X11_22 dX11_ink_15 sh_0 rfl ?_
      refine go_iload_n dX11_ink_18 rfl ?_
      refine go_iaload dX11_ink_19 (by first | assumption | rfl) (by first | assumption | exact Nat.le_of_ble_eq_true rfl) (by omega) (by omega) ?_
      first | (rw [a1]) | (rw [e]) | skip
      refine go_goto (tgt := 25) dX11_ink_20 (by decide) ?_
      refine go_retI dX11_ink_25 rfl ?_
      exact ⟨rfl, rfl⟩
  · skip
    refine am_ev (by decide) [some (.ref 0), some (.int (iZ (p)))] rfl (Nat.le_of_ble_eq_true rfl) ?_
    refine go_iload_n dX11_ink_0 rfl ?_
    refine go_iconst dX11_ink_1 ?_
    refine go_aload_n dX11_ink_2 rfl ?_
    refine go_geti fl_X11_118 dX11_ink_3 sh_0 rfl ?_
    first | (rw [a1]) | skip
    refine go_iconst dX11_ink_6 ?_
    refine go_isub dX11_ink_7 ?_
    refine go_csP3 (M2 := mX11_within) dX11_ink_8 ml_X11_71 ms_X11_within (Nat.le_of_ble_eq_true rfl) (by decide) (ev_X11_within hp (by unfold inR; omega) (by unfold inR; omega)) ?_
    rw [if_neg hc]
    refine go_if_eq (tgt := 23) dX11_ink_11 (by decide) (by unfold inR; omega) (fun b11 => ?_) (fun b11 => ?_)
    · skip
      refine go_bipush dX11_ink_23 rfl ?_
      refine go_retI dX11_ink_25 rfl ?_
      refine ⟨?_, rfl⟩
      unfold ln_at
      rw [if_pos (by omega)]
    · skip
      exact absurd rfl b11
theorem ev_X11_bits {σ : am_St} {n : Nat} (hn : n < 256) : am_Ev SH mX11_bits 0 [.int (iZ (n : Int))] σ (am_rI (fun x σ2 => x = mt_bc n ∧ σ2 = σ)) := by
  have loop : ∀ (m2 : Nat) (k : Nat) (acc : Int), acc = ((List.range k).map (fun k => ((n / 2 ^ k % 2 : Nat) : Int))).sum → 8 - k < m2 → k ≤ 8 → am_Go SH mX11_bits 0 (am_rI (fun x σ2 => x = mt_bc n ∧ σ2 = σ)) 4 [some (.int (iZ (n : Int))), some (.int (iZ acc)), some (.int (iZ (k : Int)))] [] σ := by
    intro m2
    induction m2 with
    | zero => intro k acc _ hm; exact absurd hm (by omega)
    | succ m2 ih =>
      intro k acc he hm hk
      refine go_iload_n dX11_bits_4 rfl ?_
      refine go_bipush dX11_bits_5 rfl ?_
      refine go_icmp_ge (tgt := 24) dX11_bits_7 (by decide) (by unfold inR; omega) (by unfold inR; omega) (fun b7 => ?_) (fun b7 => ?_)
      · skip
        refine go_iload_n dX11_bits_24 rfl ?_
        refine go_retI dX11_bits_25 rfl ?_
        exact ⟨by rw [he, show k = 8 by omega]; rfl, rfl⟩
      · skip
        refine go_iload_n dX11_bits_10 rfl ?_
        refine go_iload_n dX11_bits_11 rfl ?_
        refine go_iload_n dX11_bits_12 rfl ?_
        refine go_ishr dX11_bits_13 ?_
        refine go_iconst dX11_bits_14 ?_
        refine go_iand dX11_bits_15 ?_
        rw [mt_bit hn (by omega)]
        refine go_iadd dX11_bits_16 ?_
        refine go_ist1 dX11_bits_17 (Nat.le_of_ble_eq_true rfl) rfl ?_
        refine go_inc2 dX11_bits_18 (Nat.le_of_ble_eq_true rfl) rfl ?_
        refine go_goto (tgt := 4) dX11_bits_21 (by decide) ?_
        refine ih (k + 1) _ ?_ (by omega) (by omega)
        rw [List.range_succ, List.map_append, List.sum_append, ← he]; simp
  refine am_ev (by decide) [some (.int (iZ ((n : Int)))), none, none] rfl (Nat.le_of_ble_eq_true rfl) ?_
  refine go_iconst dX11_bits_0 ?_
  refine go_ist1 dX11_bits_1 (Nat.le_of_ble_eq_true rfl) rfl ?_
  refine go_iconst dX11_bits_2 ?_
  refine go_ist2 dX11_bits_3 (Nat.le_of_ble_eq_true rfl) rfl ?_
  exact loop 9 0 0 rfl (by omega) (by omega)
theorem ev_X11_howMany {σ : am_St} {s : mS} {w : Int} (h : RepM σ s) (hw : inR w) : am_Ev SH mX11_howMany 1 [.ref 0, .int (iZ w)] σ (am_rI (fun x σ2 => x = m_count s w ∧ σ2 = σ)) := by
  have hmk := h.1.2.2.2.2.mk
  refine am_ev (by decide) [some (.ref 0), some (.int (iZ (w)))] rfl (Nat.le_of_ble_eq_true rfl) ?_
  refine go_iload_n dX11_howMany_0 rfl ?_
  by_cases hout : w < 0 ∨ 6 < w
  · refine go_tswOut (tgt := 82) dX11_howMany_1 hw hout (by decide) ?_
    refine go_bipush dX11_howMany_82 rfl ?_
    refine go_retI dX11_howMany_84 rfl ?_
    refine ⟨?_, rfl⟩
    unfold m_count
    rw [if_neg (by omega), if_neg (by omega), if_neg (by omega), if_neg (by omega), if_neg (by omega), if_neg (by omega), if_neg (by omega)]
  · rcases (by omega : w = 0 ∨ w = 1 ∨ w = 2 ∨ w = 3 ∨ w = 4 ∨ w = 5 ∨ w = 6) with rfl | rfl | rfl | rfl | rfl | rfl | rfl
    · refine go_tswIn (tgt := 44) (off := 43) dX11_howMany_1 (by unfold inR; omega) (by omega) (by omega) (by rfl) (by decide) ?_
      refine go_aload_n dX11_howMany_44 rfl ?_
      refine go_geti fl_X11_109 dX11_howMany_45 sh_0 rfl ?_
      first | (rw [h.1.1]) | skip
      refine go_retI dX11_howMany_48 rfl ?_
      exact ⟨rfl, rfl⟩
    · refine go_tswIn (tgt := 49) (off := 48) dX11_howMany_1 (by unfold inR; omega) (by omega) (by omega) (by rfl) (by decide) ?_
      refine go_aload_n dX11_howMany_49 rfl ?_
      refine go_geti fl_X11_75 dX11_howMany_50 sh_0 rfl ?_
      first | (rw [h.2.2.2.1.1]) | skip
      refine go_retI dX11_howMany_53 rfl ?_
      exact ⟨rfl, rfl⟩
    · refine go_tswIn (tgt := 54) (off := 53) dX11_howMany_1 (by unfold inR; omega) (by omega) (by omega) (by rfl) (by decide) ?_
      refine go_aload_n dX11_howMany_54 rfl ?_
      refine go_geti fl_X11_118 dX11_howMany_55 sh_0 rfl ?_
      first | (rw [h.2.2.1.1]) | skip
      refine go_retI dX11_howMany_58 rfl ?_
      exact ⟨rfl, rfl⟩
    · refine go_tswIn (tgt := 59) (off := 58) dX11_howMany_1 (by unfold inR; omega) (by omega) (by omega) (by rfl) (by decide) ?_
      refine go_aload_n dX11_howMany_59 rfl ?_
      refine go_geti fl_X11_112 dX11_howMany_60 sh_0 rfl ?_
      first | (rw [h.2.1]) | skip
      refine go_csP1 (M2 := mX11_bits) dX11_howMany_63 ml_X11_303 ms_X11_bits (Nat.le_of_ble_eq_true rfl) (by decide) (ev_X11_bits hmk) ?_
      refine go_retI dX11_howMany_66 rfl ?_
      exact ⟨rfl, rfl⟩
    · refine go_tswIn (tgt := 67) (off := 66) dX11_howMany_1 (by unfold inR; omega) (by omega) (by omega) (by rfl) (by decide) ?_
      refine go_aload_n dX11_howMany_67 rfl ?_
      refine go_geti fl_X11_121 dX11_howMany_68 sh_0 rfl ?_
      first | (rw [h.2.2.2.2.1]) | skip
      refine go_retI dX11_howMany_71 rfl ?_
      exact ⟨rfl, rfl⟩
    · refine go_tswIn (tgt := 72) (off := 71) dX11_howMany_1 (by unfold inR; omega) (by omega) (by omega) (by rfl) (by decide) ?_
      refine go_aload_n dX11_howMany_72 rfl ?_
      refine go_geti fl_X11_144 dX11_howMany_73 sh_0 rfl ?_
      first | (rw [h.2.2.2.2.2.1]) | skip
      refine go_retI dX11_howMany_76 rfl ?_
      exact ⟨rfl, rfl⟩
    · refine go_tswIn (tgt := 77) (off := 76) dX11_howMany_1 (by unfold inR; omega) (by omega) (by omega) (by rfl) (by decide) ?_
      refine go_aload_n dX11_howMany_77 rfl ?_
      refine go_geti fl_X11_147 dX11_howMany_78 sh_0 rfl ?_
      first | (rw [h.2.2.2.2.2.2.1]) | skip
      refine go_retI dX11_howMany_81 rfl ?_
      exact ⟨rfl, rfl⟩
theorem ev_X11_count {σ : am_St} {s : mS} {w : Int} (h : RepM σ s) (hw : inR w) : am_Ev SH mX11_count 2 [.ref 0, .int (iZ w)] σ (am_rI (fun x σ2 => x = m_count s w ∧ σ2 = σ)) := by
  refine am_ev (by decide) [some (.ref 0), some (.int (iZ (w)))] rfl (Nat.le_of_ble_eq_true rfl) ?_
  refine go_aload_n dX11_count_0 rfl ?_
  refine go_iload_n dX11_count_1 rfl ?_
  refine go_cvP1 (M2 := mX11_howMany) dX11_count_2 ml_X11_337 mv_X11_howMany sh_0 rfl rfl (Nat.le_of_ble_eq_true rfl) (by decide) (ev_X11_howMany h hw) ?_
  refine go_retI dX11_count_5 rfl ?_
  exact ⟨rfl, rfl⟩
