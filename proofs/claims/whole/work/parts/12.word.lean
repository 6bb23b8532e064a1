/-! ===== Word, Math.max, Math.min ===== -/
def wd_sz (w : Int) : Int := if w < 16384 then (if w < 128 then 0 else 1) else if w < 2097152 then 2 else if w < 268435456 then 3 else 4
def wd_fe (w o : Int) : Int := am_and (am_shr w (7 * o)) 127
def wd_ap (w c : Int) : Int := am_or (am_shl w 7) (am_and c 127)
def wd_be (w s : Int) : Int := if 0 ≤ wd_sz w - wd_sz s ∧ am_shr w (7 * (wd_sz w - wd_sz s)) = s then 1 else 0
def wd_hi (w s : Int) : Int := am_or (am_shl 1 (7 * max 0 (wd_sz w - wd_sz s))) (am_and w (am_shl 1 (7 * max 0 (wd_sz w - wd_sz s)) - 1))
theorem wd_sz_bd (w : Int) : 0 ≤ wd_sz w ∧ wd_sz w ≤ 4 := by unfold wd_sz; split <;> (try split) <;> (try split) <;> omega
theorem am_and_R (a b : Int) : inR (am_and a b) := inR_of _
theorem am_or_R (a b : Int) : inR (am_or a b) := inR_of _
theorem am_xor_R (a b : Int) : inR (am_xor a b) := inR_of _
theorem am_shl_R (a b : Int) : inR (am_shl a b) := inR_of _
theorem am_shr_R (a b : Int) : inR (am_shr a b) := inR_of _
theorem ev_J9_max {σ : am_St} {a b : Int} (ha : inR a) (hb : inR b) : am_Ev SH mJ9_max_7cf53 0 [.int (iZ a), .int (iZ b)] σ (am_rI (fun x σ2 => x = max a b ∧ σ2 = σ)) := by
  refine am_evF (by decide +kernel) [some (.int (iZ (a))), some (.int (iZ (b)))] rfl (Nat.le_of_ble_eq_true rfl) ?_
  refine go_iload_n dJ9_max_7cf53_0 rfl ?_
  refine go_iload_n dJ9_max_7cf53_1 rfl ?_
  refine go_icmp_lt (tgt := 9) dJ9_max_7cf53_2 (by decide) ha hb (fun b2 => ?_) (fun b2 => ?_)
  · skip
    refine go_iload_n dJ9_max_7cf53_9 rfl ?_
    refine go_retI dJ9_max_7cf53_10 rfl ?_
    exact ⟨by omega, rfl⟩
  · skip
    refine go_iload_n dJ9_max_7cf53_5 rfl ?_
    refine go_goto (tgt := 10) dJ9_max_7cf53_6 (by decide) ?_
    refine go_retI dJ9_max_7cf53_10 rfl ?_
    exact ⟨by omega, rfl⟩
theorem ev_J9_min {σ : am_St} {a b : Int} (ha : inR a) (hb : inR b) : am_Ev SH mJ9_min_7cf53 0 [.int (iZ a), .int (iZ b)] σ (am_rI (fun x σ2 => x = min a b ∧ σ2 = σ)) := by
  refine am_evF (by decide +kernel) [some (.int (iZ (a))), some (.int (iZ (b)))] rfl (Nat.le_of_ble_eq_true rfl) ?_
  refine go_iload_n dJ9_min_7cf53_0 rfl ?_
  refine go_iload_n dJ9_min_7cf53_1 rfl ?_
  refine go_icmp_gt (tgt := 9) dJ9_min_7cf53_2 (by decide) ha hb (fun b2 => ?_) (fun b2 => ?_)
  · skip
    refine go_iload_n dJ9_min_7cf53_9 rfl ?_
    refine go_retI dJ9_min_7cf53_10 rfl ?_
    exact ⟨by omega, rfl⟩
  · skip
    refine go_iload_n dJ9_min_7cf53_5 rfl ?_
    refine go_goto (tgt := 10) dJ9_min_7cf53_6 (by decide) ?_
    refine go_retI dJ9_min_7cf53_10 rfl ?_
    exact ⟨by omega, rfl⟩
theorem ev_X9_size {σ : am_St} {w : Int} (hw : inR w) : am_Ev SH mX9_size 0 [.int (iZ w)] σ (am_rI (fun x σ2 => x = wd_sz w ∧ σ2 = σ)) := by
  unfold inR at hw
  refine am_ev (by decide) [some (.int (iZ (w)))] rfl (Nat.le_of_ble_eq_true rfl) ?_
  refine go_iload_n dX9_size_0 rfl ?_
  refine go_sipush dX9_size_1 rfl ?_
  refine go_icmp_ge (tgt := 20) dX9_size_4 (by decide) (by unfold inR; omega) (by unfold inR; omega) (fun b4 => ?_) (fun b4 => ?_)
  · skip
    refine go_iload_n dX9_size_20 rfl ?_
    refine go_ldc dX9_size_21 kc_X9_11 ?_
    refine go_icmp_ge (tgt := 28) dX9_size_23 (by decide) (by unfold inR; omega) (by unfold inR; omega) (fun b23 => ?_) (fun b23 => ?_)
    · skip
      refine go_iload_n dX9_size_28 rfl ?_
      refine go_ldc dX9_size_29 kc_X9_12 ?_
      refine go_icmp_ge (tgt := 38) dX9_size_31 (by decide) (by unfold inR; omega) (by unfold inR; omega) (fun b31 => ?_) (fun b31 => ?_)
      · skip
        refine go_iconst dX9_size_38 ?_
        refine go_retI dX9_size_39 rfl ?_
        refine ⟨?_, rfl⟩
        unfold wd_sz
        (repeat' split) <;> omega
      · skip
        refine go_iconst dX9_size_34 ?_
        refine go_goto (tgt := 39) dX9_size_35 (by decide) ?_
        refine go_retI dX9_size_39 rfl ?_
        refine ⟨?_, rfl⟩
        unfold wd_sz
        (repeat' split) <;> omega
    · skip
      refine go_iconst dX9_size_26 ?_
      refine go_retI dX9_size_27 rfl ?_
      refine ⟨?_, rfl⟩
      unfold wd_sz
      (repeat' split) <;> omega
  · skip
    refine go_iload_n dX9_size_7 rfl ?_
    refine go_sipush dX9_size_8 rfl ?_
    refine go_icmp_ge (tgt := 18) dX9_size_11 (by decide) (by unfold inR; omega) (by unfold inR; omega) (fun b11 => ?_) (fun b11 => ?_)
    · skip
      refine go_iconst dX9_size_18 ?_
      refine go_retI dX9_size_19 rfl ?_
      refine ⟨?_, rfl⟩
      unfold wd_sz
      (repeat' split) <;> omega
    · skip
      refine go_iconst dX9_size_14 ?_
      refine go_goto (tgt := 19) dX9_size_15 (by decide) ?_
      refine go_retI dX9_size_19 rfl ?_
      refine ⟨?_, rfl⟩
      unfold wd_sz
      (repeat' split) <;> omega
theorem ev_X9_append {σ : am_St} {w c : Int} : am_Ev SH mX9_append 0 [.int (iZ w), .int (iZ c)] σ (am_rI (fun x σ2 => x = wd_ap w c ∧ σ2 = σ)) := by
  refine am_ev (by decide) [some (.int (iZ (w))), some (.int (iZ (c)))] rfl (Nat.le_of_ble_eq_true rfl) ?_
  refine go_iload_n dX9_append_0 rfl ?_
  refine go_bipush dX9_append_1 rfl ?_
  refine go_ishl dX9_append_3 ?_
  refine go_iload_n dX9_append_4 rfl ?_
  refine go_bipush dX9_append_5 rfl ?_
  refine go_iand dX9_append_7 ?_
  refine go_ior dX9_append_8 ?_
  refine go_retI dX9_append_9 rfl ?_
  exact ⟨rfl, rfl⟩
theorem ev_X9_fromEnd {σ : am_St} {w c : Int} : am_Ev SH mX9_fromEnd 0 [.int (iZ w), .int (iZ c)] σ (am_rI (fun x σ2 => x = wd_fe w c ∧ σ2 = σ)) := by
  refine am_ev (by decide) [some (.int (iZ (w))), some (.int (iZ (c)))] rfl (Nat.le_of_ble_eq_true rfl) ?_
  refine go_iload_n dX9_fromEnd_0 rfl ?_
  refine go_bipush dX9_fromEnd_1 rfl ?_
  refine go_iload_n dX9_fromEnd_3 rfl ?_
  refine go_imul dX9_fromEnd_4 ?_
  refine go_ishr dX9_fromEnd_5 ?_
  refine go_bipush dX9_fromEnd_6 rfl ?_
  refine go_iand dX9_fromEnd_8 ?_
  refine go_retI dX9_fromEnd_9 rfl ?_
  exact ⟨rfl, rfl⟩
theorem ev_X9_character {σ : am_St} {w p : Int} (hw : inR w) (hp : inR p) : am_Ev SH mX9_character 1 [.int (iZ w), .int (iZ p)] σ (am_rI (fun x σ2 => x = (if p < 0 ∨ wd_sz w ≤ p then -101 else wd_fe w (wd_sz w - 1 - p)) ∧ σ2 = σ)) := by
  have hz := wd_sz_bd w
  refine am_ev (by decide) [some (.int (iZ (w))), some (.int (iZ (p))), none] rfl (Nat.le_of_ble_eq_true rfl) ?_
  refine go_iload_n dX9_character_0 rfl ?_
  refine go_csP1 (M2 := mX9_size) dX9_character_1 ml_X9_13 ms_X9_size (Nat.le_of_ble_eq_true rfl) (by decide) (ev_X9_size hw) ?_
  refine go_ist2 dX9_character_4 (Nat.le_of_ble_eq_true rfl) rfl ?_
  refine go_iload_n dX9_character_5 rfl ?_
  refine go_if_lt (tgt := 14) dX9_character_6 (by decide) hp (fun b6 => ?_) (fun b6 => ?_)
  · skip
    refine go_bipush dX9_character_14 rfl ?_
    refine go_retI dX9_character_16 rfl ?_
    refine ⟨?_, rfl⟩
    split <;> omega
  · skip
    refine go_iload_n dX9_character_9 rfl ?_
    refine go_iload_n dX9_character_10 rfl ?_
    refine go_icmp_lt (tgt := 17) dX9_character_11 (by decide) hp (by unfold inR; omega) (fun b11 => ?_) (fun b11 => ?_)
    · skip
      refine go_iload_n dX9_character_17 rfl ?_
      refine go_iload_n dX9_character_18 rfl ?_
      refine go_iconst dX9_character_19 ?_
      refine go_isub dX9_character_20 ?_
      refine go_iload_n dX9_character_21 rfl ?_
      refine go_isub dX9_character_22 ?_
      refine go_csP2 (M2 := mX9_fromEnd) dX9_character_23 ml_X9_17 ms_X9_fromEnd (Nat.le_of_ble_eq_true rfl) (by decide) (ev_X9_fromEnd) ?_
      refine go_retI dX9_character_26 rfl ?_
      refine ⟨?_, rfl⟩
      split <;> omega
    · skip
      refine go_bipush dX9_character_14 rfl ?_
      refine go_retI dX9_character_16 rfl ?_
      refine ⟨?_, rfl⟩
      split <;> omega
theorem ev_X9_begins {σ : am_St} {w s : Int} (hw : inR w) (hs : inR s) : am_Ev SH mX9_begins 1 [.int (iZ w), .int (iZ s)] σ (am_rI (fun x σ2 => x = wd_be w s ∧ σ2 = σ)) := by
  have hz := wd_sz_bd w
  have hy := wd_sz_bd s
  refine am_ev (by decide) [some (.int (iZ (w))), some (.int (iZ (s))), none] rfl (Nat.le_of_ble_eq_true rfl) ?_
  refine go_iload_n dX9_begins_0 rfl ?_
  refine go_csP1 (M2 := mX9_size) dX9_begins_1 ml_X9_13 ms_X9_size (Nat.le_of_ble_eq_true rfl) (by decide) (ev_X9_size hw) ?_
  refine go_iload_n dX9_begins_4 rfl ?_
  refine go_csP1 (M2 := mX9_size) dX9_begins_5 ml_X9_13 ms_X9_size (Nat.le_of_ble_eq_true rfl) (by decide) (ev_X9_size hs) ?_
  refine go_isub dX9_begins_8 ?_
  refine go_ist2 dX9_begins_9 (Nat.le_of_ble_eq_true rfl) rfl ?_
  refine go_iload_n dX9_begins_10 rfl ?_
  refine go_if_lt (tgt := 28) dX9_begins_11 (by decide) (by unfold inR; omega) (fun b11 => ?_) (fun b11 => ?_)
  · skip
    refine go_iconst dX9_begins_28 ?_
    refine go_retZ dX9_begins_29 rfl (by omega) ?_
    refine ⟨?_, rfl⟩
    unfold wd_be
    split <;> omega
  · skip
    refine go_iload_n dX9_begins_14 rfl ?_
    refine go_bipush dX9_begins_15 rfl ?_
    refine go_iload_n dX9_begins_17 rfl ?_
    refine go_imul dX9_begins_18 ?_
    refine go_ishr dX9_begins_19 ?_
    refine go_iload_n dX9_begins_20 rfl ?_
    refine go_icmp_ne (tgt := 28) dX9_begins_21 (by decide) (am_shr_R _ _) hs (fun b21 => ?_) (fun b21 => ?_)
    · skip
      refine go_iconst dX9_begins_28 ?_
      refine go_retZ dX9_begins_29 rfl (by omega) ?_
      refine ⟨?_, rfl⟩
      unfold wd_be
      split <;> omega
    · skip
      refine go_iconst dX9_begins_24 ?_
      refine go_goto (tgt := 29) dX9_begins_25 (by decide) ?_
      refine go_retZ dX9_begins_29 rfl (by omega) ?_
      refine ⟨?_, rfl⟩
      unfold wd_be
      split <;> omega
theorem ev_X9_behind {σ : am_St} {w s : Int} (hw : inR w) (hs : inR s) : am_Ev SH mX9_behind 1 [.int (iZ w), .int (iZ s)] σ (am_rI (fun x σ2 => x = wd_hi w s ∧ σ2 = σ)) := by
  have hz := wd_sz_bd w
  have hy := wd_sz_bd s
  refine am_ev (by decide) [some (.int (iZ (w))), some (.int (iZ (s))), none, none] rfl (Nat.le_of_ble_eq_true rfl) ?_
  refine go_bipush dX9_behind_0 rfl ?_
  refine go_iconst dX9_behind_2 ?_
  refine go_iload_n dX9_behind_3 rfl ?_
  refine go_csP1 (M2 := mX9_size) dX9_behind_4 ml_X9_13 ms_X9_size (Nat.le_of_ble_eq_true rfl) (by decide) (ev_X9_size hw) ?_
  refine go_iload_n dX9_behind_7 rfl ?_
  refine go_csP1 (M2 := mX9_size) dX9_behind_8 ml_X9_13 ms_X9_size (Nat.le_of_ble_eq_true rfl) (by decide) (ev_X9_size hs) ?_
  refine go_isub dX9_behind_11 ?_
  refine go_csP2 (M2 := mJ9_max_7cf53) dX9_behind_12 ml_X9_21 ms_J9_max_7cf53 (Nat.le_of_ble_eq_true rfl) (by decide) (ev_J9_max (by unfold inR; omega) (by unfold inR; omega)) ?_
  refine go_imul dX9_behind_15 ?_
  refine go_ist2 dX9_behind_16 (Nat.le_of_ble_eq_true rfl) rfl ?_
  refine go_iconst dX9_behind_17 ?_
  refine go_iload_n dX9_behind_18 rfl ?_
  refine go_ishl dX9_behind_19 ?_
  refine go_ist3 dX9_behind_20 (Nat.le_of_ble_eq_true rfl) rfl ?_
  refine go_iload_n dX9_behind_21 rfl ?_
  refine go_iload_n dX9_behind_22 rfl ?_
  refine go_iload_n dX9_behind_23 rfl ?_
  refine go_iconst dX9_behind_24 ?_
  refine go_isub dX9_behind_25 ?_
  refine go_iand dX9_behind_26 ?_
  refine go_ior dX9_behind_27 ?_
  refine go_retI dX9_behind_28 rfl ?_
  exact ⟨rfl, rfl⟩
