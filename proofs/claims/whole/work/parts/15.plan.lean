/-! Plan: its methods' contracts -/
theorem cpz_ge {f g : Nat → Int} {q j : Nat} (h : q ≤ j) : cpz f g 0 0 q j = g j := by
  unfold cpz
  rw [if_neg (by omega)]
set_option maxHeartbeats 4000000 in
set_option maxRecDepth 100000 in
theorem k_Plan_makeEmpty {d n : Nat} {h : PH} {p : Nat} {size bc : Int} {o e : Nat → Int} (hP : isPlan n h p size bc o e) : CtrV mX0_makeEmpty d [vR p] n h (fun h' => isPlan n h' p 0 0 o e ∧ Fr h h' p (p + 3)) := by
  have hF : Fr h h p (p + 3) := Fr.rf
  refine q_beginV (L := [some (vR p)]) rfl ?_
  refine q_aload_n (pc' := 1) (dk_at dkX0_makeEmpty 0 rfl) rfl rfl ?_
  refine q_iconst (pc' := 2) (dk_at dkX0_makeEmpty 1 rfl) rfl ?_
  refine r_putf (pc' := 5) fp_RX0_18 (dk_at dkX0_makeEmpty 2 rfl) hP.obj (Nat.le_of_ble_eq_true rfl) (PT_int _) rfl (fun hh1 ehh1 => ?_)
  have hP := hP.w_obj ehh1
  have hF := hF.put ehh1 (by omega)
  refine q_aload_n (pc' := 6) (dk_at dkX0_makeEmpty 3 rfl) rfl rfl ?_
  refine q_iconst (pc' := 7) (dk_at dkX0_makeEmpty 4 rfl) rfl ?_
  refine r_putf (pc' := 10) fp_RX0_22 (dk_at dkX0_makeEmpty 5 rfl) hP.obj (Nat.le_of_ble_eq_true rfl) (PT_int _) rfl (fun hh2 ehh2 => ?_)
  have hP := hP.w_obj ehh2
  have hF := hF.put ehh2 (by omega)
  refine r_vret rfl (dk_at dkX0_makeEmpty 6 rfl) ?_
  exact ⟨hP, hF⟩

set_option maxHeartbeats 4000000 in
set_option maxRecDepth 100000 in
theorem k_Plan_beginOf {d n : Nat} {h : PH} {p i : Nat} {size bc : Int} {o e : Nat → Int} (hP : isPlan n h p size bc o e) (hi : i ≤ 8) : CtrI mX0_beginOf d [vR p, vI (i : Int)] n h (fun x h' => h' = h ∧ x = if 0 < i then e (i - 1) else 0) := by
  refine q_beginI (L := [some (vR p), some (vI (i : Int))]) rfl ?_
  refine q_iload_n (pc' := 1) (dk_at dkX0_beginOf 0 rfl) rfl rfl ?_
  refine q_if_le (tgt := 15) (pc' := 4) (dk_at dkX0_beginOf 1 rfl) rfl rfl (by omega) (fun c1 => ?_) (fun c1 => ?_)
  · refine q_iconst (pc' := 16) (dk_at dkX0_beginOf 9 rfl) rfl ?_
    refine r_iret rfl (dk_at dkX0_beginOf 10 rfl) ?_
    first | exact ⟨rfl, (if_pos (by omega)).symm⟩ | exact ⟨rfl, (if_neg (by omega)).symm⟩
  · refine q_aload_n (pc' := 5) (dk_at dkX0_beginOf 2 rfl) rfl rfl ?_
    refine r_getf (pc' := 8) fl_RX0_15 (dk_at dkX0_beginOf 3 rfl) hP.obj rfl rfl ?_
    refine q_iload_n (pc' := 9) (dk_at dkX0_beginOf 4 rfl) rfl rfl ?_
    refine q_iconst (pc' := 10) (dk_at dkX0_beginOf 5 rfl) rfl ?_
    refine q_isub (pc' := 11) (dk_at dkX0_beginOf 6 rfl) rfl ?_
    refine r_iald (pc' := 12) (dk_at dkX0_beginOf 7 rfl) hP.ends (i - 1) (by omega) (by omega) (by decide) rfl ?_
    refine q_goto (tgt := 16) (dk_at dkX0_beginOf 8 rfl) rfl ?_
    refine r_iret rfl (dk_at dkX0_beginOf 10 rfl) ?_
    first | exact ⟨rfl, (if_pos (by omega)).symm⟩ | exact ⟨rfl, (if_neg (by omega)).symm⟩

set_option maxHeartbeats 4000000 in
set_option maxRecDepth 100000 in
theorem k_Plan_lengthOf {d n : Nat} {h : PH} {p i : Nat} {size bc : Int} {o e : Nat → Int} (hd : 1 ≤ d) (hP : isPlan n h p size bc o e) (hi : i < 8) : CtrI mX0_lengthOf d [vR p, vI (i : Int)] n h (fun x h' => h' = h ∧ x = e i - if 0 < i then e (i - 1) else 0) := by
  refine q_beginI (L := [some (vR p), some (vI (i : Int))]) rfl ?_
  refine q_aload_n (pc' := 1) (dk_at dkX0_lengthOf 0 rfl) rfl rfl ?_
  refine r_getf (pc' := 4) fl_RX0_15 (dk_at dkX0_lengthOf 1 rfl) hP.obj rfl rfl ?_
  refine q_iload_n (pc' := 5) (dk_at dkX0_lengthOf 2 rfl) rfl rfl ?_
  refine r_iald (pc' := 6) (dk_at dkX0_lengthOf 3 rfl) hP.ends i (by omega) (by omega) (by decide) rfl ?_
  refine q_aload_n (pc' := 7) (dk_at dkX0_lengthOf 4 rfl) rfl rfl ?_
  refine q_iload_n (pc' := 8) (dk_at dkX0_lengthOf 5 rfl) rfl rfl ?_
  refine r_cVI (pc' := 11) (As := [vI (i : Int)]) (S := [vI (e i)]) cv_RX0_31 (dk_at dkX0_lengthOf 6 rfl) hP.obj rfl (k_Plan_beginOf (d := 0) hP (by omega)) (by omega) (Nat.zero_le _) (Nat.zero_le _) rfl (Nat.le_of_ble_eq_true rfl) rfl (Nat.le_of_ble_eq_true rfl) rfl (fun xx1 hh2 hphh2 => ?_)
  obtain ⟨rfl, rfl⟩ := hphh2
  refine q_isub (pc' := 12) (dk_at dkX0_lengthOf 7 rfl) rfl ?_
  refine r_iret rfl (dk_at dkX0_lengthOf 8 rfl) ?_
  exact ⟨rfl, rfl⟩

set_option maxHeartbeats 4000000 in
set_option maxRecDepth 100000 in
theorem k_Plan_takeFrom {d n : Nat} {h : PH} {p q : Nat} {size bc size2 bc2 : Int} {o e o2 e2 : Nat → Int} (hd : 1 ≤ d) (hP : isPlan n h p size bc o e) (hQ : isPlan n h q size2 bc2 o2 e2) (hpq : p + 3 ≤ q ∨ q + 3 ≤ p) : CtrV mX0_takeFrom d [vR p, vR q] n h (fun h' => isPlan n h' p size2 bc2 o2 e2 ∧ Fr h h' p (p + 3)) := by
  have hF : Fr h h p (p + 3) := Fr.rf
  refine q_beginV (L := [some (vR p), some (vR q)]) rfl ?_
  refine q_aload_n (pc' := 1) (dk_at dkX0_takeFrom 0 rfl) rfl rfl ?_
  refine q_aload_n (pc' := 2) (dk_at dkX0_takeFrom 1 rfl) rfl rfl ?_
  refine r_getf (pc' := 5) fl_RX0_18 (dk_at dkX0_takeFrom 2 rfl) hQ.obj rfl rfl ?_
  refine r_putf (pc' := 8) fp_RX0_18 (dk_at dkX0_takeFrom 3 rfl) hP.obj (Nat.le_of_ble_eq_true rfl) (PT_int _) rfl (fun hh1 ehh1 => ?_)
  have hP := hP.w_obj ehh1
  have hQ := hQ.off ehh1 (by omega)
  have hF := hF.put ehh1 (by omega)
  refine q_aload_n (pc' := 9) (dk_at dkX0_takeFrom 4 rfl) rfl rfl ?_
  refine q_aload_n (pc' := 10) (dk_at dkX0_takeFrom 5 rfl) rfl rfl ?_
  refine r_getf (pc' := 13) fl_RX0_22 (dk_at dkX0_takeFrom 6 rfl) hQ.obj rfl rfl ?_
  refine r_putf (pc' := 16) fp_RX0_22 (dk_at dkX0_takeFrom 7 rfl) hP.obj (Nat.le_of_ble_eq_true rfl) (PT_int _) rfl (fun hh2 ehh2 => ?_)
  have hP := hP.w_obj ehh2
  have hQ := hQ.off ehh2 (by omega)
  have hF := hF.put ehh2 (by omega)
  refine q_aload_n (pc' := 17) (dk_at dkX0_takeFrom 8 rfl) rfl rfl ?_
  refine r_getf (pc' := 20) fl_RX0_9 (dk_at dkX0_takeFrom 9 rfl) hQ.obj rfl rfl ?_
  refine q_iconst (pc' := 21) (dk_at dkX0_takeFrom 10 rfl) rfl ?_
  refine q_aload_n (pc' := 22) (dk_at dkX0_takeFrom 11 rfl) rfl rfl ?_
  refine r_getf (pc' := 25) fl_RX0_9 (dk_at dkX0_takeFrom 12 rfl) hP.obj rfl rfl ?_
  refine q_iconst (pc' := 26) (dk_at dkX0_takeFrom 13 rfl) rfl ?_
  refine q_bipush (pc' := 28) (dk_at dkX0_takeFrom 14 rfl) (by decide +kernel) rfl ?_
  refine r_copyA (pc' := 31) jc_RX0_25 (dk_at dkX0_takeFrom 15 rfl) hQ.order hP.order rfl (by decide) (by decide) (by omega) (Nat.le_of_ble_eq_true rfl) rfl (fun hh3 ehh3 => ?_)
  have hP := hP.w_order ehh3
  have hQ := hQ.off ehh3 (by omega)
  have hF := hF.put ehh3 (by omega)
  refine q_aload_n (pc' := 32) (dk_at dkX0_takeFrom 16 rfl) rfl rfl ?_
  refine r_getf (pc' := 35) fl_RX0_15 (dk_at dkX0_takeFrom 17 rfl) hQ.obj rfl rfl ?_
  refine q_iconst (pc' := 36) (dk_at dkX0_takeFrom 18 rfl) rfl ?_
  refine q_aload_n (pc' := 37) (dk_at dkX0_takeFrom 19 rfl) rfl rfl ?_
  refine r_getf (pc' := 40) fl_RX0_15 (dk_at dkX0_takeFrom 20 rfl) hP.obj rfl rfl ?_
  refine q_iconst (pc' := 41) (dk_at dkX0_takeFrom 21 rfl) rfl ?_
  refine q_bipush (pc' := 43) (dk_at dkX0_takeFrom 22 rfl) (by decide +kernel) rfl ?_
  refine r_copyA (pc' := 46) jc_RX0_25 (dk_at dkX0_takeFrom 23 rfl) hQ.ends hP.ends rfl (by decide) (by decide) (by omega) (Nat.le_of_ble_eq_true rfl) rfl (fun hh4 ehh4 => ?_)
  have hP := hP.w_ends ehh4
  have hQ := hQ.off ehh4 (by omega)
  have hF := hF.put ehh4 (by omega)
  refine r_vret rfl (dk_at dkX0_takeFrom 24 rfl) ?_
  exact ⟨hP, hF⟩

set_option maxHeartbeats 4000000 in
set_option maxRecDepth 100000 in
theorem k_Plan_addLast {d n : Nat} {h : PH} {p size bc : Nat} {o e : Nat → Int} {job fr : Int} (hP : isPlan n h p (size : Int) (bc : Int) o e) (hs : size < 8) (hb : bc ≤ size) (hfr : fr = 0 ∨ fr = 1) : CtrV mX0_addLast d [vR p, vI job, vI fr] n h (fun h' => ∃ (bc' : Int) (e' : Nat → Int), isPlan n h' p ((size : Int) + 1) bc' (upz o size job) e' ∧ bc' = (if fr = 1 ∨ bc = 0 then (bc : Int) + 1 else bc) ∧ e' = upz e (bc' - 1).toNat ((size : Int) + 1) ∧ Fr h h' p (p + 3)) := by
  have hF : Fr h h p (p + 3) := Fr.rf
  refine q_beginV (L := [some (vR p), some (vI job), some (vI fr)]) rfl ?_
  refine q_aload_n (pc' := 1) (dk_at dkX0_addLast 0 rfl) rfl rfl ?_
  refine r_getf (pc' := 4) fl_RX0_18 (dk_at dkX0_addLast 1 rfl) hP.obj rfl rfl ?_
  refine q_bipush (pc' := 6) (dk_at dkX0_addLast 2 rfl) (by decide +kernel) rfl ?_
  refine q_icmp_lt (tgt := 10) (pc' := 9) (dk_at dkX0_addLast 3 rfl) rfl rfl (by omega) (by omega) (fun c6 => ?_) (fun c6 => ?_)
  · refine q_aload_n (pc' := 11) (dk_at dkX0_addLast 5 rfl) rfl rfl ?_
    refine r_getf (pc' := 14) fl_RX0_9 (dk_at dkX0_addLast 6 rfl) hP.obj rfl rfl ?_
    refine q_aload_n (pc' := 15) (dk_at dkX0_addLast 7 rfl) rfl rfl ?_
    refine r_getf (pc' := 18) fl_RX0_18 (dk_at dkX0_addLast 8 rfl) hP.obj rfl rfl ?_
    refine q_iload_n (pc' := 19) (dk_at dkX0_addLast 9 rfl) rfl rfl ?_
    refine r_iast (pc' := 20) (dk_at dkX0_addLast 10 rfl) hP.order size (by omega) (by omega) (by decide) rfl (fun hh1 ehh1 => ?_)
    have hP := hP.w_order ehh1
    have hF := hF.put ehh1 (by omega)
    refine q_aload_n (pc' := 21) (dk_at dkX0_addLast 11 rfl) rfl rfl ?_
    refine q_aload_n (pc' := 22) (dk_at dkX0_addLast 12 rfl) rfl rfl ?_
    refine r_getf (pc' := 25) fl_RX0_18 (dk_at dkX0_addLast 13 rfl) hP.obj rfl rfl ?_
    refine q_iconst (pc' := 26) (dk_at dkX0_addLast 14 rfl) rfl ?_
    refine q_iadd (pc' := 27) (dk_at dkX0_addLast 15 rfl) rfl ?_
    refine r_putf (pc' := 30) fp_RX0_18 (dk_at dkX0_addLast 16 rfl) hP.obj (Nat.le_of_ble_eq_true rfl) (PT_int _) rfl (fun hh2 ehh2 => ?_)
    have hP := hP.w_obj ehh2
    have hF := hF.put ehh2 (by omega)
    refine q_iload_n (pc' := 31) (dk_at dkX0_addLast 17 rfl) rfl rfl ?_
    refine q_if_ne (tgt := 41) (pc' := 34) (dk_at dkX0_addLast 18 rfl) rfl rfl (by omega) (fun c31 => ?_) (fun c31 => ?_)
    · refine q_aload_n (pc' := 42) (dk_at dkX0_addLast 22 rfl) rfl rfl ?_
      refine q_aload_n (pc' := 43) (dk_at dkX0_addLast 23 rfl) rfl rfl ?_
      refine r_getf (pc' := 46) fl_RX0_22 (dk_at dkX0_addLast 24 rfl) hP.obj rfl rfl ?_
      refine q_iconst (pc' := 47) (dk_at dkX0_addLast 25 rfl) rfl ?_
      refine q_iadd (pc' := 48) (dk_at dkX0_addLast 26 rfl) rfl ?_
      refine r_putf (pc' := 51) fp_RX0_22 (dk_at dkX0_addLast 27 rfl) hP.obj (Nat.le_of_ble_eq_true rfl) (PT_int _) rfl (fun hh3 ehh3 => ?_)
      have hP := hP.w_obj ehh3
      have hF := hF.put ehh3 (by omega)
      refine q_aload_n (pc' := 52) (dk_at dkX0_addLast 28 rfl) rfl rfl ?_
      refine r_getf (pc' := 55) fl_RX0_15 (dk_at dkX0_addLast 29 rfl) hP.obj rfl rfl ?_
      refine q_aload_n (pc' := 56) (dk_at dkX0_addLast 30 rfl) rfl rfl ?_
      refine r_getf (pc' := 59) fl_RX0_22 (dk_at dkX0_addLast 31 rfl) hP.obj rfl rfl ?_
      refine q_iconst (pc' := 60) (dk_at dkX0_addLast 32 rfl) rfl ?_
      refine q_isub (pc' := 61) (dk_at dkX0_addLast 33 rfl) rfl ?_
      refine q_aload_n (pc' := 62) (dk_at dkX0_addLast 34 rfl) rfl rfl ?_
      refine r_getf (pc' := 65) fl_RX0_18 (dk_at dkX0_addLast 35 rfl) hP.obj rfl rfl ?_
      refine r_iast (pc' := 66) (dk_at dkX0_addLast 36 rfl) hP.ends ((bc + 1) - 1) (by omega) (by omega) (by decide) rfl (fun hh4 ehh4 => ?_)
      have hP := hP.w_ends ehh4
      have hF := hF.put ehh4 (by omega)
      refine r_vret rfl (dk_at dkX0_addLast 37 rfl) ?_
      first | (exfalso; omega; done) | (refine ⟨_, _, hP, ?_, ?_, hF⟩ <;> first | (congr 1; omega; done) | (split <;> omega))
    · refine q_aload_n (pc' := 35) (dk_at dkX0_addLast 19 rfl) rfl rfl ?_
      refine r_getf (pc' := 38) fl_RX0_22 (dk_at dkX0_addLast 20 rfl) hP.obj rfl rfl ?_
      refine q_if_ne (tgt := 51) (pc' := 41) (dk_at dkX0_addLast 21 rfl) rfl rfl (by omega) (fun c38 => ?_) (fun c38 => ?_)
      · refine q_aload_n (pc' := 52) (dk_at dkX0_addLast 28 rfl) rfl rfl ?_
        refine r_getf (pc' := 55) fl_RX0_15 (dk_at dkX0_addLast 29 rfl) hP.obj rfl rfl ?_
        refine q_aload_n (pc' := 56) (dk_at dkX0_addLast 30 rfl) rfl rfl ?_
        refine r_getf (pc' := 59) fl_RX0_22 (dk_at dkX0_addLast 31 rfl) hP.obj rfl rfl ?_
        refine q_iconst (pc' := 60) (dk_at dkX0_addLast 32 rfl) rfl ?_
        refine q_isub (pc' := 61) (dk_at dkX0_addLast 33 rfl) rfl ?_
        refine q_aload_n (pc' := 62) (dk_at dkX0_addLast 34 rfl) rfl rfl ?_
        refine r_getf (pc' := 65) fl_RX0_18 (dk_at dkX0_addLast 35 rfl) hP.obj rfl rfl ?_
        refine r_iast (pc' := 66) (dk_at dkX0_addLast 36 rfl) hP.ends (bc - 1) (by omega) (by omega) (by decide) rfl (fun hh5 ehh5 => ?_)
        have hP := hP.w_ends ehh5
        have hF := hF.put ehh5 (by omega)
        refine r_vret rfl (dk_at dkX0_addLast 37 rfl) ?_
        first | (exfalso; omega; done) | (refine ⟨_, _, hP, ?_, ?_, hF⟩ <;> first | (congr 1; omega; done) | (split <;> omega))
      · refine q_aload_n (pc' := 42) (dk_at dkX0_addLast 22 rfl) rfl rfl ?_
        refine q_aload_n (pc' := 43) (dk_at dkX0_addLast 23 rfl) rfl rfl ?_
        refine r_getf (pc' := 46) fl_RX0_22 (dk_at dkX0_addLast 24 rfl) hP.obj rfl rfl ?_
        refine q_iconst (pc' := 47) (dk_at dkX0_addLast 25 rfl) rfl ?_
        refine q_iadd (pc' := 48) (dk_at dkX0_addLast 26 rfl) rfl ?_
        refine r_putf (pc' := 51) fp_RX0_22 (dk_at dkX0_addLast 27 rfl) hP.obj (Nat.le_of_ble_eq_true rfl) (PT_int _) rfl (fun hh6 ehh6 => ?_)
        have hP := hP.w_obj ehh6
        have hF := hF.put ehh6 (by omega)
        refine q_aload_n (pc' := 52) (dk_at dkX0_addLast 28 rfl) rfl rfl ?_
        refine r_getf (pc' := 55) fl_RX0_15 (dk_at dkX0_addLast 29 rfl) hP.obj rfl rfl ?_
        refine q_aload_n (pc' := 56) (dk_at dkX0_addLast 30 rfl) rfl rfl ?_
        refine r_getf (pc' := 59) fl_RX0_22 (dk_at dkX0_addLast 31 rfl) hP.obj rfl rfl ?_
        refine q_iconst (pc' := 60) (dk_at dkX0_addLast 32 rfl) rfl ?_
        refine q_isub (pc' := 61) (dk_at dkX0_addLast 33 rfl) rfl ?_
        refine q_aload_n (pc' := 62) (dk_at dkX0_addLast 34 rfl) rfl rfl ?_
        refine r_getf (pc' := 65) fl_RX0_18 (dk_at dkX0_addLast 35 rfl) hP.obj rfl rfl ?_
        refine r_iast (pc' := 66) (dk_at dkX0_addLast 36 rfl) hP.ends ((bc + 1) - 1) (by omega) (by omega) (by decide) rfl (fun hh7 ehh7 => ?_)
        have hP := hP.w_ends ehh7
        have hF := hF.put ehh7 (by omega)
        refine r_vret rfl (dk_at dkX0_addLast 37 rfl) ?_
        first | (exfalso; omega; done) | (refine ⟨_, _, hP, ?_, ?_, hF⟩ <;> first | (congr 1; omega; done) | (split <;> omega))
  · refine r_vret rfl (dk_at dkX0_addLast 4 rfl) ?_
    first | (exfalso; omega; done) | (refine ⟨_, _, hP, ?_, ?_, hF⟩ <;> first | (congr 1; omega; done) | (split <;> omega))
