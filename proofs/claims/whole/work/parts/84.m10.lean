/-! BatchMachineModel: rules -/
theorem dueM_s (V : Nat → Nat → Int) (f : Int) (j : Nat) : dueM V f (j + 1) = if V 0 j = f ∧ V 3 j < dueM V f j then V 3 j else dueM V f j := rfl
theorem cAh_s (S : Shp) (rule j k : Nat) : cAh S rule j (k + 1) = if k ≠ j ∧ ahR S rule k j then cAh S rule j k + 1 else cAh S rule j k := rfl
theorem cmpR_r0 {S : Shp} {rule a b : Nat} (h : rule = 0) : (cmpR S rule a b < 0 ↔ S.V 2 a < S.V 2 b) ∧ (cmpR S rule a b = 0 ↔ S.V 2 a = S.V 2 b) := by
  have e : cmpR S rule a b = cmpz (S.V 2 a) (S.V 2 b) := if_pos h
  rw [e]
  exact ⟨cmpz_lt, cmpz_eq⟩
theorem cmpR_r1 {S : Shp} {rule a b : Nat} (h : rule = 1) : (cmpR S rule a b < 0 ↔ S.V 3 a < S.V 3 b) ∧ (cmpR S rule a b = 0 ↔ S.V 3 a = S.V 3 b) := by
  have e : cmpR S rule a b = cmpz (S.V 3 a) (S.V 3 b) := by unfold cmpR; rw [if_neg (by omega), if_pos h]
  rw [e]
  exact ⟨cmpz_lt, cmpz_eq⟩
theorem cmpR_r2 {S : Shp} {rule a b : Nat} (h : rule = 2) : (cmpR S rule a b < 0 ↔ S.V 1 a * S.V 4 b < S.V 1 b * S.V 4 a) ∧ (cmpR S rule a b = 0 ↔ S.V 1 a * S.V 4 b = S.V 1 b * S.V 4 a) := by
  have e : cmpR S rule a b = cmpz (S.V 1 a * S.V 4 b) (S.V 1 b * S.V 4 a) := by unfold cmpR; rw [if_neg (by omega), if_neg (by omega), if_pos h]
  rw [e]
  exact ⟨cmpz_lt, cmpz_eq⟩
theorem cmpR_r3 {S : Shp} {rule a b : Nat} (h : 3 ≤ rule) : (cmpR S rule a b < 0 ↔ (dF S a < dF S b ∨ (dF S a = dF S b ∧ (S.V 0 a < S.V 0 b ∨ (S.V 0 a = S.V 0 b ∧ S.V 3 a < S.V 3 b))))) ∧ (cmpR S rule a b = 0 ↔ (S.V 0 a = S.V 0 b ∧ S.V 3 a = S.V 3 b)) := by
  have e : cmpR S rule a b = cmpF S a b := by unfold cmpR; rw [if_neg (by omega), if_neg (by omega), if_neg (by omega)]
  rw [e]
  exact ⟨cmpF_lt, cmpF_eq⟩
set_option maxHeartbeats 4000000 in
set_option maxRecDepth 100000 in
theorem l_fdu {d n : Nat} {h : PH} {m : Nat} {S : Shp} {fv : Int} {A sd sq op ss es bo su se tx ba le fr un sF sR sT ad : Nat → Int} {sm th l0 bm tl nf ne nc : Int} (hd : 1 ≤ d) (hR : MR A S) (hk : Sok S) (hA0 : A 0 = (S.cnt : Int)) (hc8 : S.cnt ≤ 8) (hf : IR fv) (hM : isModel n h m A sd sm th sq op l0 ss es bo su se bm tx tl ba le fr un nf ne nc sF sR sT ad) : ∀ (c : Nat) (j : Nat), (j + c = S.cnt) → QN mX6_familyDue d (FI n (fun x h' => h' = h ∧ x = dueM S.V fv S.cnt)) 5 [some (vR m), some (vI fv), some (vI (dueM S.V fv j)), some (vI (j : Int))] [] n h := by
  intro c
  induction c with
  | zero =>
    intro j hc
    have hdr := dueM_r hk.v fv j
    refine q_iload_n (pc' := 6) (dk_at dkX6_familyDue 4 rfl) rfl rfl ?_
    refine q_aload_n (pc' := 7) (dk_at dkX6_familyDue 5 rfl) rfl rfl ?_
    refine r_getf (pc' := 10) fl_RX6_7 (dk_at dkX6_familyDue 6 rfl) hM.obj rfl rfl ?_
    refine q_iconst (pc' := 11) (dk_at dkX6_familyDue 7 rfl) rfl ?_
    refine r_iald (pc' := 12) (dk_at dkX6_familyDue 8 rfl) hM.all 0 (by omega) (by omega) (by decide) rfl ?_
    rw [hA0]
    refine q_icmp_ge (tgt := 52) (pc' := 15) (dk_at dkX6_familyDue 9 rfl) rfl rfl (by omega) (by omega) (fun c12 => ?_) (fun c12 => ?_)
    · refine q_iload_n (pc' := 53) (dk_at dkX6_familyDue 31 rfl) rfl rfl ?_
      refine r_iret rfl (dk_at dkX6_familyDue 32 rfl) ?_
      exact ⟨rfl, by rw [show j = S.cnt by omega]⟩
    · exfalso
      omega
  | succ c ih =>
    intro j hc
    have hdr := dueM_r hk.v fv j
    refine q_iload_n (pc' := 6) (dk_at dkX6_familyDue 4 rfl) rfl rfl ?_
    refine q_aload_n (pc' := 7) (dk_at dkX6_familyDue 5 rfl) rfl rfl ?_
    refine r_getf (pc' := 10) fl_RX6_7 (dk_at dkX6_familyDue 6 rfl) hM.obj rfl rfl ?_
    refine q_iconst (pc' := 11) (dk_at dkX6_familyDue 7 rfl) rfl ?_
    refine r_iald (pc' := 12) (dk_at dkX6_familyDue 8 rfl) hM.all 0 (by omega) (by omega) (by decide) rfl ?_
    rw [hA0]
    refine q_icmp_ge (tgt := 52) (pc' := 15) (dk_at dkX6_familyDue 9 rfl) rfl rfl (by omega) (by omega) (fun c12 => ?_) (fun c12 => ?_)
    · refine q_iload_n (pc' := 53) (dk_at dkX6_familyDue 31 rfl) rfl rfl ?_
      refine r_iret rfl (dk_at dkX6_familyDue 32 rfl) ?_
      exact ⟨rfl, by rw [show j = S.cnt by omega]⟩
    · refine q_join 45 [some (vR m), some (vI fv), some (vI (dueM S.V fv j)), some (vI (j : Int))] [] (fun jx => jx = dueM S.V fv (j + 1)) (fun jx45 ydm => ?_) (fun J45 => ?_)
      · subst ydm
        refine q_istore_n (pc' := 46) (L' := [some (vR m), some (vI fv), some (vI (dueM S.V fv (j + 1))), some (vI (j : Int))]) (dk_at dkX6_familyDue 28 rfl) (by decide) rfl rfl ?_
        refine q_iinc (pc' := 49) (L' := [some (vR m), some (vI fv), some (vI (dueM S.V fv (j + 1))), some (vI ((j : Int) + 1))]) (dk_at dkX6_familyDue 29 rfl) (by decide) rfl rfl rfl ?_
        rw [show ((j : Int) + 1) = ((j + 1 : Nat) : Int) by omega]
        refine q_goto (tgt := 5) (dk_at dkX6_familyDue 30 rfl) rfl ?_
        exact ih (j + 1) (by omega)
      refine q_aload_n (pc' := 16) (dk_at dkX6_familyDue 10 rfl) rfl rfl ?_
      refine q_iload_n (pc' := 17) (dk_at dkX6_familyDue 11 rfl) rfl rfl ?_
      refine q_iconst (pc' := 18) (dk_at dkX6_familyDue 12 rfl) rfl ?_
      refine r_cVI (pc' := 21) (As := [vI (j : Int), vI 0]) (S := []) cv_RX6_104 (dk_at dkX6_familyDue 13 rfl) hM.obj rfl (k_M_of (d := 0) (j := j) (w := 0) hR hk.c rfl rfl (by omega) (by omega) hM) (by omega) (Nat.zero_le _) (Nat.zero_le _) rfl (Nat.le_of_ble_eq_true rfl) rfl (Nat.le_of_ble_eq_true rfl) rfl (fun xx1 hh2 hphh2 => ?_)
      obtain ⟨qq3, rfl⟩ := hphh2
      rw [qq3]
      have bb4 : 0 ≤ S.V 0 j ∧ S.V 0 j ≤ 500 := ⟨(hk.v 0 j).1, (hk.v 0 j).2.1⟩
      refine q_iload_n (pc' := 22) (dk_at dkX6_familyDue 14 rfl) rfl rfl ?_
      refine q_icmp_ne (tgt := 44) (pc' := 25) (dk_at dkX6_familyDue 15 rfl) rfl rfl (by omega) (by omega) (fun c22 => ?_) (fun c22 => ?_)
      · refine q_iload_n (pc' := 45) (dk_at dkX6_familyDue 27 rfl) rfl rfl ?_
        exact J45 _ (by rw [dueM_s]; first | rw [if_pos ⟨by omega, by omega⟩] | rw [if_neg (by omega)])
      · refine q_aload_n (pc' := 26) (dk_at dkX6_familyDue 16 rfl) rfl rfl ?_
        refine q_iload_n (pc' := 27) (dk_at dkX6_familyDue 17 rfl) rfl rfl ?_
        refine q_iconst (pc' := 28) (dk_at dkX6_familyDue 18 rfl) rfl ?_
        refine r_cVI (pc' := 31) (As := [vI (j : Int), vI 3]) (S := []) cv_RX6_104 (dk_at dkX6_familyDue 19 rfl) hM.obj rfl (k_M_of (d := 0) (j := j) (w := 3) hR hk.c rfl rfl (by omega) (by omega) hM) (by omega) (Nat.zero_le _) (Nat.zero_le _) rfl (Nat.le_of_ble_eq_true rfl) rfl (Nat.le_of_ble_eq_true rfl) rfl (fun xx5 hh6 hphh6 => ?_)
        obtain ⟨qq7, rfl⟩ := hphh6
        rw [qq7]
        have bb8 : 0 ≤ S.V 3 j ∧ S.V 3 j ≤ 500 := ⟨(hk.v 3 j).1, (hk.v 3 j).2.1⟩
        refine q_iload_n (pc' := 32) (dk_at dkX6_familyDue 20 rfl) rfl rfl ?_
        refine q_icmp_ge (tgt := 44) (pc' := 35) (dk_at dkX6_familyDue 21 rfl) rfl rfl (by omega) (by omega) (fun c32 => ?_) (fun c32 => ?_)
        · refine q_iload_n (pc' := 45) (dk_at dkX6_familyDue 27 rfl) rfl rfl ?_
          exact J45 _ (by rw [dueM_s]; first | rw [if_pos ⟨by omega, by omega⟩] | rw [if_neg (by omega)])
        · refine q_aload_n (pc' := 36) (dk_at dkX6_familyDue 22 rfl) rfl rfl ?_
          refine q_iload_n (pc' := 37) (dk_at dkX6_familyDue 23 rfl) rfl rfl ?_
          refine q_iconst (pc' := 38) (dk_at dkX6_familyDue 24 rfl) rfl ?_
          refine r_cVI (pc' := 41) (As := [vI (j : Int), vI 3]) (S := []) cv_RX6_104 (dk_at dkX6_familyDue 25 rfl) hM.obj rfl (k_M_of (d := 0) (j := j) (w := 3) hR hk.c rfl rfl (by omega) (by omega) hM) (by omega) (Nat.zero_le _) (Nat.zero_le _) rfl (Nat.le_of_ble_eq_true rfl) rfl (Nat.le_of_ble_eq_true rfl) rfl (fun xx9 hh10 hphh10 => ?_)
          obtain ⟨qq11, rfl⟩ := hphh10
          rw [qq11]
          have bb12 : 0 ≤ S.V 3 j ∧ S.V 3 j ≤ 500 := ⟨(hk.v 3 j).1, (hk.v 3 j).2.1⟩
          refine q_goto (tgt := 45) (dk_at dkX6_familyDue 26 rfl) rfl ?_
          exact J45 _ (by rw [dueM_s]; first | rw [if_pos ⟨by omega, by omega⟩] | rw [if_neg (by omega)])

set_option maxHeartbeats 4000000 in
set_option maxRecDepth 100000 in
theorem k_M_familyDue {d n : Nat} {h : PH} {m : Nat} {A sd sq op ss es bo su se tx ba le fr un sF sR sT ad : Nat → Int} {sm th l0 bm tl nf ne nc : Int} {S : Shp} {fv : Int} (hd : 1 ≤ d) (hR : MR A S) (hk : Sok S) (hf : IR fv) (hM : isModel n h m A sd sm th sq op l0 ss es bo su se bm tx tl ba le fr un nf ne nc sF sR sT ad) : CtrI mX6_familyDue d [vR m, vI fv] n h (fun x h' => h' = h ∧ x = dueM S.V fv S.cnt) := by
  refine q_beginI (L := [some (vR m), some (vI fv), none, none]) rfl ?_
  refine q_ldc (pc' := 2) (z := 2000000000) kc_RX6_65 (by decide +kernel) (dk_at dkX6_familyDue 0 rfl) rfl ?_
  refine q_istore_n (pc' := 3) (L' := [some (vR m), some (vI fv), some (vI 2000000000), none]) (dk_at dkX6_familyDue 1 rfl) (by decide) rfl rfl ?_
  refine q_iconst (pc' := 4) (dk_at dkX6_familyDue 2 rfl) rfl ?_
  refine q_istore_n (pc' := 5) (L' := [some (vR m), some (vI fv), some (vI 2000000000), some (vI 0)]) (dk_at dkX6_familyDue 3 rfl) (by decide) rfl rfl ?_
  exact l_fdu hd hR hk hR.c hk.c hf hM S.cnt 0 (by omega)

set_option maxHeartbeats 4000000 in
set_option maxRecDepth 100000 in
theorem k_M_isAhead {d n : Nat} {h : PH} {m : Nat} {A sd sq op ss es bo su se tx ba le fr un sF sR sT ad : Nat → Int} {sm th l0 bm tl nf ne nc : Int} {S : Shp} {a b rule : Nat} (hd : 2 ≤ d) (hR : MR A S) (hk : Sok S) (ha : a < S.cnt) (hb : b < S.cnt) (hr : rule ≤ 3) (hM : isModel n h m A sd sm th sq op l0 ss es bo su se bm tx tl ba le fr un nf ne nc sF sR sT ad) : CtrI mX6_isAhead d [vR m, vI (a : Int), vI (b : Int), vI (rule : Int)] n h (fun x h' => h' = h ∧ YN x (ahR S rule a b)) := by
  have hc8 := hk.c
  refine q_beginI (L := [some (vR m), some (vI (a : Int)), some (vI (b : Int)), some (vI (rule : Int)), none]) rfl ?_
  refine q_iconst (pc' := 1) (dk_at dkX6_isAhead 0 rfl) rfl ?_
  refine q_istore (pc' := 3) (L' := [some (vR m), some (vI (a : Int)), some (vI (b : Int)), some (vI (rule : Int)), some (vI 0)]) (dk_at dkX6_isAhead 1 rfl) (by decide) rfl rfl ?_
  refine q_iload_n (pc' := 4) (dk_at dkX6_isAhead 2 rfl) rfl rfl ?_
  refine q_if_ne (tgt := 25) (pc' := 7) (dk_at dkX6_isAhead 3 rfl) rfl rfl (by omega) (fun c4 => ?_) (fun c4 => ?_)
  · refine q_iload_n (pc' := 26) (dk_at dkX6_isAhead 15 rfl) rfl rfl ?_
    refine q_iconst (pc' := 27) (dk_at dkX6_isAhead 16 rfl) rfl ?_
    refine q_icmp_ne (tgt := 48) (pc' := 30) (dk_at dkX6_isAhead 17 rfl) rfl rfl (by omega) (by omega) (fun c27 => ?_) (fun c27 => ?_)
    · refine q_iload_n (pc' := 49) (dk_at dkX6_isAhead 29 rfl) rfl rfl ?_
      refine q_iconst (pc' := 50) (dk_at dkX6_isAhead 30 rfl) rfl ?_
      refine q_icmp_ne (tgt := 85) (pc' := 53) (dk_at dkX6_isAhead 31 rfl) rfl rfl (by omega) (by omega) (fun c50 => ?_) (fun c50 => ?_)
      · have hcr := cmpR_r3 (S := S) (a := a) (b := b) (show 3 ≤ rule by omega)
        have hdf := dF_eq (S := S) (a := a) (b := b)
        refine q_aload_n (pc' := 86) (dk_at dkX6_isAhead 53 rfl) rfl rfl ?_
        refine q_aload_n (pc' := 87) (dk_at dkX6_isAhead 54 rfl) rfl rfl ?_
        refine q_iload_n (pc' := 88) (dk_at dkX6_isAhead 55 rfl) rfl rfl ?_
        refine q_iconst (pc' := 89) (dk_at dkX6_isAhead 56 rfl) rfl ?_
        refine r_cVI (pc' := 92) (As := [vI (a : Int), vI 0]) (S := [vR m]) cv_RX6_104 (dk_at dkX6_isAhead 57 rfl) hM.obj rfl (k_M_of (d := 0) (j := a) (w := 0) hR hk.c rfl rfl (by omega) (by omega) hM) (by omega) (Nat.zero_le _) (Nat.zero_le _) rfl (Nat.le_of_ble_eq_true rfl) rfl (Nat.le_of_ble_eq_true rfl) rfl (fun xx1 hh2 hphh2 => ?_)
        obtain ⟨qq3, rfl⟩ := hphh2
        rw [qq3]
        have bb4 : 0 ≤ S.V 0 a ∧ S.V 0 a ≤ 500 := ⟨(hk.v 0 a).1, (hk.v 0 a).2.1⟩
        refine r_cVI (pc' := 95) (As := [vI (S.V 0 a)]) (S := []) cv_RX6_166 (dk_at dkX6_isAhead 58 rfl) hM.obj rfl (k_M_familyDue (d := 1) (by omega) hR hk (by omega) hM) (by omega) (Nat.zero_le _) (Nat.zero_le _) rfl (Nat.le_of_ble_eq_true rfl) rfl (Nat.le_of_ble_eq_true rfl) rfl (fun xx5 hh6 hphh6 => ?_)
        obtain ⟨qq7, rfl⟩ := hphh6
        rw [qq7, dueM_at hk.v (by omega)]
        have bb8 := dueTo_r hk.v (S.V 0 a) S.cnt
        have bb9 : 0 ≤ dF S a ∧ dF S a ≤ 500 := dueTo_r hk.v (S.V 0 a) S.cnt
        refine q_aload_n (pc' := 96) (dk_at dkX6_isAhead 59 rfl) rfl rfl ?_
        refine q_aload_n (pc' := 97) (dk_at dkX6_isAhead 60 rfl) rfl rfl ?_
        refine q_iload_n (pc' := 98) (dk_at dkX6_isAhead 61 rfl) rfl rfl ?_
        refine q_iconst (pc' := 99) (dk_at dkX6_isAhead 62 rfl) rfl ?_
        refine r_cVI (pc' := 102) (As := [vI (b : Int), vI 0]) (S := [vR m, vI (dF S a)]) cv_RX6_104 (dk_at dkX6_isAhead 63 rfl) hM.obj rfl (k_M_of (d := 0) (j := b) (w := 0) hR hk.c rfl rfl (by omega) (by omega) hM) (by omega) (Nat.zero_le _) (Nat.zero_le _) rfl (Nat.le_of_ble_eq_true rfl) rfl (Nat.le_of_ble_eq_true rfl) rfl (fun xx10 hh11 hphh11 => ?_)
        obtain ⟨qq12, rfl⟩ := hphh11
        rw [qq12]
        have bb13 : 0 ≤ S.V 0 b ∧ S.V 0 b ≤ 500 := ⟨(hk.v 0 b).1, (hk.v 0 b).2.1⟩
        refine r_cVI (pc' := 105) (As := [vI (S.V 0 b)]) (S := [vI (dF S a)]) cv_RX6_166 (dk_at dkX6_isAhead 64 rfl) hM.obj rfl (k_M_familyDue (d := 1) (by omega) hR hk (by omega) hM) (by omega) (Nat.zero_le _) (Nat.zero_le _) rfl (Nat.le_of_ble_eq_true rfl) rfl (Nat.le_of_ble_eq_true rfl) rfl (fun xx14 hh15 hphh15 => ?_)
        obtain ⟨qq16, rfl⟩ := hphh15
        rw [qq16, dueM_at hk.v (by omega)]
        have bb17 := dueTo_r hk.v (S.V 0 b) S.cnt
        have bb18 : 0 ≤ dF S b ∧ dF S b ≤ 500 := dueTo_r hk.v (S.V 0 b) S.cnt
        refine q_isub (pc' := 106) (dk_at dkX6_isAhead 65 rfl) rfl ?_
        refine q_istore (pc' := 108) (L' := [some (vR m), some (vI (a : Int)), some (vI (b : Int)), some (vI (rule : Int)), some (vI ((dF S a) - (dF S b)))]) (dk_at dkX6_isAhead 66 rfl) (by decide) rfl rfl ?_
        refine q_iload (pc' := 110) (dk_at dkX6_isAhead 67 rfl) rfl rfl ?_
        refine q_if_ne (tgt := 129) (pc' := 113) (dk_at dkX6_isAhead 68 rfl) rfl rfl (by omega) (fun c110 => ?_) (fun c110 => ?_)
        · refine q_iload (pc' := 131) (dk_at dkX6_isAhead 79 rfl) rfl rfl ?_
          refine q_istore (pc' := 133) (L' := [some (vR m), some (vI (a : Int)), some (vI (b : Int)), some (vI (rule : Int)), some (vI ((dF S a) - (dF S b)))]) (dk_at dkX6_isAhead 80 rfl) (by decide) rfl rfl ?_
          refine q_iload (pc' := 135) (dk_at dkX6_isAhead 81 rfl) rfl rfl ?_
          refine q_if_ne (tgt := 154) (pc' := 138) (dk_at dkX6_isAhead 82 rfl) rfl rfl (by omega) (fun c135 => ?_) (fun c135 => ?_)
          · refine q_iload (pc' := 156) (dk_at dkX6_isAhead 93 rfl) rfl rfl ?_
            refine q_istore (pc' := 158) (L' := [some (vR m), some (vI (a : Int)), some (vI (b : Int)), some (vI (rule : Int)), some (vI ((dF S a) - (dF S b)))]) (dk_at dkX6_isAhead 94 rfl) (by decide) rfl rfl ?_
            refine q_iload (pc' := 160) (dk_at dkX6_isAhead 95 rfl) rfl rfl ?_
            refine q_if_lt (tgt := 173) (pc' := 163) (dk_at dkX6_isAhead 96 rfl) rfl rfl (by omega) (fun c160 => ?_) (fun c160 => ?_)
            · refine q_iconst (pc' := 174) (dk_at dkX6_isAhead 102 rfl) rfl ?_
              refine q_goto (tgt := 178) (dk_at dkX6_isAhead 103 rfl) rfl ?_
              refine r_zret rfl (by omega) (dk_at dkX6_isAhead 105 rfl) ?_
              refine ⟨rfl, Or.inl ⟨rfl, ?_⟩⟩
              show cmpR S rule a b < 0 ∨ (cmpR S rule a b = 0 ∧ a < b)
              omega
            · refine q_iload (pc' := 165) (dk_at dkX6_isAhead 97 rfl) rfl rfl ?_
              refine q_if_ne (tgt := 177) (pc' := 168) (dk_at dkX6_isAhead 98 rfl) rfl rfl (by omega) (fun c165 => ?_) (fun c165 => ?_)
              · refine q_iconst (pc' := 178) (dk_at dkX6_isAhead 104 rfl) rfl ?_
                refine r_zret rfl (by omega) (dk_at dkX6_isAhead 105 rfl) ?_
                refine ⟨rfl, Or.inr ⟨rfl, ?_⟩⟩
                show ¬ (cmpR S rule a b < 0 ∨ (cmpR S rule a b = 0 ∧ a < b))
                omega
              · refine q_iload_n (pc' := 169) (dk_at dkX6_isAhead 99 rfl) rfl rfl ?_
                refine q_iload_n (pc' := 170) (dk_at dkX6_isAhead 100 rfl) rfl rfl ?_
                refine q_icmp_ge (tgt := 177) (pc' := 173) (dk_at dkX6_isAhead 101 rfl) rfl rfl (by omega) (by omega) (fun c170 => ?_) (fun c170 => ?_)
                · refine q_iconst (pc' := 178) (dk_at dkX6_isAhead 104 rfl) rfl ?_
                  refine r_zret rfl (by omega) (dk_at dkX6_isAhead 105 rfl) ?_
                  refine ⟨rfl, Or.inr ⟨rfl, ?_⟩⟩
                  show ¬ (cmpR S rule a b < 0 ∨ (cmpR S rule a b = 0 ∧ a < b))
                  omega
                · refine q_iconst (pc' := 174) (dk_at dkX6_isAhead 102 rfl) rfl ?_
                  refine q_goto (tgt := 178) (dk_at dkX6_isAhead 103 rfl) rfl ?_
                  refine r_zret rfl (by omega) (dk_at dkX6_isAhead 105 rfl) ?_
                  refine ⟨rfl, Or.inl ⟨rfl, ?_⟩⟩
                  show cmpR S rule a b < 0 ∨ (cmpR S rule a b = 0 ∧ a < b)
                  omega
          · refine q_aload_n (pc' := 139) (dk_at dkX6_isAhead 83 rfl) rfl rfl ?_
            refine q_iload_n (pc' := 140) (dk_at dkX6_isAhead 84 rfl) rfl rfl ?_
            refine q_iconst (pc' := 141) (dk_at dkX6_isAhead 85 rfl) rfl ?_
            refine r_cVI (pc' := 144) (As := [vI (a : Int), vI 3]) (S := []) cv_RX6_104 (dk_at dkX6_isAhead 86 rfl) hM.obj rfl (k_M_of (d := 0) (j := a) (w := 3) hR hk.c rfl rfl (by omega) (by omega) hM) (by omega) (Nat.zero_le _) (Nat.zero_le _) rfl (Nat.le_of_ble_eq_true rfl) rfl (Nat.le_of_ble_eq_true rfl) rfl (fun xx19 hh20 hphh20 => ?_)
            obtain ⟨qq21, rfl⟩ := hphh20
            rw [qq21]
            have bb22 : 0 ≤ S.V 3 a ∧ S.V 3 a ≤ 500 := ⟨(hk.v 3 a).1, (hk.v 3 a).2.1⟩
            refine q_aload_n (pc' := 145) (dk_at dkX6_isAhead 87 rfl) rfl rfl ?_
            refine q_iload_n (pc' := 146) (dk_at dkX6_isAhead 88 rfl) rfl rfl ?_
            refine q_iconst (pc' := 147) (dk_at dkX6_isAhead 89 rfl) rfl ?_
            refine r_cVI (pc' := 150) (As := [vI (b : Int), vI 3]) (S := [vI (S.V 3 a)]) cv_RX6_104 (dk_at dkX6_isAhead 90 rfl) hM.obj rfl (k_M_of (d := 0) (j := b) (w := 3) hR hk.c rfl rfl (by omega) (by omega) hM) (by omega) (Nat.zero_le _) (Nat.zero_le _) rfl (Nat.le_of_ble_eq_true rfl) rfl (Nat.le_of_ble_eq_true rfl) rfl (fun xx23 hh24 hphh24 => ?_)
            obtain ⟨qq25, rfl⟩ := hphh24
            rw [qq25]
            have bb26 : 0 ≤ S.V 3 b ∧ S.V 3 b ≤ 500 := ⟨(hk.v 3 b).1, (hk.v 3 b).2.1⟩
            refine q_isub (pc' := 151) (dk_at dkX6_isAhead 91 rfl) rfl ?_
            refine q_goto (tgt := 156) (dk_at dkX6_isAhead 92 rfl) rfl ?_
            refine q_istore (pc' := 158) (L' := [some (vR m), some (vI (a : Int)), some (vI (b : Int)), some (vI (rule : Int)), some (vI ((S.V 3 a) - (S.V 3 b)))]) (dk_at dkX6_isAhead 94 rfl) (by decide) rfl rfl ?_
            refine q_iload (pc' := 160) (dk_at dkX6_isAhead 95 rfl) rfl rfl ?_
            refine q_if_lt (tgt := 173) (pc' := 163) (dk_at dkX6_isAhead 96 rfl) rfl rfl (by omega) (fun c160 => ?_) (fun c160 => ?_)
            · refine q_iconst (pc' := 174) (dk_at dkX6_isAhead 102 rfl) rfl ?_
              refine q_goto (tgt := 178) (dk_at dkX6_isAhead 103 rfl) rfl ?_
              refine r_zret rfl (by omega) (dk_at dkX6_isAhead 105 rfl) ?_
              refine ⟨rfl, Or.inl ⟨rfl, ?_⟩⟩
              show cmpR S rule a b < 0 ∨ (cmpR S rule a b = 0 ∧ a < b)
              omega
            · refine q_iload (pc' := 165) (dk_at dkX6_isAhead 97 rfl) rfl rfl ?_
              refine q_if_ne (tgt := 177) (pc' := 168) (dk_at dkX6_isAhead 98 rfl) rfl rfl (by omega) (fun c165 => ?_) (fun c165 => ?_)
              · refine q_iconst (pc' := 178) (dk_at dkX6_isAhead 104 rfl) rfl ?_
                refine r_zret rfl (by omega) (dk_at dkX6_isAhead 105 rfl) ?_
                refine ⟨rfl, Or.inr ⟨rfl, ?_⟩⟩
                show ¬ (cmpR S rule a b < 0 ∨ (cmpR S rule a b = 0 ∧ a < b))
                omega
              · refine q_iload_n (pc' := 169) (dk_at dkX6_isAhead 99 rfl) rfl rfl ?_
                refine q_iload_n (pc' := 170) (dk_at dkX6_isAhead 100 rfl) rfl rfl ?_
                refine q_icmp_ge (tgt := 177) (pc' := 173) (dk_at dkX6_isAhead 101 rfl) rfl rfl (by omega) (by omega) (fun c170 => ?_) (fun c170 => ?_)
                · refine q_iconst (pc' := 178) (dk_at dkX6_isAhead 104 rfl) rfl ?_
                  refine r_zret rfl (by omega) (dk_at dkX6_isAhead 105 rfl) ?_
                  refine ⟨rfl, Or.inr ⟨rfl, ?_⟩⟩
                  show ¬ (cmpR S rule a b < 0 ∨ (cmpR S rule a b = 0 ∧ a < b))
                  omega
                · refine q_iconst (pc' := 174) (dk_at dkX6_isAhead 102 rfl) rfl ?_
                  refine q_goto (tgt := 178) (dk_at dkX6_isAhead 103 rfl) rfl ?_
                  refine r_zret rfl (by omega) (dk_at dkX6_isAhead 105 rfl) ?_
                  refine ⟨rfl, Or.inl ⟨rfl, ?_⟩⟩
                  show cmpR S rule a b < 0 ∨ (cmpR S rule a b = 0 ∧ a < b)
                  omega
        · refine q_aload_n (pc' := 114) (dk_at dkX6_isAhead 69 rfl) rfl rfl ?_
          refine q_iload_n (pc' := 115) (dk_at dkX6_isAhead 70 rfl) rfl rfl ?_
          refine q_iconst (pc' := 116) (dk_at dkX6_isAhead 71 rfl) rfl ?_
          refine r_cVI (pc' := 119) (As := [vI (a : Int), vI 0]) (S := []) cv_RX6_104 (dk_at dkX6_isAhead 72 rfl) hM.obj rfl (k_M_of (d := 0) (j := a) (w := 0) hR hk.c rfl rfl (by omega) (by omega) hM) (by omega) (Nat.zero_le _) (Nat.zero_le _) rfl (Nat.le_of_ble_eq_true rfl) rfl (Nat.le_of_ble_eq_true rfl) rfl (fun xx27 hh28 hphh28 => ?_)
          obtain ⟨qq29, rfl⟩ := hphh28
          rw [qq29]
          have bb30 : 0 ≤ S.V 0 a ∧ S.V 0 a ≤ 500 := ⟨(hk.v 0 a).1, (hk.v 0 a).2.1⟩
          refine q_aload_n (pc' := 120) (dk_at dkX6_isAhead 73 rfl) rfl rfl ?_
          refine q_iload_n (pc' := 121) (dk_at dkX6_isAhead 74 rfl) rfl rfl ?_
          refine q_iconst (pc' := 122) (dk_at dkX6_isAhead 75 rfl) rfl ?_
          refine r_cVI (pc' := 125) (As := [vI (b : Int), vI 0]) (S := [vI (S.V 0 a)]) cv_RX6_104 (dk_at dkX6_isAhead 76 rfl) hM.obj rfl (k_M_of (d := 0) (j := b) (w := 0) hR hk.c rfl rfl (by omega) (by omega) hM) (by omega) (Nat.zero_le _) (Nat.zero_le _) rfl (Nat.le_of_ble_eq_true rfl) rfl (Nat.le_of_ble_eq_true rfl) rfl (fun xx31 hh32 hphh32 => ?_)
          obtain ⟨qq33, rfl⟩ := hphh32
          rw [qq33]
          have bb34 : 0 ≤ S.V 0 b ∧ S.V 0 b ≤ 500 := ⟨(hk.v 0 b).1, (hk.v 0 b).2.1⟩
          refine q_isub (pc' := 126) (dk_at dkX6_isAhead 77 rfl) rfl ?_
          refine q_goto (tgt := 131) (dk_at dkX6_isAhead 78 rfl) rfl ?_
          refine q_istore (pc' := 133) (L' := [some (vR m), some (vI (a : Int)), some (vI (b : Int)), some (vI (rule : Int)), some (vI ((S.V 0 a) - (S.V 0 b)))]) (dk_at dkX6_isAhead 80 rfl) (by decide) rfl rfl ?_
          refine q_iload (pc' := 135) (dk_at dkX6_isAhead 81 rfl) rfl rfl ?_
          refine q_if_ne (tgt := 154) (pc' := 138) (dk_at dkX6_isAhead 82 rfl) rfl rfl (by omega) (fun c135 => ?_) (fun c135 => ?_)
          · refine q_iload (pc' := 156) (dk_at dkX6_isAhead 93 rfl) rfl rfl ?_
            refine q_istore (pc' := 158) (L' := [some (vR m), some (vI (a : Int)), some (vI (b : Int)), some (vI (rule : Int)), some (vI ((S.V 0 a) - (S.V 0 b)))]) (dk_at dkX6_isAhead 94 rfl) (by decide) rfl rfl ?_
            refine q_iload (pc' := 160) (dk_at dkX6_isAhead 95 rfl) rfl rfl ?_
            refine q_if_lt (tgt := 173) (pc' := 163) (dk_at dkX6_isAhead 96 rfl) rfl rfl (by omega) (fun c160 => ?_) (fun c160 => ?_)
            · refine q_iconst (pc' := 174) (dk_at dkX6_isAhead 102 rfl) rfl ?_
              refine q_goto (tgt := 178) (dk_at dkX6_isAhead 103 rfl) rfl ?_
              refine r_zret rfl (by omega) (dk_at dkX6_isAhead 105 rfl) ?_
              refine ⟨rfl, Or.inl ⟨rfl, ?_⟩⟩
              show cmpR S rule a b < 0 ∨ (cmpR S rule a b = 0 ∧ a < b)
              omega
            · refine q_iload (pc' := 165) (dk_at dkX6_isAhead 97 rfl) rfl rfl ?_
              refine q_if_ne (tgt := 177) (pc' := 168) (dk_at dkX6_isAhead 98 rfl) rfl rfl (by omega) (fun c165 => ?_) (fun c165 => ?_)
              · refine q_iconst (pc' := 178) (dk_at dkX6_isAhead 104 rfl) rfl ?_
                refine r_zret rfl (by omega) (dk_at dkX6_isAhead 105 rfl) ?_
                refine ⟨rfl, Or.inr ⟨rfl, ?_⟩⟩
                show ¬ (cmpR S rule a b < 0 ∨ (cmpR S rule a b = 0 ∧ a < b))
                omega
              · refine q_iload_n (pc' := 169) (dk_at dkX6_isAhead 99 rfl) rfl rfl ?_
                refine q_iload_n (pc' := 170) (dk_at dkX6_isAhead 100 rfl) rfl rfl ?_
                refine q_icmp_ge (tgt := 177) (pc' := 173) (dk_at dkX6_isAhead 101 rfl) rfl rfl (by omega) (by omega) (fun c170 => ?_) (fun c170 => ?_)
                · refine q_iconst (pc' := 178) (dk_at dkX6_isAhead 104 rfl) rfl ?_
                  refine r_zret rfl (by omega) (dk_at dkX6_isAhead 105 rfl) ?_
                  refine ⟨rfl, Or.inr ⟨rfl, ?_⟩⟩
                  show ¬ (cmpR S rule a b < 0 ∨ (cmpR S rule a b = 0 ∧ a < b))
                  omega
                · refine q_iconst (pc' := 174) (dk_at dkX6_isAhead 102 rfl) rfl ?_
                  refine q_goto (tgt := 178) (dk_at dkX6_isAhead 103 rfl) rfl ?_
                  refine r_zret rfl (by omega) (dk_at dkX6_isAhead 105 rfl) ?_
                  refine ⟨rfl, Or.inl ⟨rfl, ?_⟩⟩
                  show cmpR S rule a b < 0 ∨ (cmpR S rule a b = 0 ∧ a < b)
                  omega
          · refine q_aload_n (pc' := 139) (dk_at dkX6_isAhead 83 rfl) rfl rfl ?_
            refine q_iload_n (pc' := 140) (dk_at dkX6_isAhead 84 rfl) rfl rfl ?_
            refine q_iconst (pc' := 141) (dk_at dkX6_isAhead 85 rfl) rfl ?_
            refine r_cVI (pc' := 144) (As := [vI (a : Int), vI 3]) (S := []) cv_RX6_104 (dk_at dkX6_isAhead 86 rfl) hM.obj rfl (k_M_of (d := 0) (j := a) (w := 3) hR hk.c rfl rfl (by omega) (by omega) hM) (by omega) (Nat.zero_le _) (Nat.zero_le _) rfl (Nat.le_of_ble_eq_true rfl) rfl (Nat.le_of_ble_eq_true rfl) rfl (fun xx35 hh36 hphh36 => ?_)
            obtain ⟨qq37, rfl⟩ := hphh36
            rw [qq37]
            have bb38 : 0 ≤ S.V 3 a ∧ S.V 3 a ≤ 500 := ⟨(hk.v 3 a).1, (hk.v 3 a).2.1⟩
            refine q_aload_n (pc' := 145) (dk_at dkX6_isAhead 87 rfl) rfl rfl ?_
            refine q_iload_n (pc' := 146) (dk_at dkX6_isAhead 88 rfl) rfl rfl ?_
            refine q_iconst (pc' := 147) (dk_at dkX6_isAhead 89 rfl) rfl ?_
            refine r_cVI (pc' := 150) (As := [vI (b : Int), vI 3]) (S := [vI (S.V 3 a)]) cv_RX6_104 (dk_at dkX6_isAhead 90 rfl) hM.obj rfl (k_M_of (d := 0) (j := b) (w := 3) hR hk.c rfl rfl (by omega) (by omega) hM) (by omega) (Nat.zero_le _) (Nat.zero_le _) rfl (Nat.le_of_ble_eq_true rfl) rfl (Nat.le_of_ble_eq_true rfl) rfl (fun xx39 hh40 hphh40 => ?_)
            obtain ⟨qq41, rfl⟩ := hphh40
            rw [qq41]
            have bb42 : 0 ≤ S.V 3 b ∧ S.V 3 b ≤ 500 := ⟨(hk.v 3 b).1, (hk.v 3 b).2.1⟩
            refine q_isub (pc' := 151) (dk_at dkX6_isAhead 91 rfl) rfl ?_
            refine q_goto (tgt := 156) (dk_at dkX6_isAhead 92 rfl) rfl ?_
            refine q_istore (pc' := 158) (L' := [some (vR m), some (vI (a : Int)), some (vI (b : Int)), some (vI (rule : Int)), some (vI ((S.V 3 a) - (S.V 3 b)))]) (dk_at dkX6_isAhead 94 rfl) (by decide) rfl rfl ?_
            refine q_iload (pc' := 160) (dk_at dkX6_isAhead 95 rfl) rfl rfl ?_
            refine q_if_lt (tgt := 173) (pc' := 163) (dk_at dkX6_isAhead 96 rfl) rfl rfl (by omega) (fun c160 => ?_) (fun c160 => ?_)
            · refine q_iconst (pc' := 174) (dk_at dkX6_isAhead 102 rfl) rfl ?_
              refine q_goto (tgt := 178) (dk_at dkX6_isAhead 103 rfl) rfl ?_
              refine r_zret rfl (by omega) (dk_at dkX6_isAhead 105 rfl) ?_
              refine ⟨rfl, Or.inl ⟨rfl, ?_⟩⟩
              show cmpR S rule a b < 0 ∨ (cmpR S rule a b = 0 ∧ a < b)
              omega
            · refine q_iload (pc' := 165) (dk_at dkX6_isAhead 97 rfl) rfl rfl ?_
              refine q_if_ne (tgt := 177) (pc' := 168) (dk_at dkX6_isAhead 98 rfl) rfl rfl (by omega) (fun c165 => ?_) (fun c165 => ?_)
              · refine q_iconst (pc' := 178) (dk_at dkX6_isAhead 104 rfl) rfl ?_
                refine r_zret rfl (by omega) (dk_at dkX6_isAhead 105 rfl) ?_
                refine ⟨rfl, Or.inr ⟨rfl, ?_⟩⟩
                show ¬ (cmpR S rule a b < 0 ∨ (cmpR S rule a b = 0 ∧ a < b))
                omega
              · refine q_iload_n (pc' := 169) (dk_at dkX6_isAhead 99 rfl) rfl rfl ?_
                refine q_iload_n (pc' := 170) (dk_at dkX6_isAhead 100 rfl) rfl rfl ?_
                refine q_icmp_ge (tgt := 177) (pc' := 173) (dk_at dkX6_isAhead 101 rfl) rfl rfl (by omega) (by omega) (fun c170 => ?_) (fun c170 => ?_)
                · refine q_iconst (pc' := 178) (dk_at dkX6_isAhead 104 rfl) rfl ?_
                  refine r_zret rfl (by omega) (dk_at dkX6_isAhead 105 rfl) ?_
                  refine ⟨rfl, Or.inr ⟨rfl, ?_⟩⟩
                  show ¬ (cmpR S rule a b < 0 ∨ (cmpR S rule a b = 0 ∧ a < b))
                  omega
                · refine q_iconst (pc' := 174) (dk_at dkX6_isAhead 102 rfl) rfl ?_
                  refine q_goto (tgt := 178) (dk_at dkX6_isAhead 103 rfl) rfl ?_
                  refine r_zret rfl (by omega) (dk_at dkX6_isAhead 105 rfl) ?_
                  refine ⟨rfl, Or.inl ⟨rfl, ?_⟩⟩
                  show cmpR S rule a b < 0 ∨ (cmpR S rule a b = 0 ∧ a < b)
                  omega
      · have hcr := cmpR_r2 (S := S) (a := a) (b := b) (show rule = 2 by omega)
        refine q_aload_n (pc' := 54) (dk_at dkX6_isAhead 32 rfl) rfl rfl ?_
        refine q_iload_n (pc' := 55) (dk_at dkX6_isAhead 33 rfl) rfl rfl ?_
        refine q_iconst (pc' := 56) (dk_at dkX6_isAhead 34 rfl) rfl ?_
        refine r_cVI (pc' := 59) (As := [vI (a : Int), vI 1]) (S := []) cv_RX6_104 (dk_at dkX6_isAhead 35 rfl) hM.obj rfl (k_M_of (d := 0) (j := a) (w := 1) hR hk.c rfl rfl (by omega) (by omega) hM) (by omega) (Nat.zero_le _) (Nat.zero_le _) rfl (Nat.le_of_ble_eq_true rfl) rfl (Nat.le_of_ble_eq_true rfl) rfl (fun xx43 hh44 hphh44 => ?_)
        obtain ⟨qq45, rfl⟩ := hphh44
        rw [qq45]
        have bb46 : 0 ≤ S.V 1 a ∧ S.V 1 a ≤ 500 := ⟨(hk.v 1 a).1, (hk.v 1 a).2.1⟩
        refine q_aload_n (pc' := 60) (dk_at dkX6_isAhead 36 rfl) rfl rfl ?_
        refine q_iload_n (pc' := 61) (dk_at dkX6_isAhead 37 rfl) rfl rfl ?_
        refine q_iconst (pc' := 62) (dk_at dkX6_isAhead 38 rfl) rfl ?_
        refine r_cVI (pc' := 65) (As := [vI (b : Int), vI 4]) (S := [vI (S.V 1 a)]) cv_RX6_104 (dk_at dkX6_isAhead 39 rfl) hM.obj rfl (k_M_of (d := 0) (j := b) (w := 4) hR hk.c rfl rfl (by omega) (by omega) hM) (by omega) (Nat.zero_le _) (Nat.zero_le _) rfl (Nat.le_of_ble_eq_true rfl) rfl (Nat.le_of_ble_eq_true rfl) rfl (fun xx47 hh48 hphh48 => ?_)
        obtain ⟨qq49, rfl⟩ := hphh48
        rw [qq49]
        have bb50 : 0 ≤ S.V 4 b ∧ S.V 4 b ≤ 500 := ⟨(hk.v 4 b).1, (hk.v 4 b).2.1⟩
        refine q_imul (pc' := 66) (dk_at dkX6_isAhead 40 rfl) rfl ?_
        refine q_aload_n (pc' := 67) (dk_at dkX6_isAhead 41 rfl) rfl rfl ?_
        refine q_iload_n (pc' := 68) (dk_at dkX6_isAhead 42 rfl) rfl rfl ?_
        refine q_iconst (pc' := 69) (dk_at dkX6_isAhead 43 rfl) rfl ?_
        refine r_cVI (pc' := 72) (As := [vI (b : Int), vI 1]) (S := [vI ((S.V 1 a) * (S.V 4 b))]) cv_RX6_104 (dk_at dkX6_isAhead 44 rfl) hM.obj rfl (k_M_of (d := 0) (j := b) (w := 1) hR hk.c rfl rfl (by omega) (by omega) hM) (by omega) (Nat.zero_le _) (Nat.zero_le _) rfl (Nat.le_of_ble_eq_true rfl) rfl (Nat.le_of_ble_eq_true rfl) rfl (fun xx51 hh52 hphh52 => ?_)
        obtain ⟨qq53, rfl⟩ := hphh52
        rw [qq53]
        have bb54 : 0 ≤ S.V 1 b ∧ S.V 1 b ≤ 500 := ⟨(hk.v 1 b).1, (hk.v 1 b).2.1⟩
        refine q_aload_n (pc' := 73) (dk_at dkX6_isAhead 45 rfl) rfl rfl ?_
        refine q_iload_n (pc' := 74) (dk_at dkX6_isAhead 46 rfl) rfl rfl ?_
        refine q_iconst (pc' := 75) (dk_at dkX6_isAhead 47 rfl) rfl ?_
        refine r_cVI (pc' := 78) (As := [vI (a : Int), vI 4]) (S := [vI (S.V 1 b), vI ((S.V 1 a) * (S.V 4 b))]) cv_RX6_104 (dk_at dkX6_isAhead 48 rfl) hM.obj rfl (k_M_of (d := 0) (j := a) (w := 4) hR hk.c rfl rfl (by omega) (by omega) hM) (by omega) (Nat.zero_le _) (Nat.zero_le _) rfl (Nat.le_of_ble_eq_true rfl) rfl (Nat.le_of_ble_eq_true rfl) rfl (fun xx55 hh56 hphh56 => ?_)
        obtain ⟨qq57, rfl⟩ := hphh56
        rw [qq57]
        have bb58 : 0 ≤ S.V 4 a ∧ S.V 4 a ≤ 500 := ⟨(hk.v 4 a).1, (hk.v 4 a).2.1⟩
        refine q_imul (pc' := 79) (dk_at dkX6_isAhead 49 rfl) rfl ?_
        have hm1 := mul_r (hk.v 1 a) (hk.v 4 b)
        have hm2 := mul_r (hk.v 1 b) (hk.v 4 a)
        refine q_isub (pc' := 80) (dk_at dkX6_isAhead 50 rfl) rfl ?_
        refine q_istore (pc' := 82) (L' := [some (vR m), some (vI (a : Int)), some (vI (b : Int)), some (vI (rule : Int)), some (vI (((S.V 1 a) * (S.V 4 b)) - ((S.V 1 b) * (S.V 4 a))))]) (dk_at dkX6_isAhead 51 rfl) (by decide) rfl rfl ?_
        refine q_goto (tgt := 158) (dk_at dkX6_isAhead 52 rfl) rfl ?_
        refine q_iload (pc' := 160) (dk_at dkX6_isAhead 95 rfl) rfl rfl ?_
        refine q_if_lt (tgt := 173) (pc' := 163) (dk_at dkX6_isAhead 96 rfl) rfl rfl (by omega) (fun c160 => ?_) (fun c160 => ?_)
        · refine q_iconst (pc' := 174) (dk_at dkX6_isAhead 102 rfl) rfl ?_
          refine q_goto (tgt := 178) (dk_at dkX6_isAhead 103 rfl) rfl ?_
          refine r_zret rfl (by omega) (dk_at dkX6_isAhead 105 rfl) ?_
          refine ⟨rfl, Or.inl ⟨rfl, ?_⟩⟩
          show cmpR S rule a b < 0 ∨ (cmpR S rule a b = 0 ∧ a < b)
          omega
        · refine q_iload (pc' := 165) (dk_at dkX6_isAhead 97 rfl) rfl rfl ?_
          refine q_if_ne (tgt := 177) (pc' := 168) (dk_at dkX6_isAhead 98 rfl) rfl rfl (by omega) (fun c165 => ?_) (fun c165 => ?_)
          · refine q_iconst (pc' := 178) (dk_at dkX6_isAhead 104 rfl) rfl ?_
            refine r_zret rfl (by omega) (dk_at dkX6_isAhead 105 rfl) ?_
            refine ⟨rfl, Or.inr ⟨rfl, ?_⟩⟩
            show ¬ (cmpR S rule a b < 0 ∨ (cmpR S rule a b = 0 ∧ a < b))
            omega
          · refine q_iload_n (pc' := 169) (dk_at dkX6_isAhead 99 rfl) rfl rfl ?_
            refine q_iload_n (pc' := 170) (dk_at dkX6_isAhead 100 rfl) rfl rfl ?_
            refine q_icmp_ge (tgt := 177) (pc' := 173) (dk_at dkX6_isAhead 101 rfl) rfl rfl (by omega) (by omega) (fun c170 => ?_) (fun c170 => ?_)
            · refine q_iconst (pc' := 178) (dk_at dkX6_isAhead 104 rfl) rfl ?_
              refine r_zret rfl (by omega) (dk_at dkX6_isAhead 105 rfl) ?_
              refine ⟨rfl, Or.inr ⟨rfl, ?_⟩⟩
              show ¬ (cmpR S rule a b < 0 ∨ (cmpR S rule a b = 0 ∧ a < b))
              omega
            · refine q_iconst (pc' := 174) (dk_at dkX6_isAhead 102 rfl) rfl ?_
              refine q_goto (tgt := 178) (dk_at dkX6_isAhead 103 rfl) rfl ?_
              refine r_zret rfl (by omega) (dk_at dkX6_isAhead 105 rfl) ?_
              refine ⟨rfl, Or.inl ⟨rfl, ?_⟩⟩
              show cmpR S rule a b < 0 ∨ (cmpR S rule a b = 0 ∧ a < b)
              omega
    · have hcr := cmpR_r1 (S := S) (a := a) (b := b) (show rule = 1 by omega)
      refine q_aload_n (pc' := 31) (dk_at dkX6_isAhead 18 rfl) rfl rfl ?_
      refine q_iload_n (pc' := 32) (dk_at dkX6_isAhead 19 rfl) rfl rfl ?_
      refine q_iconst (pc' := 33) (dk_at dkX6_isAhead 20 rfl) rfl ?_
      refine r_cVI (pc' := 36) (As := [vI (a : Int), vI 3]) (S := []) cv_RX6_104 (dk_at dkX6_isAhead 21 rfl) hM.obj rfl (k_M_of (d := 0) (j := a) (w := 3) hR hk.c rfl rfl (by omega) (by omega) hM) (by omega) (Nat.zero_le _) (Nat.zero_le _) rfl (Nat.le_of_ble_eq_true rfl) rfl (Nat.le_of_ble_eq_true rfl) rfl (fun xx59 hh60 hphh60 => ?_)
      obtain ⟨qq61, rfl⟩ := hphh60
      rw [qq61]
      have bb62 : 0 ≤ S.V 3 a ∧ S.V 3 a ≤ 500 := ⟨(hk.v 3 a).1, (hk.v 3 a).2.1⟩
      refine q_aload_n (pc' := 37) (dk_at dkX6_isAhead 22 rfl) rfl rfl ?_
      refine q_iload_n (pc' := 38) (dk_at dkX6_isAhead 23 rfl) rfl rfl ?_
      refine q_iconst (pc' := 39) (dk_at dkX6_isAhead 24 rfl) rfl ?_
      refine r_cVI (pc' := 42) (As := [vI (b : Int), vI 3]) (S := [vI (S.V 3 a)]) cv_RX6_104 (dk_at dkX6_isAhead 25 rfl) hM.obj rfl (k_M_of (d := 0) (j := b) (w := 3) hR hk.c rfl rfl (by omega) (by omega) hM) (by omega) (Nat.zero_le _) (Nat.zero_le _) rfl (Nat.le_of_ble_eq_true rfl) rfl (Nat.le_of_ble_eq_true rfl) rfl (fun xx63 hh64 hphh64 => ?_)
      obtain ⟨qq65, rfl⟩ := hphh64
      rw [qq65]
      have bb66 : 0 ≤ S.V 3 b ∧ S.V 3 b ≤ 500 := ⟨(hk.v 3 b).1, (hk.v 3 b).2.1⟩
      refine q_isub (pc' := 43) (dk_at dkX6_isAhead 26 rfl) rfl ?_
      refine q_istore (pc' := 45) (L' := [some (vR m), some (vI (a : Int)), some (vI (b : Int)), some (vI (rule : Int)), some (vI ((S.V 3 a) - (S.V 3 b)))]) (dk_at dkX6_isAhead 27 rfl) (by decide) rfl rfl ?_
      refine q_goto (tgt := 158) (dk_at dkX6_isAhead 28 rfl) rfl ?_
      refine q_iload (pc' := 160) (dk_at dkX6_isAhead 95 rfl) rfl rfl ?_
      refine q_if_lt (tgt := 173) (pc' := 163) (dk_at dkX6_isAhead 96 rfl) rfl rfl (by omega) (fun c160 => ?_) (fun c160 => ?_)
      · refine q_iconst (pc' := 174) (dk_at dkX6_isAhead 102 rfl) rfl ?_
        refine q_goto (tgt := 178) (dk_at dkX6_isAhead 103 rfl) rfl ?_
        refine r_zret rfl (by omega) (dk_at dkX6_isAhead 105 rfl) ?_
        refine ⟨rfl, Or.inl ⟨rfl, ?_⟩⟩
        show cmpR S rule a b < 0 ∨ (cmpR S rule a b = 0 ∧ a < b)
        omega
      · refine q_iload (pc' := 165) (dk_at dkX6_isAhead 97 rfl) rfl rfl ?_
        refine q_if_ne (tgt := 177) (pc' := 168) (dk_at dkX6_isAhead 98 rfl) rfl rfl (by omega) (fun c165 => ?_) (fun c165 => ?_)
        · refine q_iconst (pc' := 178) (dk_at dkX6_isAhead 104 rfl) rfl ?_
          refine r_zret rfl (by omega) (dk_at dkX6_isAhead 105 rfl) ?_
          refine ⟨rfl, Or.inr ⟨rfl, ?_⟩⟩
          show ¬ (cmpR S rule a b < 0 ∨ (cmpR S rule a b = 0 ∧ a < b))
          omega
        · refine q_iload_n (pc' := 169) (dk_at dkX6_isAhead 99 rfl) rfl rfl ?_
          refine q_iload_n (pc' := 170) (dk_at dkX6_isAhead 100 rfl) rfl rfl ?_
          refine q_icmp_ge (tgt := 177) (pc' := 173) (dk_at dkX6_isAhead 101 rfl) rfl rfl (by omega) (by omega) (fun c170 => ?_) (fun c170 => ?_)
          · refine q_iconst (pc' := 178) (dk_at dkX6_isAhead 104 rfl) rfl ?_
            refine r_zret rfl (by omega) (dk_at dkX6_isAhead 105 rfl) ?_
            refine ⟨rfl, Or.inr ⟨rfl, ?_⟩⟩
            show ¬ (cmpR S rule a b < 0 ∨ (cmpR S rule a b = 0 ∧ a < b))
            omega
          · refine q_iconst (pc' := 174) (dk_at dkX6_isAhead 102 rfl) rfl ?_
            refine q_goto (tgt := 178) (dk_at dkX6_isAhead 103 rfl) rfl ?_
            refine r_zret rfl (by omega) (dk_at dkX6_isAhead 105 rfl) ?_
            refine ⟨rfl, Or.inl ⟨rfl, ?_⟩⟩
            show cmpR S rule a b < 0 ∨ (cmpR S rule a b = 0 ∧ a < b)
            omega
  · have hcr := cmpR_r0 (S := S) (a := a) (b := b) (show rule = 0 by omega)
    refine q_aload_n (pc' := 8) (dk_at dkX6_isAhead 4 rfl) rfl rfl ?_
    refine q_iload_n (pc' := 9) (dk_at dkX6_isAhead 5 rfl) rfl rfl ?_
    refine q_iconst (pc' := 10) (dk_at dkX6_isAhead 6 rfl) rfl ?_
    refine r_cVI (pc' := 13) (As := [vI (a : Int), vI 2]) (S := []) cv_RX6_104 (dk_at dkX6_isAhead 7 rfl) hM.obj rfl (k_M_of (d := 0) (j := a) (w := 2) hR hk.c rfl rfl (by omega) (by omega) hM) (by omega) (Nat.zero_le _) (Nat.zero_le _) rfl (Nat.le_of_ble_eq_true rfl) rfl (Nat.le_of_ble_eq_true rfl) rfl (fun xx67 hh68 hphh68 => ?_)
    obtain ⟨qq69, rfl⟩ := hphh68
    rw [qq69]
    have bb70 : 0 ≤ S.V 2 a ∧ S.V 2 a ≤ 500 := ⟨(hk.v 2 a).1, (hk.v 2 a).2.1⟩
    refine q_aload_n (pc' := 14) (dk_at dkX6_isAhead 8 rfl) rfl rfl ?_
    refine q_iload_n (pc' := 15) (dk_at dkX6_isAhead 9 rfl) rfl rfl ?_
    refine q_iconst (pc' := 16) (dk_at dkX6_isAhead 10 rfl) rfl ?_
    refine r_cVI (pc' := 19) (As := [vI (b : Int), vI 2]) (S := [vI (S.V 2 a)]) cv_RX6_104 (dk_at dkX6_isAhead 11 rfl) hM.obj rfl (k_M_of (d := 0) (j := b) (w := 2) hR hk.c rfl rfl (by omega) (by omega) hM) (by omega) (Nat.zero_le _) (Nat.zero_le _) rfl (Nat.le_of_ble_eq_true rfl) rfl (Nat.le_of_ble_eq_true rfl) rfl (fun xx71 hh72 hphh72 => ?_)
    obtain ⟨qq73, rfl⟩ := hphh72
    rw [qq73]
    have bb74 : 0 ≤ S.V 2 b ∧ S.V 2 b ≤ 500 := ⟨(hk.v 2 b).1, (hk.v 2 b).2.1⟩
    refine q_isub (pc' := 20) (dk_at dkX6_isAhead 12 rfl) rfl ?_
    refine q_istore (pc' := 22) (L' := [some (vR m), some (vI (a : Int)), some (vI (b : Int)), some (vI (rule : Int)), some (vI ((S.V 2 a) - (S.V 2 b)))]) (dk_at dkX6_isAhead 13 rfl) (by decide) rfl rfl ?_
    refine q_goto (tgt := 158) (dk_at dkX6_isAhead 14 rfl) rfl ?_
    refine q_iload (pc' := 160) (dk_at dkX6_isAhead 95 rfl) rfl rfl ?_
    refine q_if_lt (tgt := 173) (pc' := 163) (dk_at dkX6_isAhead 96 rfl) rfl rfl (by omega) (fun c160 => ?_) (fun c160 => ?_)
    · refine q_iconst (pc' := 174) (dk_at dkX6_isAhead 102 rfl) rfl ?_
      refine q_goto (tgt := 178) (dk_at dkX6_isAhead 103 rfl) rfl ?_
      refine r_zret rfl (by omega) (dk_at dkX6_isAhead 105 rfl) ?_
      refine ⟨rfl, Or.inl ⟨rfl, ?_⟩⟩
      show cmpR S rule a b < 0 ∨ (cmpR S rule a b = 0 ∧ a < b)
      omega
    · refine q_iload (pc' := 165) (dk_at dkX6_isAhead 97 rfl) rfl rfl ?_
      refine q_if_ne (tgt := 177) (pc' := 168) (dk_at dkX6_isAhead 98 rfl) rfl rfl (by omega) (fun c165 => ?_) (fun c165 => ?_)
      · refine q_iconst (pc' := 178) (dk_at dkX6_isAhead 104 rfl) rfl ?_
        refine r_zret rfl (by omega) (dk_at dkX6_isAhead 105 rfl) ?_
        refine ⟨rfl, Or.inr ⟨rfl, ?_⟩⟩
        show ¬ (cmpR S rule a b < 0 ∨ (cmpR S rule a b = 0 ∧ a < b))
        omega
      · refine q_iload_n (pc' := 169) (dk_at dkX6_isAhead 99 rfl) rfl rfl ?_
        refine q_iload_n (pc' := 170) (dk_at dkX6_isAhead 100 rfl) rfl rfl ?_
        refine q_icmp_ge (tgt := 177) (pc' := 173) (dk_at dkX6_isAhead 101 rfl) rfl rfl (by omega) (by omega) (fun c170 => ?_) (fun c170 => ?_)
        · refine q_iconst (pc' := 178) (dk_at dkX6_isAhead 104 rfl) rfl ?_
          refine r_zret rfl (by omega) (dk_at dkX6_isAhead 105 rfl) ?_
          refine ⟨rfl, Or.inr ⟨rfl, ?_⟩⟩
          show ¬ (cmpR S rule a b < 0 ∨ (cmpR S rule a b = 0 ∧ a < b))
          omega
        · refine q_iconst (pc' := 174) (dk_at dkX6_isAhead 102 rfl) rfl ?_
          refine q_goto (tgt := 178) (dk_at dkX6_isAhead 103 rfl) rfl ?_
          refine r_zret rfl (by omega) (dk_at dkX6_isAhead 105 rfl) ?_
          refine ⟨rfl, Or.inl ⟨rfl, ?_⟩⟩
          show cmpR S rule a b < 0 ∨ (cmpR S rule a b = 0 ∧ a < b)
          omega

set_option maxHeartbeats 4000000 in
set_option maxRecDepth 100000 in
theorem l_rui {d n : Nat} {h : PH} {m : Nat} {S : Shp} {F : FT} {rl j : Nat} {A sd sq op ss es bo su se tx ba le fr un sF sR sT ad : Nat → Int} {sm th bm tl nf ne nc : Int} (hd : 3 ≤ d) (hR : MR A S) (hk : Sok S) (hc8 : S.cnt ≤ 8) (hj : j < S.cnt) (hr : rl ≤ 3) (hM : isModel n h m A sd sm th sq op (S.cnt : Int) ss es bo su se bm tx tl ba le fr un nf ne nc sF sR sT ad) (hex : ∀ i : Int, QN mX6_ruled d F 65 [some (vR m), some (vI (rl : Int)), some (vI (j : Int)), some (vI ((cAh S rl j S.cnt : Nat) : Int)), some (vI i)] [] n h) : ∀ (c : Nat) (i : Nat), (i + c = S.cnt) → QN mX6_ruled d F 25 [some (vR m), some (vI (rl : Int)), some (vI (j : Int)), some (vI ((cAh S rl j i : Nat) : Int)), some (vI (i : Int))] [] n h := by
  intro c
  induction c with
  | zero =>
    intro i hc
    refine q_iload (pc' := 27) (dk_at dkX6_ruled 16 rfl) rfl rfl ?_
    refine q_aload_n (pc' := 28) (dk_at dkX6_ruled 17 rfl) rfl rfl ?_
    refine r_getf (pc' := 31) fl_RX6_119 (dk_at dkX6_ruled 18 rfl) hM.obj rfl rfl ?_
    refine q_icmp_ge (tgt := 65) (pc' := 34) (dk_at dkX6_ruled 19 rfl) rfl rfl (by omega) (by omega) (fun c31 => ?_) (fun c31 => ?_)
    · first | (exfalso; omega; done) | (obtain rfl : i = S.cnt := (by omega); exact hex _)
    · exfalso
      omega
  | succ c ih =>
    intro i hc
    refine q_iload (pc' := 27) (dk_at dkX6_ruled 16 rfl) rfl rfl ?_
    refine q_aload_n (pc' := 28) (dk_at dkX6_ruled 17 rfl) rfl rfl ?_
    refine r_getf (pc' := 31) fl_RX6_119 (dk_at dkX6_ruled 18 rfl) hM.obj rfl rfl ?_
    refine q_icmp_ge (tgt := 65) (pc' := 34) (dk_at dkX6_ruled 19 rfl) rfl rfl (by omega) (by omega) (fun c31 => ?_) (fun c31 => ?_)
    · first | (exfalso; omega; done) | (obtain rfl : i = S.cnt := (by omega); exact hex _)
    · refine q_iload_n (pc' := 35) (dk_at dkX6_ruled 20 rfl) rfl rfl ?_
      refine q_join 57 [some (vR m), some (vI (rl : Int)), some (vI (j : Int)), some (vI ((cAh S rl j i : Nat) : Int)), some (vI (i : Int))] [vI ((cAh S rl j i : Nat) : Int)] (fun jx => ((cAh S rl j i : Nat) : Int) + jx = ((cAh S rl j (i + 1) : Nat) : Int)) (fun jx57 yca => ?_) (fun J57 => ?_)
      · refine q_iadd (pc' := 58) (dk_at dkX6_ruled 33 rfl) rfl ?_
        rw [yca]
        refine q_istore_n (pc' := 59) (L' := [some (vR m), some (vI (rl : Int)), some (vI (j : Int)), some (vI ((cAh S rl j (i + 1) : Nat) : Int)), some (vI (i : Int))]) (dk_at dkX6_ruled 34 rfl) (by decide) rfl rfl ?_
        refine q_iinc (pc' := 62) (L' := [some (vR m), some (vI (rl : Int)), some (vI (j : Int)), some (vI ((cAh S rl j (i + 1) : Nat) : Int)), some (vI ((i : Int) + 1))]) (dk_at dkX6_ruled 35 rfl) (by decide) rfl rfl rfl ?_
        rw [show ((i : Int) + 1) = ((i + 1 : Nat) : Int) by omega]
        refine q_goto (tgt := 25) (dk_at dkX6_ruled 36 rfl) rfl ?_
        exact ih (i + 1) (by omega)
      refine q_iload (pc' := 37) (dk_at dkX6_ruled 21 rfl) rfl rfl ?_
      refine q_iload_n (pc' := 38) (dk_at dkX6_ruled 22 rfl) rfl rfl ?_
      refine q_icmp_eq (tgt := 56) (pc' := 41) (dk_at dkX6_ruled 23 rfl) rfl rfl (by omega) (by omega) (fun c38 => ?_) (fun c38 => ?_)
      · refine q_iconst (pc' := 57) (dk_at dkX6_ruled 32 rfl) rfl ?_
        exact J57 _ (by rw [cAh_s]; rw [if_neg (by omega)]; omega)
      · refine q_aload_n (pc' := 42) (dk_at dkX6_ruled 24 rfl) rfl rfl ?_
        refine q_iload (pc' := 44) (dk_at dkX6_ruled 25 rfl) rfl rfl ?_
        refine q_iload_n (pc' := 45) (dk_at dkX6_ruled 26 rfl) rfl rfl ?_
        refine q_iload_n (pc' := 46) (dk_at dkX6_ruled 27 rfl) rfl rfl ?_
        refine r_cVI (pc' := 49) (As := [vI (i : Int), vI (j : Int), vI (rl : Int)]) (S := [vI ((cAh S rl j i : Nat) : Int)]) cv_RX6_169 (dk_at dkX6_ruled 28 rfl) hM.obj rfl (k_M_isAhead (d := 2) (a := i) (b := j) (rule := rl) (by omega) hR hk (by omega) (by omega) (by omega) hM) (by omega) (Nat.zero_le _) (Nat.zero_le _) rfl (Nat.le_of_ble_eq_true rfl) rfl (Nat.le_of_ble_eq_true rfl) rfl (fun xx1 hh2 hphh2 => ?_)
        obtain ⟨qq3, y46⟩ := hphh2
        rw [qq3]
        have yr46 := y46.r
        refine q_if_eq (tgt := 56) (pc' := 52) (dk_at dkX6_ruled 29 rfl) rfl rfl (by omega) (fun c49 => ?_) (fun c49 => ?_)
        · refine q_iconst (pc' := 57) (dk_at dkX6_ruled 32 rfl) rfl ?_
          exact J57 _ (by rw [cAh_s]; rw [if_neg (fun z => y46.f c49 z.2)]; omega)
        · refine q_iconst (pc' := 53) (dk_at dkX6_ruled 30 rfl) rfl ?_
          refine q_goto (tgt := 57) (dk_at dkX6_ruled 31 rfl) rfl ?_
          exact J57 _ (by rw [cAh_s]; rw [if_pos ⟨by omega, y46.t (by omega)⟩]; omega)

theorem rlO_none {S : Shp} {rule : Nat} {o : Nat → Int} : rlO S rule (-1) o = ordR S rule o S.cnt := if_pos rfl
theorem rlP_ok {S : Shp} (hc : S.cnt ≤ 8) {rule : Nat} {o e : Nat → Int} (hO : ∀ j, 0 ≤ o j ∧ o j ≤ 7) : PlOk S.cnt (rlP S rule o e) := (rlO_sq hc (rule := rule) (ah := -1) hO (Or.inl rfl)).pok hc _ _
theorem rlP_cost {S : Shp} {rule : Nat} {o e : Nat → Int} : cvS S (rlP S rule o e) = sqC S (rlO S rule (-1) o) e := rfl
set_option maxHeartbeats 4000000 in
set_option maxRecDepth 100000 in
theorem l_ruo {d n : Nat} {h : PH} {m : Nat} {S : Shp} {rl : Nat} {o e : Nat → Int} {A sd op ss es bo su se tx ba le fr un sF sR sT ad : Nat → Int} {sm th bm tl nf ne nc : Int} (hd : 4 ≤ d) (hR : MR A S) (hk : Sok S) (hc8 : S.cnt ≤ 8) (hr : rl ≤ 3) (hO : ∀ j, 0 ≤ o j ∧ o j ≤ 7) : ∀ (c : Nat) (j : Nat) (sq1 : Nat → Int) (h1 : PH) (x3 x4 : Option PV), (j + c = S.cnt) → (∀ j', j' < j → sq1 (cAh S rl j' S.cnt) = (j' : Int)) → (isModel n h1 m A sd sm th sq1 op (S.cnt : Int) ss es bo su se bm tx tl ba le fr un nf ne nc sF sR sT ad) → (Fr h h1 m (m + 19)) → QN mX6_ruled d (FI n (fun x h' => x = cvS S (rlP S rl o e) ∧ ∃ sq1 op1 ss1 es1 bo1 su1 se1 bm1, isModel n h' m A sd sm th sq1 op1 (S.cnt : Int) ss1 es1 bo1 su1 se1 bm1 tx tl ba le fr un nf ne nc sF sR sT ad ∧ SqP sq1 op1 (rlP S rl o e) ∧ Fr h h' m (m + 19))) 12 [some (vR m), some (vI (rl : Int)), some (vI (j : Int)), x3, x4] [] n h1 := by
  intro c
  induction c with
  | zero =>
    intro j sq1 h1 x3 x4 hc hq hM hF
    refine q_iload_n (pc' := 13) (dk_at dkX6_ruled 8 rfl) rfl rfl ?_
    refine q_aload_n (pc' := 14) (dk_at dkX6_ruled 9 rfl) rfl rfl ?_
    refine r_getf (pc' := 17) fl_RX6_119 (dk_at dkX6_ruled 10 rfl) hM.obj rfl rfl ?_
    refine q_icmp_ge (tgt := 78) (pc' := 20) (dk_at dkX6_ruled 11 rfl) rfl rfl (by omega) (by omega) (fun c17 => ?_) (fun c17 => ?_)
    · have ej : j = S.cnt := by omega
      have hqa : ∀ k, k < S.cnt → sq1 k = rlO S rl (-1) o k := fun k hk2 => by
        have a1 := ord_inj hc8 (rule := rl) hO
        have a2 := hq (jb (ordR S rl o S.cnt) k) (by rw [ej]; exact a1.1 k hk2)
        rw [ord_pos hk hO hk2] at a2
        rw [rlO_none, a2]
        have a3 := (Sq.ord hc8 (rule := rl) hO).1 k
        unfold jb
        omega
      have hsj : ∀ k, k < S.cnt → jb (rlO S rl (-1) o) k < S.cnt ∧ sq1 k = (jb (rlO S rl (-1) o) k : Int) := fun k hk2 => by
        have a1 := ord_inj hc8 (rule := rl) hO
        refine ⟨by rw [rlO_none]; exact a1.1 k hk2, ?_⟩
        rw [hqa k hk2, rlO_none]
        have a3 := (Sq.ord hc8 (rule := rl) hO).1 k
        unfold jb
        omega
      refine q_aload_n (pc' := 79) (dk_at dkX6_ruled 44 rfl) rfl rfl ?_
      refine r_cVV (pc' := 82) (As := []) (S := []) cv_RX6_173 (dk_at dkX6_ruled 45 rfl) hM.obj rfl (k_M_opensByFamilies (d := 1) (mm := S.cnt) (o := rlO S rl (-1) o) (by omega) hR hk hc8 hc8 hsj hM) (by omega) (Nat.zero_le _) (Nat.zero_le _) rfl (Nat.le_of_ble_eq_true rfl) rfl (Nat.le_of_ble_eq_true rfl) rfl (fun hh2 hphh2 => ?_)
      obtain ⟨op1, hM, hop, hGf⟩ := hphh2
      have hF := hF.tr hGf (by omega)
      have hSq : SqP sq1 op1 (rlP S rl o e) := SqP_gr (fun k hk2 => hqa k hk2) hop
      refine q_aload_n (pc' := 83) (dk_at dkX6_ruled 46 rfl) rfl rfl ?_
      refine r_cVI (pc' := 86) (As := []) (S := []) cv_RX6_163 (dk_at dkX6_ruled 47 rfl) hM.obj rfl (k_M_runs (d := 3) (P := rlP S rl o e) (by omega) hR hk (rlP_ok hk.c hO) hSq hM) (by omega) (Nat.zero_le _) (Nat.zero_le _) rfl (Nat.le_of_ble_eq_true rfl) rfl (Nat.le_of_ble_eq_true rfl) rfl (fun xx3 hh4 hphh4 => ?_)
      obtain ⟨hx, ss1, es1, bo1, su1, se1, hM, hT, hGf⟩ := hphh4
      have hF := hF.tr hGf (by omega)
      refine r_iret rfl (dk_at dkX6_ruled 48 rfl) ?_
      exact ⟨hx, sq1, op1, ss1, es1, bo1, su1, se1, _, hM, hSq, hF⟩
    · exfalso
      omega
  | succ c ih =>
    intro j sq1 h1 x3 x4 hc hq hM hF
    refine q_iload_n (pc' := 13) (dk_at dkX6_ruled 8 rfl) rfl rfl ?_
    refine q_aload_n (pc' := 14) (dk_at dkX6_ruled 9 rfl) rfl rfl ?_
    refine r_getf (pc' := 17) fl_RX6_119 (dk_at dkX6_ruled 10 rfl) hM.obj rfl rfl ?_
    refine q_icmp_ge (tgt := 78) (pc' := 20) (dk_at dkX6_ruled 11 rfl) rfl rfl (by omega) (by omega) (fun c17 => ?_) (fun c17 => ?_)
    · have ej : j = S.cnt := by omega
      have hqa : ∀ k, k < S.cnt → sq1 k = rlO S rl (-1) o k := fun k hk2 => by
        have a1 := ord_inj hc8 (rule := rl) hO
        have a2 := hq (jb (ordR S rl o S.cnt) k) (by rw [ej]; exact a1.1 k hk2)
        rw [ord_pos hk hO hk2] at a2
        rw [rlO_none, a2]
        have a3 := (Sq.ord hc8 (rule := rl) hO).1 k
        unfold jb
        omega
      have hsj : ∀ k, k < S.cnt → jb (rlO S rl (-1) o) k < S.cnt ∧ sq1 k = (jb (rlO S rl (-1) o) k : Int) := fun k hk2 => by
        have a1 := ord_inj hc8 (rule := rl) hO
        refine ⟨by rw [rlO_none]; exact a1.1 k hk2, ?_⟩
        rw [hqa k hk2, rlO_none]
        have a3 := (Sq.ord hc8 (rule := rl) hO).1 k
        unfold jb
        omega
      refine q_aload_n (pc' := 79) (dk_at dkX6_ruled 44 rfl) rfl rfl ?_
      refine r_cVV (pc' := 82) (As := []) (S := []) cv_RX6_173 (dk_at dkX6_ruled 45 rfl) hM.obj rfl (k_M_opensByFamilies (d := 1) (mm := S.cnt) (o := rlO S rl (-1) o) (by omega) hR hk hc8 hc8 hsj hM) (by omega) (Nat.zero_le _) (Nat.zero_le _) rfl (Nat.le_of_ble_eq_true rfl) rfl (Nat.le_of_ble_eq_true rfl) rfl (fun hh2 hphh2 => ?_)
      obtain ⟨op1, hM, hop, hGf⟩ := hphh2
      have hF := hF.tr hGf (by omega)
      have hSq : SqP sq1 op1 (rlP S rl o e) := SqP_gr (fun k hk2 => hqa k hk2) hop
      refine q_aload_n (pc' := 83) (dk_at dkX6_ruled 46 rfl) rfl rfl ?_
      refine r_cVI (pc' := 86) (As := []) (S := []) cv_RX6_163 (dk_at dkX6_ruled 47 rfl) hM.obj rfl (k_M_runs (d := 3) (P := rlP S rl o e) (by omega) hR hk (rlP_ok hk.c hO) hSq hM) (by omega) (Nat.zero_le _) (Nat.zero_le _) rfl (Nat.le_of_ble_eq_true rfl) rfl (Nat.le_of_ble_eq_true rfl) rfl (fun xx3 hh4 hphh4 => ?_)
      obtain ⟨hx, ss1, es1, bo1, su1, se1, hM, hT, hGf⟩ := hphh4
      have hF := hF.tr hGf (by omega)
      refine r_iret rfl (dk_at dkX6_ruled 48 rfl) ?_
      exact ⟨hx, sq1, op1, ss1, es1, bo1, su1, se1, _, hM, hSq, hF⟩
    · refine q_iconst (pc' := 21) (dk_at dkX6_ruled 12 rfl) rfl ?_
      refine q_istore_n (pc' := 22) (L' := [some (vR m), some (vI (rl : Int)), some (vI (j : Int)), some (vI 0), x4]) (dk_at dkX6_ruled 13 rfl) (by decide) rfl rfl ?_
      refine q_iconst (pc' := 23) (dk_at dkX6_ruled 14 rfl) rfl ?_
      refine q_istore (pc' := 25) (L' := [some (vR m), some (vI (rl : Int)), some (vI (j : Int)), some (vI 0), some (vI 0)]) (dk_at dkX6_ruled 15 rfl) (by decide) rfl rfl ?_
      refine l_rui (F := _) (by omega) hR hk hc8 (j := j) (by omega) hr hM ?_ S.cnt 0 (by omega)
      intro i1
      have hcl := cAh_le S rl j S.cnt
      obtain ⟨pj, pj1, pj2⟩ := ordR_surj hc8 (rule := rl) hO (j := j) (by omega)
      have pj3 : jb (ordR S rl o S.cnt) pj = j := by unfold jb; omega
      have pj4 := ord_pos hk (rule := rl) hO pj1
      rw [pj3] at pj4
      refine q_aload_n (pc' := 66) (dk_at dkX6_ruled 37 rfl) rfl rfl ?_
      refine r_getf (pc' := 69) fl_RX6_16 (dk_at dkX6_ruled 38 rfl) hM.obj rfl rfl ?_
      refine q_iload_n (pc' := 70) (dk_at dkX6_ruled 39 rfl) rfl rfl ?_
      refine q_iload_n (pc' := 71) (dk_at dkX6_ruled 40 rfl) rfl rfl ?_
      refine r_iast (pc' := 72) (dk_at dkX6_ruled 41 rfl) hM.sequence (cAh S rl j S.cnt) (by omega) (by omega) (by decide) rfl (fun hh5 ehh5 => ?_)
      have hM := hM.w_sequence ehh5
      have hF := hF.put ehh5 (by omega)
      refine q_iinc (pc' := 75) (L' := [some (vR m), some (vI (rl : Int)), some (vI ((j : Int) + 1)), some (vI ((cAh S rl j S.cnt : Nat) : Int)), some (vI i1)]) (dk_at dkX6_ruled 42 rfl) (by decide) rfl rfl rfl ?_
      rw [show ((j : Int) + 1) = ((j + 1 : Nat) : Int) by omega]
      refine q_goto (tgt := 12) (dk_at dkX6_ruled 43 rfl) rfl ?_
      refine ih (j + 1) _ _ _ _ (by omega) (fun j' hj' => ?_) hM hF
      by_cases z : j' = j
      · rw [z, upz_eq]
      · obtain ⟨pq, pq1, pq2⟩ := ordR_surj hc8 (rule := rl) hO (j := j') (by omega)
        have pq3 : jb (ordR S rl o S.cnt) pq = j' := by unfold jb; omega
        have pq4 := ord_pos hk (rule := rl) hO pq1
        rw [pq3] at pq4
        rw [upz_ne (by intro e; apply z; rw [pq4, pj4] at e; rw [← pq3, ← pj3, e])]
        exact hq j' (by omega)

set_option maxHeartbeats 4000000 in
set_option maxRecDepth 100000 in
theorem k_M_ruled {d n : Nat} {h : PH} {m : Nat} {A sd sq op ss es bo su se tx ba le fr un sF sR sT ad : Nat → Int} {sm th l0 bm tl nf ne nc : Int} {rl : Nat} {S : Shp} {o e : Nat → Int} (hd : 4 ≤ d) (hR : MR A S) (hk : Sok S) (hr : rl ≤ 3) (hO : ∀ j, 0 ≤ o j ∧ o j ≤ 7) (hM : isModel n h m A sd sm th sq op l0 ss es bo su se bm tx tl ba le fr un nf ne nc sF sR sT ad) : CtrI mX6_ruled d [vR m, vI (rl : Int)] n h (fun x h' => x = cvS S (rlP S rl o e) ∧ ∃ sq1 op1 ss1 es1 bo1 su1 se1 bm1, isModel n h' m A sd sm th sq1 op1 (S.cnt : Int) ss1 es1 bo1 su1 se1 bm1 tx tl ba le fr un nf ne nc sF sR sT ad ∧ SqP sq1 op1 (rlP S rl o e) ∧ Fr h h' m (m + 19)) := by
  have hF : Fr h h m (m + 19) := Fr.rf
  refine q_beginI (L := [some (vR m), some (vI (rl : Int)), none, none, none]) rfl ?_
  refine q_aload_n (pc' := 1) (dk_at dkX6_ruled 0 rfl) rfl rfl ?_
  refine q_aload_n (pc' := 2) (dk_at dkX6_ruled 1 rfl) rfl rfl ?_
  refine r_getf (pc' := 5) fl_RX6_7 (dk_at dkX6_ruled 2 rfl) hM.obj rfl rfl ?_
  refine q_iconst (pc' := 6) (dk_at dkX6_ruled 3 rfl) rfl ?_
  refine r_iald (pc' := 7) (dk_at dkX6_ruled 4 rfl) hM.all 0 (by omega) (by omega) (by decide) rfl ?_
  rw [hR.c]
  refine r_putf (pc' := 10) fp_RX6_119 (dk_at dkX6_ruled 5 rfl) hM.obj (Nat.le_of_ble_eq_true rfl) (PT_int _) rfl (fun hh1 ehh1 => ?_)
  have hM := hM.w_obj ehh1
  have hF := hF.put ehh1 (by omega)
  refine q_iconst (pc' := 11) (dk_at dkX6_ruled 6 rfl) rfl ?_
  refine q_istore_n (pc' := 12) (L' := [some (vR m), some (vI (rl : Int)), some (vI 0), none, none]) (dk_at dkX6_ruled 7 rfl) (by decide) rfl rfl ?_
  exact l_ruo (h := h) hd hR hk hk.c hr hO S.cnt 0 _ _ none none (by omega) (fun j' hj' => absurd hj' (Nat.not_lt_zero _)) hM hF

set_option maxHeartbeats 4000000 in
set_option maxRecDepth 100000 in
theorem k_M_keepRule {d n : Nat} {h : PH} {m : Nat} {S : Shp} {P : PlS} {kn bs : Int} {sv tl : Nat} {x : Nat → Snp} {tx : Nat → Int} {th : Int} {r0 : Int} {o e : Nat → Int} (hd : 30 ≤ d) (hI : MOI n h m th ((S, P, kn, bs), sv, x, tx, tl)) (hO : BOk ((S, P, kn, bs), sv, x, tx, tl)) (hi1 : IR r0) (hO7 : ∀ j, 0 ≤ o j ∧ o j ≤ 7) : CtrJ mX6_keepRule d [vR m, vI r0] n h (fun v h' => ((0 ≤ r0 ∧ r0 < 4) ∧ v = sqC S (rlO S r0.toNat (-1) o) e ∧ MOI n h' m 0 ((S, rlP S r0.toNat o e, kn, bs), pshN sv, (pshX sv x (S, P, kn, bs)), tx, tl) ∧ Fr h h' m (m + 19)) ∨ (¬ (0 ≤ r0 ∧ r0 < 4) ∧ MOI n h' m 1 ((S, P, kn, bs), sv, x, tx, tl) ∧ Fr h h' m (m + 19))) := by
  obtain ⟨A, sd, sq, op, ss, es, bo, su, se, tx1, ba, le, fr, un, sF, sR, sT, ad, l0, bm, nf, ne, nc, hM, ⟨hR, hP⟩, hSv, hTx, hL⟩ := hI
  have hM : isModel n h m A sd (sv : Int) th sq op l0 ss es bo su se bm tx1 (tl : Int) ba le fr un nf ne nc sF sR sT ad := hM
  have hR : MR A S := hR
  have hP : MP A P := hP
  have hSv : MSv sd sv x := hSv
  have hTx : ∀ i, i < tl → tx1 i = tx i := hTx
  obtain ⟨hko, hsv, hks, htl, htx⟩ := hO
  have hko : SnOk (S, P, kn, bs) := hko
  have hsv : sv ≤ 4 := hsv
  have hks : ∀ i, i < sv → SnOk (x i) := hks
  have htl : tl ≤ 60 := htl
  have htx : ∀ i, 0 ≤ tx i ∧ tx i ≤ 127 := htx
  have hk : Sok S := hko.1
  have hc8 := hk.c
  have hkp : Pok S.cnt P.od P.en P.bc P.sz := hko.2.1
  have hp8 : P.sz ≤ 8 := hkp.1
  have hpb : P.bc ≤ P.sz := hkp.2.1
  have hA0 := hR.c
  have hF : Fr h h m (m + 19) := Fr.rf
  refine q_beginJ (L := [some (vR m), some (vI r0), none]) rfl ?_
  refine q_aload_n (pc' := 1) (dk_at dkX6_keepRule 0 rfl) rfl rfl ?_
  refine q_iload_n (pc' := 2) (dk_at dkX6_keepRule 1 rfl) rfl rfl ?_
  refine q_i2l (pc' := 3) (dk_at dkX6_keepRule 2 rfl) (by omega) rfl ?_
  refine q_lconst0 (pc' := 4) (dk_at dkX6_keepRule 3 rfl) rfl ?_
  refine q_ldc2 (pc' := 7) (z := 3) kc_RX6_77 (by decide +kernel) (dk_at dkX6_keepRule 4 rfl) rfl ?_
  refine r_cSI (pc' := 10) (As := [vJ r0, vJ 0, vJ 3]) (S := [vR m]) cs_RX6_73 (dk_at dkX6_keepRule 5 rfl) (k_M_in (d := 0) (by omega) (by omega) (by omega)) (by omega) (Nat.zero_le _) (Nat.zero_le _) rfl (Nat.le_of_ble_eq_true rfl) rfl (Nat.le_of_ble_eq_true rfl) rfl (fun xx1 hh2 hphh2 => ?_)
  obtain ⟨qq3, y7⟩ := hphh2
  rw [qq3]
  have yr7 := y7.r
  refine q_iconst (pc' := 11) (dk_at dkX6_keepRule 6 rfl) rfl ?_
  refine r_cVI (pc' := 14) (As := [vI xx1, vI 1]) (S := []) cv_RX6_91 (dk_at dkX6_keepRule 7 rfl) hM.obj rfl (k_M_goes (d := 0) (by omega) (by omega) hM) (by omega) (Nat.zero_le _) (Nat.zero_le _) rfl (Nat.le_of_ble_eq_true rfl) rfl (Nat.le_of_ble_eq_true rfl) rfl (fun xx4 hh5 hphh5 => ?_)
  obtain ⟨y11, hM, hGf⟩ := hphh5
  have hF := hF.tr hGf (by omega)
  have yr11 := y11.r
  refine q_if_ne (tgt := 19) (pc' := 17) (dk_at dkX6_keepRule 8 rfl) rfl rfl (by omega) (fun c14 => ?_) (fun c14 => ?_)
  · have yy := y11.t (by omega)
    rw [if_neg (by omega), if_neg (by omega)] at hM
    have yw := y7.t (by omega)
    obtain ⟨rl, rfl⟩ : ∃ z : Nat, r0 = (z : Int) := ⟨r0.toNat, by omega⟩
    refine q_aload_n (pc' := 20) (dk_at dkX6_keepRule 11 rfl) rfl rfl ?_
    refine r_cVV (pc' := 23) (As := []) (S := []) cv_RX6_95 (dk_at dkX6_keepRule 12 rfl) hM.obj rfl (k_M_save (d := 0) (c := (S, P, kn, bs)) hko hks hsv ⟨hR, hP⟩ hSv hM) (by omega) (Nat.zero_le _) (Nat.zero_le _) rfl (Nat.le_of_ble_eq_true rfl) rfl (Nat.le_of_ble_eq_true rfl) rfl (fun hh7 hphh7 => ?_)
    obtain ⟨sd2, hM, hSv, hGf⟩ := hphh7
    have hF := hF.tr hGf (by omega)
    refine q_aload_n (pc' := 24) (dk_at dkX6_keepRule 13 rfl) rfl rfl ?_
    refine q_iload_n (pc' := 25) (dk_at dkX6_keepRule 14 rfl) rfl rfl ?_
    refine r_cVI (pc' := 28) (As := [vI (rl : Int)]) (S := []) cv_RX6_176 (dk_at dkX6_keepRule 15 rfl) hM.obj rfl (k_M_ruled (d := 6) (rl := rl) (o := o) (e := e) (by omega) hR hk (by omega) hO7 hM) (by omega) (Nat.zero_le _) (Nat.zero_le _) rfl (Nat.le_of_ble_eq_true rfl) rfl (Nat.le_of_ble_eq_true rfl) rfl (fun xx8 hh9 hphh9 => ?_)
    obtain ⟨hx, sq1, op1, ss1, es1, bo1, su1, se1, bm1, hM, hSq, hGf⟩ := hphh9
    have hF := hF.tr hGf (by omega)
    have hxr := cvS_r hk (rlP_ok hc8 hO7 (rule := rl) (e := e))
    subst hx
    refine q_istore_n (pc' := 29) (L' := [some (vR m), some (vI (rl : Int)), some (vI (cvS S (rlP S rl o e)))]) (dk_at dkX6_keepRule 16 rfl) (by decide) rfl rfl ?_
    refine q_aload_n (pc' := 30) (dk_at dkX6_keepRule 17 rfl) rfl rfl ?_
    refine r_cVV (pc' := 33) (As := []) (S := []) cv_RX6_160 (dk_at dkX6_keepRule 18 rfl) hM.obj rfl (k_M_keepsIt (d := 0) (P := rlP S rl o e) hc8 hSq hM) (by omega) (Nat.zero_le _) (Nat.zero_le _) rfl (Nat.le_of_ble_eq_true rfl) rfl (Nat.le_of_ble_eq_true rfl) rfl (fun hh11 hphh11 => ?_)
    obtain ⟨A1, hM, hA1, hP1, hGf⟩ := hphh11
    have hF := hF.tr hGf (by omega)
    have hR1 := hR.cong hA1 hc8
    refine q_iload_n (pc' := 34) (dk_at dkX6_keepRule 19 rfl) rfl rfl ?_
    refine q_i2l (pc' := 35) (dk_at dkX6_keepRule 20 rfl) (by omega) rfl ?_
    refine r_lret rfl (dk_at dkX6_keepRule 21 rfl) ?_
    exact Or.inl ⟨by omega, rfl, ⟨_, _, _, _, _, _, _, _, _, _, _, _, _, _, _, _, _, _, _, _, _, _, _, hM, ⟨hR1, hP1⟩, hSv, hTx, hL⟩, hF⟩
  · refine q_lconst0 (pc' := 18) (dk_at dkX6_keepRule 9 rfl) rfl ?_
    refine r_lret rfl (dk_at dkX6_keepRule 10 rfl) ?_
    rw [if_pos (by have := y11.f (by omega); omega)] at hM
    exact Or.inr ⟨by have := y11.f (by omega); have := y7.f (by have := y7.r; omega); omega, ⟨_, _, _, _, _, _, _, _, _, _, _, _, _, _, _, _, _, _, _, _, _, _, _, hM, ⟨hR, hP⟩, hSv, hTx, hL⟩, hF⟩

set_option maxHeartbeats 4000000 in
set_option maxRecDepth 100000 in
theorem k_M_ruleCost {d n : Nat} {h : PH} {m : Nat} {S : Shp} {P : PlS} {kn bs : Int} {sv tl : Nat} {x : Nat → Snp} {tx : Nat → Int} {th : Int} {r0 : Int} {o e : Nat → Int} (hd : 30 ≤ d) (hI : MOI n h m th ((S, P, kn, bs), sv, x, tx, tl)) (hO : BOk ((S, P, kn, bs), sv, x, tx, tl)) (hi1 : IR r0) (hO7 : ∀ j, 0 ≤ o j ∧ o j ≤ 7) : CtrJ mX6_ruleCost d [vR m, vI r0] n h (fun v h' => ((0 ≤ r0 ∧ r0 < 4) ∧ v = sqC S (rlO S r0.toNat (-1) o) e ∧ MOI n h' m 0 ((S, P, kn, bs), sv, x, tx, tl) ∧ Fr h h' m (m + 19)) ∨ (¬ (0 ≤ r0 ∧ r0 < 4) ∧ MOI n h' m 1 ((S, P, kn, bs), sv, x, tx, tl) ∧ Fr h h' m (m + 19))) := by
  obtain ⟨A, sd, sq, op, ss, es, bo, su, se, tx1, ba, le, fr, un, sF, sR, sT, ad, l0, bm, nf, ne, nc, hM, ⟨hR, hP⟩, hSv, hTx, hL⟩ := hI
  have hM : isModel n h m A sd (sv : Int) th sq op l0 ss es bo su se bm tx1 (tl : Int) ba le fr un nf ne nc sF sR sT ad := hM
  have hR : MR A S := hR
  have hP : MP A P := hP
  have hSv : MSv sd sv x := hSv
  have hTx : ∀ i, i < tl → tx1 i = tx i := hTx
  obtain ⟨hko, hsv, hks, htl, htx⟩ := hO
  have hko : SnOk (S, P, kn, bs) := hko
  have hsv : sv ≤ 4 := hsv
  have hks : ∀ i, i < sv → SnOk (x i) := hks
  have htl : tl ≤ 60 := htl
  have htx : ∀ i, 0 ≤ tx i ∧ tx i ≤ 127 := htx
  have hk : Sok S := hko.1
  have hc8 := hk.c
  have hkp : Pok S.cnt P.od P.en P.bc P.sz := hko.2.1
  have hp8 : P.sz ≤ 8 := hkp.1
  have hpb : P.bc ≤ P.sz := hkp.2.1
  have hA0 := hR.c
  have hF : Fr h h m (m + 19) := Fr.rf
  refine q_beginJ (L := [some (vR m), some (vI r0)]) rfl ?_
  refine q_aload_n (pc' := 1) (dk_at dkX6_ruleCost 0 rfl) rfl rfl ?_
  refine q_iload_n (pc' := 2) (dk_at dkX6_ruleCost 1 rfl) rfl rfl ?_
  refine q_i2l (pc' := 3) (dk_at dkX6_ruleCost 2 rfl) (by omega) rfl ?_
  refine q_lconst0 (pc' := 4) (dk_at dkX6_ruleCost 3 rfl) rfl ?_
  refine q_ldc2 (pc' := 7) (z := 3) kc_RX6_77 (by decide +kernel) (dk_at dkX6_ruleCost 4 rfl) rfl ?_
  refine r_cSI (pc' := 10) (As := [vJ r0, vJ 0, vJ 3]) (S := [vR m]) cs_RX6_73 (dk_at dkX6_ruleCost 5 rfl) (k_M_in (d := 0) (by omega) (by omega) (by omega)) (by omega) (Nat.zero_le _) (Nat.zero_le _) rfl (Nat.le_of_ble_eq_true rfl) rfl (Nat.le_of_ble_eq_true rfl) rfl (fun xx1 hh2 hphh2 => ?_)
  obtain ⟨qq3, y7⟩ := hphh2
  rw [qq3]
  have yr7 := y7.r
  refine q_iconst (pc' := 11) (dk_at dkX6_ruleCost 6 rfl) rfl ?_
  refine r_cVI (pc' := 14) (As := [vI xx1, vI 1]) (S := []) cv_RX6_91 (dk_at dkX6_ruleCost 7 rfl) hM.obj rfl (k_M_goes (d := 0) (by omega) (by omega) hM) (by omega) (Nat.zero_le _) (Nat.zero_le _) rfl (Nat.le_of_ble_eq_true rfl) rfl (Nat.le_of_ble_eq_true rfl) rfl (fun xx4 hh5 hphh5 => ?_)
  obtain ⟨y11, hM, hGf⟩ := hphh5
  have hF := hF.tr hGf (by omega)
  have yr11 := y11.r
  refine q_if_eq (tgt := 26) (pc' := 17) (dk_at dkX6_ruleCost 8 rfl) rfl rfl (by omega) (fun c14 => ?_) (fun c14 => ?_)
  · refine q_lconst0 (pc' := 27) (dk_at dkX6_ruleCost 14 rfl) rfl ?_
    refine r_lret rfl (dk_at dkX6_ruleCost 15 rfl) ?_
    rw [if_pos (by have := y11.f (by omega); omega)] at hM
    exact Or.inr ⟨by have := y11.f (by omega); have := y7.f (by have := y7.r; omega); omega, ⟨_, _, _, _, _, _, _, _, _, _, _, _, _, _, _, _, _, _, _, _, _, _, _, hM, ⟨hR, hP⟩, hSv, hTx, hL⟩, hF⟩
  · have yy := y11.t (by omega)
    rw [if_neg (by omega), if_neg (by omega)] at hM
    have yw := y7.t (by omega)
    obtain ⟨rl, rfl⟩ : ∃ z : Nat, r0 = (z : Int) := ⟨r0.toNat, by omega⟩
    refine q_aload_n (pc' := 18) (dk_at dkX6_ruleCost 9 rfl) rfl rfl ?_
    refine q_iload_n (pc' := 19) (dk_at dkX6_ruleCost 10 rfl) rfl rfl ?_
    refine r_cVI (pc' := 22) (As := [vI (rl : Int)]) (S := []) cv_RX6_176 (dk_at dkX6_ruleCost 11 rfl) hM.obj rfl (k_M_ruled (d := 6) (rl := rl) (o := o) (e := e) (by omega) hR hk (by omega) hO7 hM) (by omega) (Nat.zero_le _) (Nat.zero_le _) rfl (Nat.le_of_ble_eq_true rfl) rfl (Nat.le_of_ble_eq_true rfl) rfl (fun xx6 hh7 hphh7 => ?_)
    obtain ⟨hx, sq1, op1, ss1, es1, bo1, su1, se1, bm1, hM, hSq, hGf⟩ := hphh7
    have hF := hF.tr hGf (by omega)
    have hxr := cvS_r hk (rlP_ok hc8 hO7 (rule := rl) (e := e))
    subst hx
    refine q_i2l (pc' := 23) (dk_at dkX6_ruleCost 12 rfl) (by omega) rfl ?_
    refine q_goto (tgt := 27) (dk_at dkX6_ruleCost 13 rfl) rfl ?_
    refine r_lret rfl (dk_at dkX6_ruleCost 15 rfl) ?_
    exact Or.inl ⟨by omega, rfl, ⟨_, _, _, _, _, _, _, _, _, _, _, _, _, _, _, _, _, _, _, _, _, _, _, hM, ⟨hR, hP⟩, hSv, hTx, hL⟩, hF⟩
