/-! BatchMachine: what a rule's schedule costs, the least cost -/
theorem isPlan.row_o {n : Nat} {h h' : PH} {p : Nat} {size bc : Int} {o e f1 : Nat → Int} (H : isPlan n h p size bc o e) (hA : At1 n h' (p + 1) (cI 8 f1)) (hG : Fr h h' (p + 1) (p + 1 + 1)) : isPlan n h' p size bc f1 e :=
  ⟨At1.fr H.obj (hG _ (by omega)), hA, At1.fr H.ends (hG _ (by omega))⟩
/-- the sequence of a rule, with one job ahead unless -1 -/
def rlO (S : Shp) (rule : Nat) (ah : Int) (o : Nat → Int) : Nat → Int := if ah = -1 then ordR S rule o S.cnt else frO (ordR S rule o S.cnt) ah S.cnt
theorem rlO_sq {S : Shp} (hc : S.cnt ≤ 8) {rule : Nat} {ah : Int} {o : Nat → Int} (ho : ∀ j, 0 ≤ o j ∧ o j ≤ 7) (ha : ah = -1 ∨ (0 ≤ ah ∧ ah < (S.cnt : Int))) : Sq S.cnt (rlO S rule ah o) := by
  have h := Sq.ord hc (rule := rule) ho
  unfold rlO
  by_cases q : ah = -1
  · rw [if_pos q]; exact h
  · rw [if_neg q]
    obtain ⟨p, p1, p2⟩ := ordR_surj hc (rule := rule) ho (j := ah.toNat) (by omega)
    exact (h.front p1 (by omega)).2.1
def fmG (S : Shp) (o : Nat → Int) : Nat → Int := fun k => S.V 0 (o k).toNat
/-- what a whole sequence costs when it is grouped by family -/
def sqC (S : Shp) (o e : Nat → Int) : Int := costP S o (grE (fmG S o) e S.cnt) (grB (fmG S o) S.cnt) S.cnt
set_option maxHeartbeats 4000000 in
set_option maxRecDepth 100000 in
theorem k_BM_costOfRule {d n : Nat} {h : PH} {b q rule bc : Nat} {S : Shp} {sv tl ah size fre : Int} {tx o e tot : Nat → Int} {BV JV : Nat → Nat → Int} (hd : 5 ≤ d) (hk : Sok S) (hrl : rule ≤ 3) (ha : ah = -1 ∨ (0 ≤ ah ∧ ah < (S.cnt : Int))) (hbq : q + 13 ≤ b + 88 ∨ b + 105 ≤ q) (hO : ∀ j, 0 ≤ o j ∧ o j ≤ 7) (hB : isBM n h b sv tx tl) (hQ : isShp n h q S) (hP : isPlan n h (b + 88) size (bc : Int) o e) (hM : isTiming n h (b + 91) BV JV tot fre) : CtrJ mX5_costOfRule d [vR b, vR q, vI (rule : Int), vI ah] n h (fun x h' => x = sqC S (rlO S rule ah o) e ∧ isBM n h' b sv tx tl ∧ isShp n h' q S ∧ isPlan n h' (b + 88) (S.cnt : Int) ((grB (fmG S (rlO S rule ah o)) S.cnt : Nat) : Int) (rlO S rule ah o) (grE (fmG S (rlO S rule ah o)) e S.cnt) ∧ (∃ BV' JV' tot' fre', isTiming n h' (b + 91) BV' JV' tot' fre') ∧ Fr h h' (b + 88) (b + 105)) := by
  have hsq := rlO_sq hk.c (rule := rule) hO ha
  have hc8 := hk.c
  have hF : Fr h h (b + 88) (b + 105) := Fr.rf
  refine q_beginJ (L := [some (vR b), some (vR q), some (vI (rule : Int)), some (vI ah)]) rfl ?_
  refine q_aload_n (pc' := 1) (dk_at dkX5_costOfRule 0 rfl) rfl rfl ?_
  refine r_getf (pc' := 4) fl_RX5_27 (dk_at dkX5_costOfRule 1 rfl) hB.obj rfl rfl ?_
  refine q_aload_n (pc' := 5) (dk_at dkX5_costOfRule 2 rfl) rfl rfl ?_
  refine r_getf (pc' := 8) fl_RX5_66 (dk_at dkX5_costOfRule 3 rfl) hQ.obj rfl rfl ?_
  refine r_putf (pc' := 11) fp_RX5_252 (dk_at dkX5_costOfRule 4 rfl) hP.obj (Nat.le_of_ble_eq_true rfl) (PT_int _) rfl (fun hh1 ehh1 => ?_)
  have hB := hB.off ehh1 (by omega)
  have hQ := hQ.off ehh1 (by omega)
  have hP := hP.w_obj ehh1
  have hM := hM.off ehh1 (by omega)
  have hF := hF.put ehh1 (by omega)
  refine q_aload_n (pc' := 12) (dk_at dkX5_costOfRule 5 rfl) rfl rfl ?_
  refine q_iload_n (pc' := 13) (dk_at dkX5_costOfRule 6 rfl) rfl rfl ?_
  refine q_aload_n (pc' := 14) (dk_at dkX5_costOfRule 7 rfl) rfl rfl ?_
  refine r_getf (pc' := 17) fl_RX5_27 (dk_at dkX5_costOfRule 8 rfl) hB.obj rfl rfl ?_
  refine r_getf (pc' := 20) fl_RX5_184 (dk_at dkX5_costOfRule 9 rfl) hP.obj rfl rfl ?_
  refine r_cVV (pc' := 23) (As := [vI (rule : Int), vR ((b + 88) + 1)]) (S := []) cv_RX5_255 (dk_at dkX5_costOfRule 10 rfl) hQ.obj rfl (k_Shop_orderByRule (d := 4) (rule := rule) (r := b + 88 + 1) (by omega) hk hQ hrl (by omega) hO hP.order) (by omega) (Nat.zero_le _) (Nat.zero_le _) rfl (Nat.le_of_ble_eq_true rfl) rfl (Nat.le_of_ble_eq_true rfl) rfl (fun hh3 hphh3 => ?_)
  obtain ⟨hA, hGf⟩ := hphh3
  have hB := isBM.frm hB hGf (by omega)
  have hQ := isShop.frm hQ hGf (by omega)
  have hM := isTiming.frm hM hGf (by omega)
  have hF := hF.tr hGf (by omega)
  have hP := hP.row_o hA hGf
  refine q_iload_n (pc' := 24) (dk_at dkX5_costOfRule 11 rfl) rfl rfl ?_
  refine q_iconst (pc' := 25) (dk_at dkX5_costOfRule 12 rfl) rfl ?_
  refine q_icmp_eq (tgt := 45) (pc' := 28) (dk_at dkX5_costOfRule 13 rfl) rfl rfl (by omega) (by omega) (fun c25 => ?_) (fun c25 => ?_)
  · have hP : isPlan n hh3 (b + 88) (S.cnt : Int) (bc : Int) (rlO S rule ah o) e := by unfold rlO; rw [if_pos (by omega)]; exact hP
    refine q_aload_n (pc' := 46) (dk_at dkX5_costOfRule 23 rfl) rfl rfl ?_
    refine r_getf (pc' := 49) fl_RX5_27 (dk_at dkX5_costOfRule 24 rfl) hB.obj rfl rfl ?_
    refine q_aload_n (pc' := 50) (dk_at dkX5_costOfRule 25 rfl) rfl rfl ?_
    refine r_cVV (pc' := 53) (As := [vR q]) (S := []) cv_RX5_266 (dk_at dkX5_costOfRule 26 rfl) hP.obj rfl (k_Plan_groupByFamily (d := 0) hk.v hsq.1 hk.c (by omega) hQ hP) (by omega) (Nat.zero_le _) (Nat.zero_le _) rfl (Nat.le_of_ble_eq_true rfl) rfl (Nat.le_of_ble_eq_true rfl) rfl (fun hh5 hphh5 => ?_)
    obtain ⟨hP, hGf⟩ := hphh5
    have hB := isBM.frm hB hGf (by omega)
    have hQ := isShop.frm hQ hGf (by omega)
    have hM := isTiming.frm hM hGf (by omega)
    have hF := hF.tr hGf (by omega)
    refine q_aload_n (pc' := 54) (dk_at dkX5_costOfRule 27 rfl) rfl rfl ?_
    refine r_getf (pc' := 57) fl_RX5_34 (dk_at dkX5_costOfRule 28 rfl) hB.obj rfl rfl ?_
    refine q_aload_n (pc' := 58) (dk_at dkX5_costOfRule 29 rfl) rfl rfl ?_
    refine q_aload_n (pc' := 59) (dk_at dkX5_costOfRule 30 rfl) rfl rfl ?_
    refine r_getf (pc' := 62) fl_RX5_27 (dk_at dkX5_costOfRule 31 rfl) hB.obj rfl rfl ?_
    refine r_cVJ (pc' := 65) (As := [vR q, vR (b + 88)]) (S := []) cv_RX5_171 (dk_at dkX5_costOfRule 32 rfl) hM.obj rfl (k_Timing_follow (d := 3) (by omega) hk (hsq.pok hk.c (fmG S (rlO S rule ah o)) e) (by omega) (by omega) hQ hP hM) (by omega) (Nat.zero_le _) (Nat.zero_le _) rfl (Nat.le_of_ble_eq_true rfl) rfl (Nat.le_of_ble_eq_true rfl) rfl (fun xx6 hh7 hphh7 => ?_)
    obtain ⟨hx, BV2, JV2, tot2, hM, hTI, htt, hGf⟩ := hphh7
    have hB := isBM.frm hB hGf (by omega)
    have hQ := isShop.frm hQ hGf (by omega)
    have hP := isPlan.frm hP hGf (by omega)
    have hF := hF.tr hGf (by omega)
    refine r_lret rfl (dk_at dkX5_costOfRule 33 rfl) ?_
    exact ⟨hx, hB, hQ, hP, ⟨BV2, JV2, tot2, _, hM⟩, hF⟩
  · obtain ⟨pp, pp1, pp2⟩ := ordR_surj hk.c (rule := rule) hO (j := ah.toNat) (by omega)
    have hfr := (Sq.ord hk.c (rule := rule) hO).front pp1 (x := ah) (by omega)
    refine q_aload_n (pc' := 29) (dk_at dkX5_costOfRule 14 rfl) rfl rfl ?_
    refine r_getf (pc' := 32) fl_RX5_27 (dk_at dkX5_costOfRule 15 rfl) hB.obj rfl rfl ?_
    refine q_iload_n (pc' := 33) (dk_at dkX5_costOfRule 16 rfl) rfl rfl ?_
    refine r_cVV (pc' := 36) (As := [vI ah]) (S := []) cv_RX5_259 (dk_at dkX5_costOfRule 17 rfl) hP.obj rfl (k_Plan_dropJobFromOrder (d := 0) (size := S.cnt) (Sq.ord hk.c (rule := rule) hO).1 hk.c (by omega) hP) (by omega) (Nat.zero_le _) (Nat.zero_le _) rfl (Nat.le_of_ble_eq_true rfl) rfl (Nat.le_of_ble_eq_true rfl) rfl (fun hh9 hphh9 => ?_)
    obtain ⟨hP, hGf⟩ := hphh9
    have hB := isBM.frm hB hGf (by omega)
    have hQ := isShop.frm hQ hGf (by omega)
    have hM := isTiming.frm hM hGf (by omega)
    have hF := hF.tr hGf (by omega)
    rw [hfr.1] at hP
    refine q_aload_n (pc' := 37) (dk_at dkX5_costOfRule 18 rfl) rfl rfl ?_
    refine r_getf (pc' := 40) fl_RX5_27 (dk_at dkX5_costOfRule 19 rfl) hB.obj rfl rfl ?_
    refine q_iconst (pc' := 41) (dk_at dkX5_costOfRule 20 rfl) rfl ?_
    refine q_iload_n (pc' := 42) (dk_at dkX5_costOfRule 21 rfl) rfl rfl ?_
    refine r_cVV (pc' := 45) (As := [vI 0, vI ah]) (S := []) cv_RX5_262 (dk_at dkX5_costOfRule 22 rfl) hP.obj rfl (k_Plan_putAt (d := 0) (place := 0) (size := S.cnt - 1) (bc := bc) hP (by omega) (by omega)) (by omega) (Nat.zero_le _) (Nat.zero_le _) rfl (Nat.le_of_ble_eq_true rfl) rfl (Nat.le_of_ble_eq_true rfl) rfl (fun hh11 hphh11 => ?_)
    obtain ⟨o3, hP, ho3, hGf⟩ := hphh11
    have hB := isBM.frm hB hGf (by omega)
    have hQ := isShop.frm hQ hGf (by omega)
    have hM := isTiming.frm hM hGf (by omega)
    have hF := hF.tr hGf (by omega)
    rw [show o3 = frO (ordR S rule o S.cnt) ah S.cnt from funext ho3, show (((S.cnt - 1 : Nat) : Int) + 1) = (S.cnt : Int) by omega] at hP
    have hP : isPlan n hh11 (b + 88) (S.cnt : Int) (bc : Int) (rlO S rule ah o) e := by unfold rlO; rw [if_neg (by omega)]; exact hP
    refine q_aload_n (pc' := 46) (dk_at dkX5_costOfRule 23 rfl) rfl rfl ?_
    refine r_getf (pc' := 49) fl_RX5_27 (dk_at dkX5_costOfRule 24 rfl) hB.obj rfl rfl ?_
    refine q_aload_n (pc' := 50) (dk_at dkX5_costOfRule 25 rfl) rfl rfl ?_
    refine r_cVV (pc' := 53) (As := [vR q]) (S := []) cv_RX5_266 (dk_at dkX5_costOfRule 26 rfl) hP.obj rfl (k_Plan_groupByFamily (d := 0) hk.v hsq.1 hk.c (by omega) hQ hP) (by omega) (Nat.zero_le _) (Nat.zero_le _) rfl (Nat.le_of_ble_eq_true rfl) rfl (Nat.le_of_ble_eq_true rfl) rfl (fun hh13 hphh13 => ?_)
    obtain ⟨hP, hGf⟩ := hphh13
    have hB := isBM.frm hB hGf (by omega)
    have hQ := isShop.frm hQ hGf (by omega)
    have hM := isTiming.frm hM hGf (by omega)
    have hF := hF.tr hGf (by omega)
    refine q_aload_n (pc' := 54) (dk_at dkX5_costOfRule 27 rfl) rfl rfl ?_
    refine r_getf (pc' := 57) fl_RX5_34 (dk_at dkX5_costOfRule 28 rfl) hB.obj rfl rfl ?_
    refine q_aload_n (pc' := 58) (dk_at dkX5_costOfRule 29 rfl) rfl rfl ?_
    refine q_aload_n (pc' := 59) (dk_at dkX5_costOfRule 30 rfl) rfl rfl ?_
    refine r_getf (pc' := 62) fl_RX5_27 (dk_at dkX5_costOfRule 31 rfl) hB.obj rfl rfl ?_
    refine r_cVJ (pc' := 65) (As := [vR q, vR (b + 88)]) (S := []) cv_RX5_171 (dk_at dkX5_costOfRule 32 rfl) hM.obj rfl (k_Timing_follow (d := 3) (by omega) hk (hsq.pok hk.c (fmG S (rlO S rule ah o)) e) (by omega) (by omega) hQ hP hM) (by omega) (Nat.zero_le _) (Nat.zero_le _) rfl (Nat.le_of_ble_eq_true rfl) rfl (Nat.le_of_ble_eq_true rfl) rfl (fun xx14 hh15 hphh15 => ?_)
    obtain ⟨hx, BV2, JV2, tot2, hM, hTI, htt, hGf⟩ := hphh15
    have hB := isBM.frm hB hGf (by omega)
    have hQ := isShop.frm hQ hGf (by omega)
    have hP := isPlan.frm hP hGf (by omega)
    have hF := hF.tr hGf (by omega)
    refine r_lret rfl (dk_at dkX5_costOfRule 33 rfl) ?_
    exact ⟨hx, hB, hQ, hP, ⟨BV2, JV2, tot2, _, hM⟩, hF⟩
