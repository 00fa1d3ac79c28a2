/-! Search: run -/
def fnS (S : Shp) (fi : Int) : Int := fn S fi 0 (-1) 0 (neu S)

theorem isSearch.row_rk {n : Nat} {h h' : PH} {b : Nat} {al fi bs fl sc fc : Int} {st fa re wo lg rk ch fo sC sT sX f1 : Nat → Int} {G : Nat → Nat → Int} (H : isSearch n h b al fi bs fl sc st fa re wo G lg rk ch fo fc sC sT sX) (hA : At1 n h' (b + 25) (cI 8 f1)) (hG : Fr h h' (b + 25) (b + 25 + 1)) : isSearch n h' b al fi bs fl sc st fa re wo G lg f1 ch fo fc sC sT sX :=
  ⟨At1.fr H.obj (hG _ (by omega)), At1.fr H.sets (hG _ (by omega)), At1.fr H.familyOf (hG _ (by omega)), At1.fr H.readyOf (hG _ (by omega)), At1.fr H.workOf (hG _ (by omega)), At1.fr H.leastGap (hG _ (by omega)), hA, At1.fr H.chosen (hG _ (by omega)), At1.fr H.found (hG _ (by omega)), At1.fr H.seenCount (hG _ (by omega)), At1.fr H.seenTime (hG _ (by omega)), At1.fr H.seenCost (hG _ (by omega)), At1.fr H.gaps (hG _ (by omega)), fun j hj => At1.fr (H.gaps_at j hj) (hG _ (by omega))⟩
theorem isSearch.row_sC {n : Nat} {h h' : PH} {b : Nat} {al fi bs fl sc fc : Int} {st fa re wo lg rk ch fo sC sT sX f1 : Nat → Int} {G : Nat → Nat → Int} (H : isSearch n h b al fi bs fl sc st fa re wo G lg rk ch fo fc sC sT sX) (hA : At1 n h' (b + 28) (cI 1024 f1)) (hG : Fr h h' (b + 28) (b + 28 + 1)) : isSearch n h' b al fi bs fl sc st fa re wo G lg rk ch fo fc f1 sT sX :=
  ⟨At1.fr H.obj (hG _ (by omega)), At1.fr H.sets (hG _ (by omega)), At1.fr H.familyOf (hG _ (by omega)), At1.fr H.readyOf (hG _ (by omega)), At1.fr H.workOf (hG _ (by omega)), At1.fr H.leastGap (hG _ (by omega)), At1.fr H.ranked (hG _ (by omega)), At1.fr H.chosen (hG _ (by omega)), At1.fr H.found (hG _ (by omega)), hA, At1.fr H.seenTime (hG _ (by omega)), At1.fr H.seenCost (hG _ (by omega)), At1.fr H.gaps (hG _ (by omega)), fun j hj => At1.fr (H.gaps_at j hj) (hG _ (by omega))⟩

/-- a search object with its own shop, and what it has found -/
def SrP (n : Nat) (h : PH) (b : Nat) (S : Shp) (fc : Int) (fo : Nat → Int) : Prop := ∃ (al fi bs fl sc : Int) (st fa re wo lg rk ch sC sT sX : Nat → Int) (G : Nat → Nat → Int), isSearch n h b al fi bs fl sc st fa re wo G lg rk ch fo fc sC sT sX ∧ isShp n h (b + 1) S ∧ (∀ j, 0 ≤ rk j ∧ rk j ≤ 7) ∧ (∀ i, 0 ≤ sT i ∧ sT i ≤ 100000) ∧ ∀ i, -4000000000000 ≤ sX i ∧ sX i ≤ 4000000000000
def FoundR (S : Shp) (fi ce fl fc : Int) (fo : Nat → Int) : Prop := (S.cnt = 0 → fc = 0) ∧ (0 < S.cnt → ce = fl + 1 → fnS S fi = fl → ∃ ts, Gp S fi fl 0 (-1) 0 (neu S) ts ∧ fc = (ts.length : Int) ∧ ∀ i, i < ts.length → fo i = (ts.getD i 0 : Int))
theorem neu_r (S : Shp) : -1000000000000 ≤ neu S ∧ neu S ≤ 0 := by unfold neu; split <;> omega
theorem Pre_start {S : Shp} (hk : Sok S) {fi fl ce : Int} {sT sX : Nat → Int} (h0 : 0 < S.cnt) (hce : -2000000000000 ≤ ce ∧ ce ≤ INF) (hfl : fl ≤ fnS S fi) (hsT : ∀ i, 0 ≤ sT i ∧ sT i ≤ 100000) (hsX : ∀ i, -4000000000000 ≤ sX i ∧ sX i ≤ 4000000000000) : PreX S fi fl 0 0 (-1) 0 (neu S) ce (fun _ => 0) sT sX := by
  have h1 := nt_pow_r hk.c
  have h2 := rmT_le 0 S.cnt
  have h3 := neu_r S
  have h4 : 2 ^ 1 ≤ 2 ^ S.cnt := Nat.pow_le_pow_right (by decide) h0
  refine ⟨by omega, by omega, by omega, by omega, by omega, by omega, hce, fun z => ?_, hfl, ⟨fun i _ => ⟨0, by omega, rfl⟩, hsT, hsX⟩, fun e l _ _ _ x hx => ?_⟩
  · unfold alS at z; omega
  · have hx0 : (x : Int) < 0 := hx
    omega
set_option maxHeartbeats 4000000 in
set_option maxRecDepth 100000 in
theorem k_Search_run {d n : Nat} {h : PH} {b q : Nat} {S S0 : Shp} {fc0 : Int} {fo0 : Nat → Int} {fi1 ce fl1 : Int} (hd : 12 ≤ d) (hk : Sok S) (hbq : q + 13 ≤ b ∨ b + 31 ≤ q) (hfi : -1 ≤ fi1 ∧ fi1 ≤ 7) (hce : -2000000000000 ≤ ce ∧ ce ≤ INF) (hflr : -4000000000000 ≤ fl1 ∧ fl1 ≤ INF) (hfl : 0 < S.cnt → fl1 ≤ fnS S fi1) (hX0 : SrP n h b S0 fc0 fo0) (hQ : isShp n h q S) : CtrJ mX1_run d [vR b, vR q, vI fi1, vJ ce, vJ fl1] n h (fun x h' => x = (if S.cnt = 0 then ce else min ce (fnS S fi1)) ∧ ∃ fc fo, SrP n h' b S fc fo ∧ FoundR S fi1 ce fl1 fc fo ∧ Fr h h' b (b + 31)) := by
  obtain ⟨al, fi, bs, fl, sc, st, fa, re, wo, lg, rk, ch, sC, sT, sX, G, hX, hS, hrk, hsT, hsX⟩ := hX0
  have hp8 := nt_pow_r hk.c
  have hc8 := hk.c
  have hob := hk.o
  have hF : Fr h h b (b + 31) := Fr.rf
  refine q_beginJ (L := [some (vR b), some (vR q), some (vI fi1), some (vJ ce), none, some (vJ fl1), none]) rfl ?_
  refine q_aload_n (pc' := 1) (dk_at dkX1_run 0 rfl) rfl rfl ?_
  refine r_getf (pc' := 4) fl_RX1_12 (dk_at dkX1_run 1 rfl) hX.obj rfl rfl ?_
  refine q_aload_n (pc' := 5) (dk_at dkX1_run 2 rfl) rfl rfl ?_
  refine r_cVV (pc' := 8) (As := [vR q]) (S := []) cv_RX1_58 (dk_at dkX1_run 3 rfl) hS.obj rfl (k_Shop_takeFrom (d := 1) (by omega) (by omega) hk hS hQ) (by omega) (Nat.zero_le _) (Nat.zero_le _) rfl (Nat.le_of_ble_eq_true rfl) rfl (Nat.le_of_ble_eq_true rfl) rfl (fun hh2 hphh2 => ?_)
  obtain ⟨hS, hGf⟩ := hphh2
  have hX := hX.frm hGf (by omega)
  have hQ := isShop.frm hQ hGf (by omega)
  have hF := hF.tr hGf (by omega)
  refine q_aload_n (pc' := 9) (dk_at dkX1_run 4 rfl) rfl rfl ?_
  refine q_iload_n (pc' := 10) (dk_at dkX1_run 5 rfl) rfl rfl ?_
  refine r_putf (pc' := 13) fp_RX1_62 (dk_at dkX1_run 6 rfl) hX.obj (Nat.le_of_ble_eq_true rfl) (PT_int _) rfl (fun hh3 ehh3 => ?_)
  have hX := hX.w_obj ehh3
  have hS := hS.off ehh3 (by omega)
  have hQ := hQ.off ehh3 (by omega)
  have hF := hF.put ehh3 (by omega)
  refine q_aload_n (pc' := 14) (dk_at dkX1_run 7 rfl) rfl rfl ?_
  refine q_lload_n (pc' := 15) (dk_at dkX1_run 8 rfl) rfl rfl ?_
  refine r_putf (pc' := 18) fp_RX1_66 (dk_at dkX1_run 9 rfl) hX.obj (Nat.le_of_ble_eq_true rfl) (PT_long _) rfl (fun hh4 ehh4 => ?_)
  have hX := hX.w_obj ehh4
  have hS := hS.off ehh4 (by omega)
  have hQ := hQ.off ehh4 (by omega)
  have hF := hF.put ehh4 (by omega)
  refine q_aload_n (pc' := 19) (dk_at dkX1_run 10 rfl) rfl rfl ?_
  refine q_lload (pc' := 21) (dk_at dkX1_run 11 rfl) rfl rfl ?_
  refine r_putf (pc' := 24) fp_RX1_70 (dk_at dkX1_run 12 rfl) hX.obj (Nat.le_of_ble_eq_true rfl) (PT_long _) rfl (fun hh5 ehh5 => ?_)
  have hX := hX.w_obj ehh5
  have hS := hS.off ehh5 (by omega)
  have hQ := hQ.off ehh5 (by omega)
  have hF := hF.put ehh5 (by omega)
  refine q_aload_n (pc' := 25) (dk_at dkX1_run 13 rfl) rfl rfl ?_
  refine q_iconst (pc' := 26) (dk_at dkX1_run 14 rfl) rfl ?_
  refine r_putf (pc' := 29) fp_RX1_73 (dk_at dkX1_run 15 rfl) hX.obj (Nat.le_of_ble_eq_true rfl) (PT_int _) rfl (fun hh6 ehh6 => ?_)
  have hX := hX.w_obj ehh6
  have hS := hS.off ehh6 (by omega)
  have hQ := hQ.off ehh6 (by omega)
  have hF := hF.put ehh6 (by omega)
  refine q_aload_n (pc' := 30) (dk_at dkX1_run 16 rfl) rfl rfl ?_
  refine q_iconst (pc' := 31) (dk_at dkX1_run 17 rfl) rfl ?_
  refine q_aload_n (pc' := 32) (dk_at dkX1_run 18 rfl) rfl rfl ?_
  refine r_getf (pc' := 35) fl_RX1_12 (dk_at dkX1_run 19 rfl) hX.obj rfl rfl ?_
  refine r_getf (pc' := 38) fl_RX1_76 (dk_at dkX1_run 20 rfl) hS.obj rfl rfl ?_
  refine q_ishl (pc' := 39) (dk_at dkX1_run 21 rfl) (by omega) (by omega) rfl ?_
  have bb7 := nt_pow_r (j := S.cnt) (by omega)
  rw [show ((1 : Int) * 2 ^ ((S.cnt : Int)).toNat) = ((2 ^ S.cnt : Nat) : Int) from nt_shl1 S.cnt]
  refine q_iconst (pc' := 40) (dk_at dkX1_run 22 rfl) rfl ?_
  refine q_isub (pc' := 41) (dk_at dkX1_run 23 rfl) rfl ?_
  rw [show (((2 ^ S.cnt : Nat) : Int) - 1) = ((alS S : Nat) : Int) by unfold alS; omega]
  refine r_putf (pc' := 44) fp_RX1_79 (dk_at dkX1_run 24 rfl) hX.obj (Nat.le_of_ble_eq_true rfl) (PT_int _) rfl (fun hh8 ehh8 => ?_)
  have hX := hX.w_obj ehh8
  have hS := hS.off ehh8 (by omega)
  have hQ := hQ.off ehh8 (by omega)
  have hF := hF.put ehh8 (by omega)
  refine q_aload_n (pc' := 45) (dk_at dkX1_run 25 rfl) rfl rfl ?_
  refine r_cVV (pc' := 48) (As := []) (S := []) cv_RX1_82 (dk_at dkX1_run 26 rfl) hX.obj rfl (k_Search_fillGaps (d := 1) (by omega) hk hS hX) (by omega) (Nat.zero_le _) (Nat.zero_le _) rfl (Nat.le_of_ble_eq_true rfl) rfl (Nat.le_of_ble_eq_true rfl) rfl (fun hh10 hphh10 => ?_)
  obtain ⟨G2, lg2, hX, hS, hG2, hGf⟩ := hphh10
  have hQ := isShop.frm hQ hGf (by omega)
  have hF := hF.tr hGf (by omega)
  refine q_aload_n (pc' := 49) (dk_at dkX1_run 27 rfl) rfl rfl ?_
  refine r_cVV (pc' := 52) (As := []) (S := []) cv_RX1_85 (dk_at dkX1_run 28 rfl) hX.obj rfl (k_Search_fillSets (d := 2) (by omega) hk hS hX) (by omega) (Nat.zero_le _) (Nat.zero_le _) rfl (Nat.le_of_ble_eq_true rfl) rfl (Nat.le_of_ble_eq_true rfl) rfl (fun hh12 hphh12 => ?_)
  obtain ⟨k, st2, fa2, re2, wo2, hX, hS, hsets, hGf⟩ := hphh12
  have hQ := isShop.frm hQ hGf (by omega)
  have hF := hF.tr hGf (by omega)
  refine q_aload_n (pc' := 53) (dk_at dkX1_run 29 rfl) rfl rfl ?_
  refine r_getf (pc' := 56) fl_RX1_12 (dk_at dkX1_run 30 rfl) hX.obj rfl rfl ?_
  refine q_aload_n (pc' := 57) (dk_at dkX1_run 31 rfl) rfl rfl ?_
  refine r_getf (pc' := 60) fl_RX1_12 (dk_at dkX1_run 32 rfl) hX.obj rfl rfl ?_
  refine r_getf (pc' := 63) fl_RX1_88 (dk_at dkX1_run 33 rfl) hS.obj rfl rfl ?_
  refine q_iconst (pc' := 64) (dk_at dkX1_run 34 rfl) rfl ?_
  refine q_icmp_ge (tgt := 71) (pc' := 67) (dk_at dkX1_run 35 rfl) rfl rfl (by omega) (by omega) (fun c64 => ?_) (fun c64 => ?_)
  · refine q_iconst (pc' := 72) (dk_at dkX1_run 38 rfl) rfl ?_
    refine q_aload_n (pc' := 73) (dk_at dkX1_run 39 rfl) rfl rfl ?_
    refine r_getf (pc' := 76) fl_RX1_39 (dk_at dkX1_run 40 rfl) hX.obj rfl rfl ?_
    refine r_cVV (pc' := 79) (As := [vI 1, vR (b + 25)]) (S := []) cv_RX1_91 (dk_at dkX1_run 41 rfl) hS.obj rfl (k_Shop_orderByRule (d := 4) (rule := 1) (r := b + 25) (by omega) hk hS (by omega) (by omega) hrk hX.ranked) (by omega) (Nat.zero_le _) (Nat.zero_le _) rfl (Nat.le_of_ble_eq_true rfl) rfl (Nat.le_of_ble_eq_true rfl) rfl (fun hh14 hphh14 => ?_)
    obtain ⟨hA, hGf⟩ := hphh14
    have hX := hX.row_rk hA hGf
    have hS := isShop.frm hS hGf (by omega)
    have hQ := isShop.frm hQ hGf (by omega)
    have hF := hF.tr hGf (by omega)
    have hRk := rkd_ok hk rk
    rw [if_neg (by omega)] at hRk
    have hrk2 := ordR_r (S := S) (rule := 1) hrk S.cnt hk.c
    refine q_aload_n (pc' := 80) (dk_at dkX1_run 42 rfl) rfl rfl ?_
    refine r_getf (pc' := 83) fl_RX1_48 (dk_at dkX1_run 43 rfl) hX.obj rfl rfl ?_
    refine q_iconst (pc' := 84) (dk_at dkX1_run 44 rfl) rfl ?_
    refine r_cSV (pc' := 87) (As := [vR (b + 28), vI 0]) (S := []) cs_RX1_95 (dk_at dkX1_run 45 rfl) (k_fill (d := 0) (x := 0) (by omega) hX.seenCount) (by omega) (Nat.zero_le _) (Nat.zero_le _) rfl (Nat.le_of_ble_eq_true rfl) rfl (Nat.le_of_ble_eq_true rfl) rfl (fun hh16 hphh16 => ?_)
    obtain ⟨hA, hGf⟩ := hphh16
    have hX := hX.row_sC hA hGf
    have hS := isShop.frm hS hGf (by omega)
    have hQ := isShop.frm hQ hGf (by omega)
    have hF := hF.tr hGf (by omega)
    refine q_aload_n (pc' := 88) (dk_at dkX1_run 46 rfl) rfl rfl ?_
    refine r_getf (pc' := 91) fl_RX1_12 (dk_at dkX1_run 47 rfl) hX.obj rfl rfl ?_
    refine r_getf (pc' := 94) fl_RX1_76 (dk_at dkX1_run 48 rfl) hS.obj rfl rfl ?_
    refine q_if_le (tgt := 112) (pc' := 97) (dk_at dkX1_run 49 rfl) rfl rfl (by omega) (fun c94 => ?_) (fun c94 => ?_)
    · refine q_aload_n (pc' := 113) (dk_at dkX1_run 59 rfl) rfl rfl ?_
      refine r_getf (pc' := 116) fl_RX1_66 (dk_at dkX1_run 60 rfl) hX.obj rfl rfl ?_
      refine r_lret rfl (dk_at dkX1_run 61 rfl) ?_
      exact ⟨by rw [if_pos (by omega)], 0, fo0, ⟨_, _, _, _, _, _, _, _, _, _, _, _, _, _, _, _, hX, hS, hrk2, hsT, hsX⟩, ⟨fun _ => rfl, fun z => by omega⟩, hF⟩
    · refine q_aload_n (pc' := 98) (dk_at dkX1_run 50 rfl) rfl rfl ?_
      refine q_iconst (pc' := 99) (dk_at dkX1_run 51 rfl) rfl ?_
      refine q_iconst (pc' := 100) (dk_at dkX1_run 52 rfl) rfl ?_
      refine q_iconst (pc' := 101) (dk_at dkX1_run 53 rfl) rfl ?_
      refine q_iconst (pc' := 102) (dk_at dkX1_run 54 rfl) rfl ?_
      refine q_aload_n (pc' := 103) (dk_at dkX1_run 55 rfl) rfl rfl ?_
      refine r_getf (pc' := 106) fl_RX1_12 (dk_at dkX1_run 56 rfl) hX.obj rfl rfl ?_
      refine r_cVJ (pc' := 109) (As := []) (S := [vI 0, vI (-1), vI 0, vI 0, vR b]) cv_RX1_101 (dk_at dkX1_run 57 rfl) hS.obj rfl (k_Shop_startingSum (d := 0) hS hk.o) (by omega) (Nat.zero_le _) (Nat.zero_le _) rfl (Nat.le_of_ble_eq_true rfl) rfl (Nat.le_of_ble_eq_true rfl) rfl (fun xx17 hh18 hphh18 => ?_)
      obtain ⟨qq19, rfl⟩ := hphh18
      rw [qq19]
      refine r_cSV (pc' := 112) (As := [vR b, vI 0, vI 0, vI (-1), vI 0, vJ (neu S)]) (S := []) cs_RX1_105 (dk_at dkX1_run 58 rfl) (k_Search_extend hk hG2 hRk hrk2 hsets hfi hflr 8 0 0 (-1) 0 (neu S) ce 0 ch fo0 (fun _ => 0) sT sX _ 11 (by omega) (by omega) (Pre_start hk (by omega) hce (hfl (by omega)) hsT hsX) hX hS) (by omega) (Nat.zero_le _) (Nat.zero_le _) rfl (Nat.le_of_ble_eq_true rfl) rfl (Nat.le_of_ble_eq_true rfl) rfl (fun hh21 hphh21 => ?_)
      obtain ⟨bs3, fc3, ch3, fo3, sC3, sT3, sX3, hX, hS, hXR, hGf⟩ := hphh21
      have hQ := isShop.frm hQ hGf (by omega)
      have hF := hF.tr hGf (by omega)
      refine q_aload_n (pc' := 113) (dk_at dkX1_run 59 rfl) rfl rfl ?_
      refine r_getf (pc' := 116) fl_RX1_66 (dk_at dkX1_run 60 rfl) hX.obj rfl rfl ?_
      refine r_lret rfl (dk_at dkX1_run 61 rfl) ?_
      have hxr : bs3 = min ce (fnS S fi1) := hXR.1
      refine ⟨by rw [if_neg (by omega)]; exact hxr, fc3, fo3, ⟨_, _, _, _, _, _, _, _, _, _, _, _, _, _, _, _, hX, hS, hrk2, hXR.2.2.2.1.2.1, hXR.2.2.2.1.2.2⟩, ⟨fun z => by omega, fun _ z1 z2 => ?_⟩, hF⟩
      obtain ⟨ts, t1, t2, t3, t4⟩ := hXR.2.2.1 z1 z2
      exact ⟨ts, t1, by rw [t2, Nat.zero_add], fun i hi => by have := t4 i hi; rw [Nat.zero_add] at this; exact this⟩
  · refine q_iconst (pc' := 68) (dk_at dkX1_run 36 rfl) rfl ?_
    refine q_goto (tgt := 72) (dk_at dkX1_run 37 rfl) rfl ?_
    refine q_aload_n (pc' := 73) (dk_at dkX1_run 39 rfl) rfl rfl ?_
    refine r_getf (pc' := 76) fl_RX1_39 (dk_at dkX1_run 40 rfl) hX.obj rfl rfl ?_
    refine r_cVV (pc' := 79) (As := [vI 2, vR (b + 25)]) (S := []) cv_RX1_91 (dk_at dkX1_run 41 rfl) hS.obj rfl (k_Shop_orderByRule (d := 4) (rule := 2) (r := b + 25) (by omega) hk hS (by omega) (by omega) hrk hX.ranked) (by omega) (Nat.zero_le _) (Nat.zero_le _) rfl (Nat.le_of_ble_eq_true rfl) rfl (Nat.le_of_ble_eq_true rfl) rfl (fun hh23 hphh23 => ?_)
    obtain ⟨hA, hGf⟩ := hphh23
    have hX := hX.row_rk hA hGf
    have hS := isShop.frm hS hGf (by omega)
    have hQ := isShop.frm hQ hGf (by omega)
    have hF := hF.tr hGf (by omega)
    have hRk := rkd_ok hk rk
    rw [if_pos (by omega)] at hRk
    have hrk2 := ordR_r (S := S) (rule := 2) hrk S.cnt hk.c
    refine q_aload_n (pc' := 80) (dk_at dkX1_run 42 rfl) rfl rfl ?_
    refine r_getf (pc' := 83) fl_RX1_48 (dk_at dkX1_run 43 rfl) hX.obj rfl rfl ?_
    refine q_iconst (pc' := 84) (dk_at dkX1_run 44 rfl) rfl ?_
    refine r_cSV (pc' := 87) (As := [vR (b + 28), vI 0]) (S := []) cs_RX1_95 (dk_at dkX1_run 45 rfl) (k_fill (d := 0) (x := 0) (by omega) hX.seenCount) (by omega) (Nat.zero_le _) (Nat.zero_le _) rfl (Nat.le_of_ble_eq_true rfl) rfl (Nat.le_of_ble_eq_true rfl) rfl (fun hh25 hphh25 => ?_)
    obtain ⟨hA, hGf⟩ := hphh25
    have hX := hX.row_sC hA hGf
    have hS := isShop.frm hS hGf (by omega)
    have hQ := isShop.frm hQ hGf (by omega)
    have hF := hF.tr hGf (by omega)
    refine q_aload_n (pc' := 88) (dk_at dkX1_run 46 rfl) rfl rfl ?_
    refine r_getf (pc' := 91) fl_RX1_12 (dk_at dkX1_run 47 rfl) hX.obj rfl rfl ?_
    refine r_getf (pc' := 94) fl_RX1_76 (dk_at dkX1_run 48 rfl) hS.obj rfl rfl ?_
    refine q_if_le (tgt := 112) (pc' := 97) (dk_at dkX1_run 49 rfl) rfl rfl (by omega) (fun c94 => ?_) (fun c94 => ?_)
    · refine q_aload_n (pc' := 113) (dk_at dkX1_run 59 rfl) rfl rfl ?_
      refine r_getf (pc' := 116) fl_RX1_66 (dk_at dkX1_run 60 rfl) hX.obj rfl rfl ?_
      refine r_lret rfl (dk_at dkX1_run 61 rfl) ?_
      exact ⟨by rw [if_pos (by omega)], 0, fo0, ⟨_, _, _, _, _, _, _, _, _, _, _, _, _, _, _, _, hX, hS, hrk2, hsT, hsX⟩, ⟨fun _ => rfl, fun z => by omega⟩, hF⟩
    · refine q_aload_n (pc' := 98) (dk_at dkX1_run 50 rfl) rfl rfl ?_
      refine q_iconst (pc' := 99) (dk_at dkX1_run 51 rfl) rfl ?_
      refine q_iconst (pc' := 100) (dk_at dkX1_run 52 rfl) rfl ?_
      refine q_iconst (pc' := 101) (dk_at dkX1_run 53 rfl) rfl ?_
      refine q_iconst (pc' := 102) (dk_at dkX1_run 54 rfl) rfl ?_
      refine q_aload_n (pc' := 103) (dk_at dkX1_run 55 rfl) rfl rfl ?_
      refine r_getf (pc' := 106) fl_RX1_12 (dk_at dkX1_run 56 rfl) hX.obj rfl rfl ?_
      refine r_cVJ (pc' := 109) (As := []) (S := [vI 0, vI (-1), vI 0, vI 0, vR b]) cv_RX1_101 (dk_at dkX1_run 57 rfl) hS.obj rfl (k_Shop_startingSum (d := 0) hS hk.o) (by omega) (Nat.zero_le _) (Nat.zero_le _) rfl (Nat.le_of_ble_eq_true rfl) rfl (Nat.le_of_ble_eq_true rfl) rfl (fun xx26 hh27 hphh27 => ?_)
      obtain ⟨qq28, rfl⟩ := hphh27
      rw [qq28]
      refine r_cSV (pc' := 112) (As := [vR b, vI 0, vI 0, vI (-1), vI 0, vJ (neu S)]) (S := []) cs_RX1_105 (dk_at dkX1_run 58 rfl) (k_Search_extend hk hG2 hRk hrk2 hsets hfi hflr 8 0 0 (-1) 0 (neu S) ce 0 ch fo0 (fun _ => 0) sT sX _ 11 (by omega) (by omega) (Pre_start hk (by omega) hce (hfl (by omega)) hsT hsX) hX hS) (by omega) (Nat.zero_le _) (Nat.zero_le _) rfl (Nat.le_of_ble_eq_true rfl) rfl (Nat.le_of_ble_eq_true rfl) rfl (fun hh30 hphh30 => ?_)
      obtain ⟨bs3, fc3, ch3, fo3, sC3, sT3, sX3, hX, hS, hXR, hGf⟩ := hphh30
      have hQ := isShop.frm hQ hGf (by omega)
      have hF := hF.tr hGf (by omega)
      refine q_aload_n (pc' := 113) (dk_at dkX1_run 59 rfl) rfl rfl ?_
      refine r_getf (pc' := 116) fl_RX1_66 (dk_at dkX1_run 60 rfl) hX.obj rfl rfl ?_
      refine r_lret rfl (dk_at dkX1_run 61 rfl) ?_
      have hxr : bs3 = min ce (fnS S fi1) := hXR.1
      refine ⟨by rw [if_neg (by omega)]; exact hxr, fc3, fo3, ⟨_, _, _, _, _, _, _, _, _, _, _, _, _, _, _, _, hX, hS, hrk2, hXR.2.2.2.1.2.1, hXR.2.2.2.1.2.2⟩, ⟨fun z => by omega, fun _ z1 z2 => ?_⟩, hF⟩
      obtain ⟨ts, t1, t2, t3, t4⟩ := hXR.2.2.1 z1 z2
      exact ⟨ts, t1, by rw [t2, Nat.zero_add], fun i hi => by have := t4 i hi; rw [Nat.zero_add] at this; exact this⟩
