/-! Search: the methods that only read -/
set_option maxHeartbeats 4000000 in
set_option maxRecDepth 100000 in
theorem k_Search_canBeFirst {d n : Nat} {h : PH} {b : Nat} {al fi bs fl sc fc : Int} {st fa re wo lg rk ch fo sC sT sX : Nat → Int} {G : Nat → Nat → Int} {s : Nat} (hf : -1 ≤ fi ∧ fi ≤ 7) (hs : s < 256) (hX : isSearch n h b al fi bs fl sc st fa re wo G lg rk ch fo fc sC sT sX) : CtrI mX1_canBeFirst d [vR b, vI (s : Int)] n h (fun x h' => h' = h ∧ x = if fi = -1 ∨ s / 2 ^ fi.toNat % 2 = 1 then 1 else 0) := by
  refine q_beginI (L := [some (vR b), some (vI (s : Int))]) rfl ?_
  refine q_aload_n (pc' := 1) (dk_at dkX1_canBeFirst 0 rfl) rfl rfl ?_
  refine r_getf (pc' := 4) fl_RX1_62 (dk_at dkX1_canBeFirst 1 rfl) hX.obj rfl rfl ?_
  refine q_iconst (pc' := 5) (dk_at dkX1_canBeFirst 2 rfl) rfl ?_
  refine q_icmp_eq (tgt := 19) (pc' := 8) (dk_at dkX1_canBeFirst 3 rfl) rfl rfl (by omega) (by omega) (fun c5 => ?_) (fun c5 => ?_)
  · refine q_iconst (pc' := 20) (dk_at dkX1_canBeFirst 11 rfl) rfl ?_
    refine q_goto (tgt := 24) (dk_at dkX1_canBeFirst 12 rfl) rfl ?_
    refine r_zret rfl (by omega) (dk_at dkX1_canBeFirst 14 rfl) ?_
    refine ⟨rfl, ?_⟩
    first | rw [if_pos (by omega)] | rw [if_neg (by omega)]
  · refine q_iload_n (pc' := 9) (dk_at dkX1_canBeFirst 4 rfl) rfl rfl ?_
    refine q_aload_n (pc' := 10) (dk_at dkX1_canBeFirst 5 rfl) rfl rfl ?_
    refine r_getf (pc' := 13) fl_RX1_62 (dk_at dkX1_canBeFirst 6 rfl) hX.obj rfl rfl ?_
    refine q_ishr (pc' := 14) (dk_at dkX1_canBeFirst 7 rfl) (by omega) (by omega) rfl ?_
    have bb1 := nt_shr_r s fi.toNat
    rw [show ((s : Int) / 2 ^ (fi).toNat) = ((s / 2 ^ fi.toNat : Nat) : Int) from nt_shr s fi.toNat]
    refine q_iconst (pc' := 15) (dk_at dkX1_canBeFirst 8 rfl) rfl ?_
    refine q_iand (pc' := 16) (dk_at dkX1_canBeFirst 9 rfl) (by omega) (by omega) rfl ?_
    rw [show (((((s / 2 ^ fi.toNat : Nat) : Int)).toNat &&& (1 : Int).toNat : Nat) : Int) = (((s / 2 ^ fi.toNat) % 2 : Nat) : Int) from nt_bit (s / 2 ^ fi.toNat)]
    refine q_if_eq (tgt := 23) (pc' := 19) (dk_at dkX1_canBeFirst 10 rfl) rfl rfl (by omega) (fun c16 => ?_) (fun c16 => ?_)
    · refine q_iconst (pc' := 24) (dk_at dkX1_canBeFirst 13 rfl) rfl ?_
      refine r_zret rfl (by omega) (dk_at dkX1_canBeFirst 14 rfl) ?_
      refine ⟨rfl, ?_⟩
      first | rw [if_pos (by omega)] | rw [if_neg (by omega)]
    · refine q_iconst (pc' := 20) (dk_at dkX1_canBeFirst 11 rfl) rfl ?_
      refine q_goto (tgt := 24) (dk_at dkX1_canBeFirst 12 rfl) rfl ?_
      refine r_zret rfl (by omega) (dk_at dkX1_canBeFirst 14 rfl) ?_
      refine ⟨rfl, ?_⟩
      first | rw [if_pos (by omega)] | rw [if_neg (by omega)]

set_option maxHeartbeats 4000000 in
set_option maxRecDepth 100000 in
theorem k_Search_endOf {d n : Nat} {h : PH} {b : Nat} {S : Shp} {al fi bs fl sc fc : Int} {st fa re wo lg rk ch fo sC sT sX : Nat → Int} {G : Nat → Nat → Int} {s : Nat} {last free : Int} (hd : 1 ≤ d) (hk : Sok S) (hG : Gok S G lg) (hs : s < 256) (hl : -1 ≤ last ∧ last ≤ 3) (hfr : 0 ≤ free ∧ free ≤ 50000) (hfa : fa s = sfT S.V s S.cnt) (hre : re s = srT S.V s S.cnt) (hwo : wo s = swT S.V s S.cnt) (hfr2 : 0 ≤ fa s ∧ fa s ≤ 3) (hS : isShp n h (b + 1) S) (hX : isSearch n h b al fi bs fl sc st fa re wo G lg rk ch fo fc sC sT sX) : CtrI mX1_endOf d [vR b, vI (s : Int), vI last, vI free] n h (fun x h' => h' = h ∧ x = endS S s last free) := by
  have hV := hk.v
  have hT := hk.t
  have hw := hk.w
  have he := hk.e
  have hc8 := hk.c
  have hrr := srT_r hV s S.cnt
  have hwr := swT_r hV s S.cnt
  rw [← hre] at hrr
  rw [← hwo] at hwr
  refine q_beginI (L := [some (vR b), some (vI (s : Int)), some (vI last), some (vI free), none, none]) rfl ?_
  refine q_aload_n (pc' := 1) (dk_at dkX1_endOf 0 rfl) rfl rfl ?_
  refine r_getf (pc' := 4) fl_RX1_25 (dk_at dkX1_endOf 1 rfl) hX.obj rfl rfl ?_
  refine q_iload_n (pc' := 5) (dk_at dkX1_endOf 2 rfl) rfl rfl ?_
  refine r_iald (pc' := 6) (dk_at dkX1_endOf 3 rfl) hX.readyOf s (by omega) (by omega) (by decide) rfl ?_
  refine q_istore (pc' := 8) (L' := [some (vR b), some (vI (s : Int)), some (vI last), some (vI free), some (vI (re s)), none]) (dk_at dkX1_endOf 4 rfl) (by decide) rfl rfl ?_
  refine q_aload_n (pc' := 9) (dk_at dkX1_endOf 5 rfl) rfl rfl ?_
  refine r_getf (pc' := 12) fl_RX1_12 (dk_at dkX1_endOf 6 rfl) hX.obj rfl rfl ?_
  refine r_getf (pc' := 15) fl_RX1_180 (dk_at dkX1_endOf 7 rfl) hS.obj rfl rfl ?_
  refine q_if_eq (tgt := 22) (pc' := 18) (dk_at dkX1_endOf 8 rfl) rfl rfl (by omega) (fun c15 => ?_) (fun c15 => ?_)
  · refine q_iload_n (pc' := 23) (dk_at dkX1_endOf 11 rfl) rfl rfl ?_
    refine q_iload (pc' := 25) (dk_at dkX1_endOf 12 rfl) rfl rfl ?_
    refine q_max (pc' := 28) jk_RX1_150 (dk_at dkX1_endOf 13 rfl) (by omega) (by omega) (by omega) (Nat.zero_le _) (Nat.zero_le _) (Nat.le_of_ble_eq_true rfl) rfl ?_
    refine q_istore (pc' := 30) (L' := [some (vR b), some (vI (s : Int)), some (vI last), some (vI free), some (vI (re s)), some (vI (max free (re s)))]) (dk_at dkX1_endOf 14 rfl) (by decide) rfl rfl ?_
    refine q_iload (pc' := 32) (dk_at dkX1_endOf 15 rfl) rfl rfl ?_
    refine q_aload_n (pc' := 33) (dk_at dkX1_endOf 16 rfl) rfl rfl ?_
    refine r_getf (pc' := 36) fl_RX1_33 (dk_at dkX1_endOf 17 rfl) hX.obj rfl rfl ?_
    refine q_iload_n (pc' := 37) (dk_at dkX1_endOf 18 rfl) rfl rfl ?_
    refine q_iconst (pc' := 38) (dk_at dkX1_endOf 19 rfl) rfl ?_
    refine q_iadd (pc' := 39) (dk_at dkX1_endOf 20 rfl) rfl ?_
    refine r_aald1 (pc' := 40) (dk_at dkX1_endOf 21 rfl) hX.gaps (((last + 1)).toNat) (by omega) (by omega) (by decide) rfl ?_
    refine q_aload_n (pc' := 41) (dk_at dkX1_endOf 22 rfl) rfl rfl ?_
    refine r_getf (pc' := 44) fl_RX1_22 (dk_at dkX1_endOf 23 rfl) hX.obj rfl rfl ?_
    refine q_iload_n (pc' := 45) (dk_at dkX1_endOf 24 rfl) rfl rfl ?_
    refine r_iald (pc' := 46) (dk_at dkX1_endOf 25 rfl) hX.familyOf s (by omega) (by omega) (by decide) rfl ?_
    have hgr := gapS_r hT (last + 1).toNat (fa s).toNat
    rw [← hG.1 (last + 1).toNat (fa s).toNat (by omega) (by omega)] at hgr
    refine r_iald (pc' := 47) (dk_at dkX1_endOf 26 rfl) (hX.gaps_at (((last + 1)).toNat) (by omega)) (((fa s)).toNat) (by omega) (by omega) (by decide) rfl ?_
    refine q_iadd (pc' := 48) (dk_at dkX1_endOf 27 rfl) rfl ?_
    refine q_iload (pc' := 50) (dk_at dkX1_endOf 28 rfl) rfl rfl ?_
    refine q_max (pc' := 53) jk_RX1_150 (dk_at dkX1_endOf 29 rfl) (by omega) (by omega) (by omega) (Nat.zero_le _) (Nat.zero_le _) (Nat.le_of_ble_eq_true rfl) rfl ?_
    refine q_aload_n (pc' := 54) (dk_at dkX1_endOf 30 rfl) rfl rfl ?_
    refine r_getf (pc' := 57) fl_RX1_28 (dk_at dkX1_endOf 31 rfl) hX.obj rfl rfl ?_
    refine q_iload_n (pc' := 58) (dk_at dkX1_endOf 32 rfl) rfl rfl ?_
    refine r_iald (pc' := 59) (dk_at dkX1_endOf 33 rfl) hX.workOf s (by omega) (by omega) (by decide) rfl ?_
    refine q_iadd (pc' := 60) (dk_at dkX1_endOf 34 rfl) rfl ?_
    refine r_iret rfl (dk_at dkX1_endOf 35 rfl) ?_
    refine ⟨rfl, ?_⟩
    unfold endS
    rw [hfa, hre, hwo]
    first | rw [if_pos (by omega)] | rw [if_neg (by omega)]
    rw [hG.1 _ _ (by omega) (by omega)]
  · refine q_iload_n (pc' := 19) (dk_at dkX1_endOf 9 rfl) rfl rfl ?_
    refine q_goto (tgt := 28) (dk_at dkX1_endOf 10 rfl) rfl ?_
    refine q_istore (pc' := 30) (L' := [some (vR b), some (vI (s : Int)), some (vI last), some (vI free), some (vI (re s)), some (vI free)]) (dk_at dkX1_endOf 14 rfl) (by decide) rfl rfl ?_
    refine q_iload (pc' := 32) (dk_at dkX1_endOf 15 rfl) rfl rfl ?_
    refine q_aload_n (pc' := 33) (dk_at dkX1_endOf 16 rfl) rfl rfl ?_
    refine r_getf (pc' := 36) fl_RX1_33 (dk_at dkX1_endOf 17 rfl) hX.obj rfl rfl ?_
    refine q_iload_n (pc' := 37) (dk_at dkX1_endOf 18 rfl) rfl rfl ?_
    refine q_iconst (pc' := 38) (dk_at dkX1_endOf 19 rfl) rfl ?_
    refine q_iadd (pc' := 39) (dk_at dkX1_endOf 20 rfl) rfl ?_
    refine r_aald1 (pc' := 40) (dk_at dkX1_endOf 21 rfl) hX.gaps (((last + 1)).toNat) (by omega) (by omega) (by decide) rfl ?_
    refine q_aload_n (pc' := 41) (dk_at dkX1_endOf 22 rfl) rfl rfl ?_
    refine r_getf (pc' := 44) fl_RX1_22 (dk_at dkX1_endOf 23 rfl) hX.obj rfl rfl ?_
    refine q_iload_n (pc' := 45) (dk_at dkX1_endOf 24 rfl) rfl rfl ?_
    refine r_iald (pc' := 46) (dk_at dkX1_endOf 25 rfl) hX.familyOf s (by omega) (by omega) (by decide) rfl ?_
    have hgr := gapS_r hT (last + 1).toNat (fa s).toNat
    rw [← hG.1 (last + 1).toNat (fa s).toNat (by omega) (by omega)] at hgr
    refine r_iald (pc' := 47) (dk_at dkX1_endOf 26 rfl) (hX.gaps_at (((last + 1)).toNat) (by omega)) (((fa s)).toNat) (by omega) (by omega) (by decide) rfl ?_
    refine q_iadd (pc' := 48) (dk_at dkX1_endOf 27 rfl) rfl ?_
    refine q_iload (pc' := 50) (dk_at dkX1_endOf 28 rfl) rfl rfl ?_
    refine q_max (pc' := 53) jk_RX1_150 (dk_at dkX1_endOf 29 rfl) (by omega) (by omega) (by omega) (Nat.zero_le _) (Nat.zero_le _) (Nat.le_of_ble_eq_true rfl) rfl ?_
    refine q_aload_n (pc' := 54) (dk_at dkX1_endOf 30 rfl) rfl rfl ?_
    refine r_getf (pc' := 57) fl_RX1_28 (dk_at dkX1_endOf 31 rfl) hX.obj rfl rfl ?_
    refine q_iload_n (pc' := 58) (dk_at dkX1_endOf 32 rfl) rfl rfl ?_
    refine r_iald (pc' := 59) (dk_at dkX1_endOf 33 rfl) hX.workOf s (by omega) (by omega) (by decide) rfl ?_
    refine q_iadd (pc' := 60) (dk_at dkX1_endOf 34 rfl) rfl ?_
    refine r_iret rfl (dk_at dkX1_endOf 35 rfl) ?_
    refine ⟨rfl, ?_⟩
    unfold endS
    rw [hfa, hre, hwo]
    first | rw [if_pos (by omega)] | rw [if_neg (by omega)]
    rw [hG.1 _ _ (by omega) (by omega)]

set_option maxHeartbeats 4000000 in
set_option maxRecDepth 100000 in
theorem l_sumWith {d n : Nat} {h : PH} {b : Nat} {S : Shp} {al fi bs fl sc fc : Int} {st fa re wo lg rk ch fo sC sT sX : Nat → Int} {G : Nat → Nat → Int} {s : Nat} {en sum : Int} (hd : 2 ≤ d) (hk : Sok S) (hV : Vok S.V) (hc8 : S.cnt ≤ 8) (hs : s < 256) (hen : 0 ≤ en ∧ en ≤ 100000) (hsum : -2000000000000 ≤ sum ∧ sum ≤ 2000000000000) (hS : isShp n h (b + 1) S) (hX : isSearch n h b al fi bs fl sc st fa re wo G lg rk ch fo fc sC sT sX) : ∀ (c : Nat) (j : Nat) (z : Int), (j + c = S.cnt) → (z = smT S s en sum j) → QN mX1_sumWith d (FJ n (fun x h' => h' = h ∧ x = smT S s en sum S.cnt)) 6 [some (vR b), some (vI (s : Int)), some (vI en), some (vJ sum), none, some (vJ z), none, some (vI (j : Int))] [] n h := by
  intro c
  induction c with
  | zero =>
    intro j z hc hz
    have hzr := smT_r (S := S) hV (s := s) hen hsum (by omega) j
    rw [← hz] at hzr
    refine q_iload (pc' := 8) (dk_at dkX1_sumWith 4 rfl) rfl rfl ?_
    refine q_aload_n (pc' := 9) (dk_at dkX1_sumWith 5 rfl) rfl rfl ?_
    refine r_getf (pc' := 12) fl_RX1_12 (dk_at dkX1_sumWith 6 rfl) hX.obj rfl rfl ?_
    refine r_getf (pc' := 15) fl_RX1_76 (dk_at dkX1_sumWith 7 rfl) hS.obj rfl rfl ?_
    refine q_icmp_ge (tgt := 54) (pc' := 18) (dk_at dkX1_sumWith 8 rfl) rfl rfl (by omega) (by omega) (fun c15 => ?_) (fun c15 => ?_)
    · refine q_lload (pc' := 56) (dk_at dkX1_sumWith 27 rfl) rfl rfl ?_
      refine r_lret rfl (dk_at dkX1_sumWith 28 rfl) ?_
      exact ⟨rfl, by rw [hz, show j = S.cnt by omega]⟩
    · exfalso
      omega
  | succ c ih =>
    intro j z hc hz
    have hzr := smT_r (S := S) hV (s := s) hen hsum (by omega) j
    rw [← hz] at hzr
    refine q_iload (pc' := 8) (dk_at dkX1_sumWith 4 rfl) rfl rfl ?_
    refine q_aload_n (pc' := 9) (dk_at dkX1_sumWith 5 rfl) rfl rfl ?_
    refine r_getf (pc' := 12) fl_RX1_12 (dk_at dkX1_sumWith 6 rfl) hX.obj rfl rfl ?_
    refine r_getf (pc' := 15) fl_RX1_76 (dk_at dkX1_sumWith 7 rfl) hS.obj rfl rfl ?_
    refine q_icmp_ge (tgt := 54) (pc' := 18) (dk_at dkX1_sumWith 8 rfl) rfl rfl (by omega) (by omega) (fun c15 => ?_) (fun c15 => ?_)
    · refine q_lload (pc' := 56) (dk_at dkX1_sumWith 27 rfl) rfl rfl ?_
      refine r_lret rfl (dk_at dkX1_sumWith 28 rfl) ?_
      exact ⟨rfl, by rw [hz, show j = S.cnt by omega]⟩
    · refine q_iload_n (pc' := 19) (dk_at dkX1_sumWith 9 rfl) rfl rfl ?_
      refine q_iload (pc' := 21) (dk_at dkX1_sumWith 10 rfl) rfl rfl ?_
      refine q_ishr (pc' := 22) (dk_at dkX1_sumWith 11 rfl) (by omega) (by omega) rfl ?_
      have bb1 := nt_shr_r s j
      rw [show ((s : Int) / 2 ^ ((j : Int)).toNat) = ((s / 2 ^ j : Nat) : Int) from nt_shr s j]
      refine q_iconst (pc' := 23) (dk_at dkX1_sumWith 12 rfl) rfl ?_
      refine q_iand (pc' := 24) (dk_at dkX1_sumWith 13 rfl) (by omega) (by omega) rfl ?_
      rw [show (((((s / 2 ^ j : Nat) : Int)).toNat &&& (1 : Int).toNat : Nat) : Int) = (((s / 2 ^ j) % 2 : Nat) : Int) from nt_bit (s / 2 ^ j)]
      refine q_if_eq (tgt := 48) (pc' := 27) (dk_at dkX1_sumWith 14 rfl) rfl rfl (by omega) (fun c24 => ?_) (fun c24 => ?_)
      · refine q_iinc (pc' := 51) (L' := [some (vR b), some (vI (s : Int)), some (vI en), some (vJ sum), none, some (vJ z), none, some (vI ((j : Int) + 1))]) (dk_at dkX1_sumWith 25 rfl) (by decide) rfl rfl rfl ?_
        rw [show ((j : Int) + 1) = ((j + 1 : Nat) : Int) by omega]
        refine q_goto (tgt := 6) (dk_at dkX1_sumWith 26 rfl) rfl ?_
        exact ih (j + 1) _ (by omega) (by unfold smT; first | rw [if_pos (by omega), hz] | rw [if_neg (by omega), hz])
      · refine q_aload_n (pc' := 28) (dk_at dkX1_sumWith 15 rfl) rfl rfl ?_
        refine r_getf (pc' := 31) fl_RX1_12 (dk_at dkX1_sumWith 16 rfl) hX.obj rfl rfl ?_
        refine q_lload (pc' := 33) (dk_at dkX1_sumWith 17 rfl) rfl rfl ?_
        refine q_aload_n (pc' := 34) (dk_at dkX1_sumWith 18 rfl) rfl rfl ?_
        refine r_getf (pc' := 37) fl_RX1_12 (dk_at dkX1_sumWith 19 rfl) hX.obj rfl rfl ?_
        refine q_iload (pc' := 39) (dk_at dkX1_sumWith 20 rfl) rfl rfl ?_
        refine q_iload_n (pc' := 40) (dk_at dkX1_sumWith 21 rfl) rfl rfl ?_
        refine r_cVJ (pc' := 43) (As := [vI (j : Int), vI en]) (S := [vJ z, vR (b + 1)]) cv_RX1_183 (dk_at dkX1_sumWith 22 rfl) hS.obj rfl (k_Shop_penaltyOf (d := 0) (j := j) hS hV hk.o (by omega) hen) (by omega) (Nat.zero_le _) (Nat.zero_le _) rfl (Nat.le_of_ble_eq_true rfl) rfl (Nat.le_of_ble_eq_true rfl) rfl (fun xx2 hh3 hphh3 => ?_)
        obtain ⟨qq4, rfl⟩ := hphh3
        rw [qq4]
        have hpn := pen_r hV j hen
        refine r_cVJ (pc' := 46) (As := [vJ z, vJ (pen S j en)]) (S := []) cv_RX1_187 (dk_at dkX1_sumWith 23 rfl) hS.obj rfl (k_Shop_joined (d := 1) (by omega) hS hk.o (by omega) (by omega)) (by omega) (Nat.zero_le _) (Nat.zero_le _) rfl (Nat.le_of_ble_eq_true rfl) rfl (Nat.le_of_ble_eq_true rfl) rfl (fun xx5 hh6 hphh6 => ?_)
        obtain ⟨qq7, rfl⟩ := hphh6
        rw [qq7]
        refine q_lstore (pc' := 48) (L' := [some (vR b), some (vI (s : Int)), some (vI en), some (vJ sum), none, some (vJ (jn S z (pen S j en))), none, some (vI (j : Int))]) (dk_at dkX1_sumWith 24 rfl) (by decide) rfl rfl ?_
        refine q_iinc (pc' := 51) (L' := [some (vR b), some (vI (s : Int)), some (vI en), some (vJ sum), none, some (vJ (jn S z (pen S j en))), none, some (vI ((j : Int) + 1))]) (dk_at dkX1_sumWith 25 rfl) (by decide) rfl rfl rfl ?_
        rw [show ((j : Int) + 1) = ((j + 1 : Nat) : Int) by omega]
        refine q_goto (tgt := 6) (dk_at dkX1_sumWith 26 rfl) rfl ?_
        exact ih (j + 1) _ (by omega) (by unfold smT; first | rw [if_pos (by omega), hz] | rw [if_neg (by omega), hz])

set_option maxHeartbeats 4000000 in
set_option maxRecDepth 100000 in
theorem k_Search_sumWith {d n : Nat} {h : PH} {b : Nat} {S : Shp} {al fi bs fl sc fc : Int} {st fa re wo lg rk ch fo sC sT sX : Nat → Int} {G : Nat → Nat → Int} {s : Nat} {en sum : Int} (hd : 2 ≤ d) (hk : Sok S) (hs : s < 256) (hen : 0 ≤ en ∧ en ≤ 100000) (hsum : -2000000000000 ≤ sum ∧ sum ≤ 2000000000000) (hS : isShp n h (b + 1) S) (hX : isSearch n h b al fi bs fl sc st fa re wo G lg rk ch fo fc sC sT sX) : CtrJ mX1_sumWith d [vR b, vI (s : Int), vI en, vJ sum] n h (fun x h' => h' = h ∧ x = smT S s en sum S.cnt) := by
  refine q_beginJ (L := [some (vR b), some (vI (s : Int)), some (vI en), some (vJ sum), none, none, none, none]) rfl ?_
  refine q_lload_n (pc' := 1) (dk_at dkX1_sumWith 0 rfl) rfl rfl ?_
  refine q_lstore (pc' := 3) (L' := [some (vR b), some (vI (s : Int)), some (vI en), some (vJ sum), none, some (vJ sum), none, none]) (dk_at dkX1_sumWith 1 rfl) (by decide) rfl rfl ?_
  refine q_iconst (pc' := 4) (dk_at dkX1_sumWith 2 rfl) rfl ?_
  refine q_istore (pc' := 6) (L' := [some (vR b), some (vI (s : Int)), some (vI en), some (vJ sum), none, some (vJ sum), none, some (vI 0)]) (dk_at dkX1_sumWith 3 rfl) (by decide) rfl rfl ?_
  exact l_sumWith hd hk hk.v hk.c hs hen hsum hS hX S.cnt 0 _ (by omega) rfl

def ngTo (S : Shp) (dn : Nat) (last : Int) : Nat → Int
  | 0 => 60
  | j + 1 => if dn / 2 ^ j % 2 = 1 then ngTo S dn last j else min (ngTo S dn last j) (gapS S (last + 1).toNat (S.V 0 j).toNat)
theorem ngTo_r {S : Shp} (hT : Tok S.T) (dn : Nat) (last : Int) : ∀ j, 0 ≤ ngTo S dn last j ∧ ngTo S dn last j ≤ 60
  | 0 => by unfold ngTo; omega
  | j + 1 => by
    have h1 := ngTo_r hT dn last j
    have h2 := gapS_r hT (last + 1).toNat (S.V 0 j).toNat
    unfold ngTo
    split <;> omega
set_option maxHeartbeats 4000000 in
set_option maxRecDepth 100000 in
theorem l_nextGap {d n : Nat} {h : PH} {b : Nat} {S : Shp} {al fi bs fl sc fc : Int} {st fa re wo lg rk ch fo sC sT sX : Nat → Int} {G : Nat → Nat → Int} {dn : Nat} {last : Int} (hd : 1 ≤ d) (hk : Sok S) (hV : Vok S.V) (hT : Tok S.T) (hc8 : S.cnt ≤ 8) (hG : Gok S G lg) (hs : dn < 256) (hl : -1 ≤ last ∧ last ≤ 3) (hS : isShp n h (b + 1) S) (hX : isSearch n h b al fi bs fl sc st fa re wo G lg rk ch fo fc sC sT sX) : ∀ (c : Nat) (j : Nat) (z : Int), (j + c = S.cnt) → (z = ngTo S dn last j) → QN mX1_nextGap d (FI n (fun x h' => h' = h ∧ x = ngTo S dn last S.cnt)) 6 [some (vR b), some (vI (dn : Int)), some (vI last), some (vI z), some (vI (j : Int))] [] n h := by
  intro c
  induction c with
  | zero =>
    intro j z hc hz
    have hzr := ngTo_r hT dn last j
    rw [← hz] at hzr
    refine q_iload (pc' := 8) (dk_at dkX1_nextGap 4 rfl) rfl rfl ?_
    refine q_aload_n (pc' := 9) (dk_at dkX1_nextGap 5 rfl) rfl rfl ?_
    refine r_getf (pc' := 12) fl_RX1_12 (dk_at dkX1_nextGap 6 rfl) hX.obj rfl rfl ?_
    refine r_getf (pc' := 15) fl_RX1_76 (dk_at dkX1_nextGap 7 rfl) hS.obj rfl rfl ?_
    refine q_icmp_ge (tgt := 59) (pc' := 18) (dk_at dkX1_nextGap 8 rfl) rfl rfl (by omega) (by omega) (fun c15 => ?_) (fun c15 => ?_)
    · refine q_iload_n (pc' := 60) (dk_at dkX1_nextGap 34 rfl) rfl rfl ?_
      refine r_iret rfl (dk_at dkX1_nextGap 35 rfl) ?_
      exact ⟨rfl, by rw [hz, show j = S.cnt by omega]⟩
    · exfalso
      omega
  | succ c ih =>
    intro j z hc hz
    have hzr := ngTo_r hT dn last j
    rw [← hz] at hzr
    refine q_iload (pc' := 8) (dk_at dkX1_nextGap 4 rfl) rfl rfl ?_
    refine q_aload_n (pc' := 9) (dk_at dkX1_nextGap 5 rfl) rfl rfl ?_
    refine r_getf (pc' := 12) fl_RX1_12 (dk_at dkX1_nextGap 6 rfl) hX.obj rfl rfl ?_
    refine r_getf (pc' := 15) fl_RX1_76 (dk_at dkX1_nextGap 7 rfl) hS.obj rfl rfl ?_
    refine q_icmp_ge (tgt := 59) (pc' := 18) (dk_at dkX1_nextGap 8 rfl) rfl rfl (by omega) (by omega) (fun c15 => ?_) (fun c15 => ?_)
    · refine q_iload_n (pc' := 60) (dk_at dkX1_nextGap 34 rfl) rfl rfl ?_
      refine r_iret rfl (dk_at dkX1_nextGap 35 rfl) ?_
      exact ⟨rfl, by rw [hz, show j = S.cnt by omega]⟩
    · refine q_iload_n (pc' := 19) (dk_at dkX1_nextGap 9 rfl) rfl rfl ?_
      refine q_iload (pc' := 21) (dk_at dkX1_nextGap 10 rfl) rfl rfl ?_
      refine q_ishr (pc' := 22) (dk_at dkX1_nextGap 11 rfl) (by omega) (by omega) rfl ?_
      have bb1 := nt_shr_r dn j
      rw [show ((dn : Int) / 2 ^ ((j : Int)).toNat) = ((dn / 2 ^ j : Nat) : Int) from nt_shr dn j]
      refine q_iconst (pc' := 23) (dk_at dkX1_nextGap 12 rfl) rfl ?_
      refine q_iand (pc' := 24) (dk_at dkX1_nextGap 13 rfl) (by omega) (by omega) rfl ?_
      rw [show (((((dn / 2 ^ j : Nat) : Int)).toNat &&& (1 : Int).toNat : Nat) : Int) = (((dn / 2 ^ j) % 2 : Nat) : Int) from nt_bit (dn / 2 ^ j)]
      refine q_if_ne (tgt := 53) (pc' := 27) (dk_at dkX1_nextGap 14 rfl) rfl rfl (by omega) (fun c24 => ?_) (fun c24 => ?_)
      · refine q_iinc (pc' := 56) (L' := [some (vR b), some (vI (dn : Int)), some (vI last), some (vI z), some (vI ((j : Int) + 1))]) (dk_at dkX1_nextGap 32 rfl) (by decide) rfl rfl rfl ?_
        rw [show ((j : Int) + 1) = ((j + 1 : Nat) : Int) by omega]
        refine q_goto (tgt := 6) (dk_at dkX1_nextGap 33 rfl) rfl ?_
        exact ih (j + 1) _ (by omega) (by unfold ngTo; first | rw [if_pos (by omega), hz] | rw [if_neg (by omega), hz, hge])
      · refine q_iload_n (pc' := 28) (dk_at dkX1_nextGap 15 rfl) rfl rfl ?_
        refine q_aload_n (pc' := 29) (dk_at dkX1_nextGap 16 rfl) rfl rfl ?_
        refine r_getf (pc' := 32) fl_RX1_33 (dk_at dkX1_nextGap 17 rfl) hX.obj rfl rfl ?_
        refine q_iload_n (pc' := 33) (dk_at dkX1_nextGap 18 rfl) rfl rfl ?_
        refine q_iconst (pc' := 34) (dk_at dkX1_nextGap 19 rfl) rfl ?_
        refine q_iadd (pc' := 35) (dk_at dkX1_nextGap 20 rfl) rfl ?_
        refine r_aald1 (pc' := 36) (dk_at dkX1_nextGap 21 rfl) hX.gaps (((last + 1)).toNat) (by omega) (by omega) (by decide) rfl ?_
        refine q_aload_n (pc' := 37) (dk_at dkX1_nextGap 22 rfl) rfl rfl ?_
        refine r_getf (pc' := 40) fl_RX1_12 (dk_at dkX1_nextGap 23 rfl) hX.obj rfl rfl ?_
        refine r_getf (pc' := 43) fl_RX1_134 (dk_at dkX1_nextGap 24 rfl) hS.obj rfl rfl ?_
        refine q_iconst (pc' := 44) (dk_at dkX1_nextGap 25 rfl) rfl ?_
        refine r_aald1 (pc' := 45) (dk_at dkX1_nextGap 26 rfl) hS.values 0 (by omega) (by omega) (by decide) rfl ?_
        refine q_iload (pc' := 47) (dk_at dkX1_nextGap 27 rfl) rfl rfl ?_
        refine r_iald (pc' := 48) (dk_at dkX1_nextGap 28 rfl) (hS.values_at 0 (by omega)) j (by omega) (by omega) (by decide) rfl ?_
        have bb2 := hV 0 j
        refine r_iald (pc' := 49) (dk_at dkX1_nextGap 29 rfl) (hX.gaps_at (((last + 1)).toNat) (by omega)) ((((S.V 0) j)).toNat) (by omega) (by omega) (by decide) rfl ?_
        have hgr := gapS_r hT (last + 1).toNat (S.V 0 j).toNat
        have hge := hG.1 (last + 1).toNat (S.V 0 j).toNat (by omega) (by omega)
        refine q_min (pc' := 52) jk_RX1_137 (dk_at dkX1_nextGap 30 rfl) (by omega) (by omega) (by omega) (Nat.zero_le _) (Nat.zero_le _) (Nat.le_of_ble_eq_true rfl) rfl ?_
        refine q_istore_n (pc' := 53) (L' := [some (vR b), some (vI (dn : Int)), some (vI last), some (vI (min z ((G (((last + 1)).toNat)) ((((S.V 0) j)).toNat)))), some (vI (j : Int))]) (dk_at dkX1_nextGap 31 rfl) (by decide) rfl rfl ?_
        refine q_iinc (pc' := 56) (L' := [some (vR b), some (vI (dn : Int)), some (vI last), some (vI (min z ((G (((last + 1)).toNat)) ((((S.V 0) j)).toNat)))), some (vI ((j : Int) + 1))]) (dk_at dkX1_nextGap 32 rfl) (by decide) rfl rfl rfl ?_
        rw [show ((j : Int) + 1) = ((j + 1 : Nat) : Int) by omega]
        refine q_goto (tgt := 6) (dk_at dkX1_nextGap 33 rfl) rfl ?_
        exact ih (j + 1) _ (by omega) (by unfold ngTo; first | rw [if_pos (by omega), hz] | rw [if_neg (by omega), hz, hge])

set_option maxHeartbeats 4000000 in
set_option maxRecDepth 100000 in
theorem k_Search_nextGap {d n : Nat} {h : PH} {b : Nat} {S : Shp} {al fi bs fl sc fc : Int} {st fa re wo lg rk ch fo sC sT sX : Nat → Int} {G : Nat → Nat → Int} {dn : Nat} {last : Int} (hd : 1 ≤ d) (hk : Sok S) (hG : Gok S G lg) (hs : dn < 256) (hl : -1 ≤ last ∧ last ≤ 3) (hS : isShp n h (b + 1) S) (hX : isSearch n h b al fi bs fl sc st fa re wo G lg rk ch fo fc sC sT sX) : CtrI mX1_nextGap d [vR b, vI (dn : Int), vI last] n h (fun x h' => h' = h ∧ x = ngTo S dn last S.cnt) := by
  refine q_beginI (L := [some (vR b), some (vI (dn : Int)), some (vI last), none, none]) rfl ?_
  refine q_bipush (pc' := 2) (dk_at dkX1_nextGap 0 rfl) (by decide +kernel) rfl ?_
  refine q_istore_n (pc' := 3) (L' := [some (vR b), some (vI (dn : Int)), some (vI last), some (vI 60), none]) (dk_at dkX1_nextGap 1 rfl) (by decide) rfl rfl ?_
  refine q_iconst (pc' := 4) (dk_at dkX1_nextGap 2 rfl) rfl ?_
  refine q_istore (pc' := 6) (L' := [some (vR b), some (vI (dn : Int)), some (vI last), some (vI 60), some (vI 0)]) (dk_at dkX1_nextGap 3 rfl) (by decide) rfl rfl ?_
  exact l_nextGap hd hk hk.v hk.t hk.c hG hs hl hS hX S.cnt 0 _ (by omega) rfl

def gpA (S : Shp) (last : Int) (j : Nat) : Int := if S.V 0 j = last then min (lgTo S (S.V 0 j).toNat S.cnt) (gapS S (S.V 0 j + 1).toNat (S.V 0 j).toNat) else lgTo S (S.V 0 j).toNat S.cnt
def cpA (S : Shp) (last free : Int) (j : Nat) : Int := max (free + gpA S last j) (S.V 2 j) + S.V 1 j
def baT (S : Shp) (dn : Nat) (last free sum : Int) : Nat → Int
  | 0 => sum
  | j + 1 => if dn / 2 ^ j % 2 = 1 then baT S dn last free sum j else jn S (baT S dn last free sum j) (pen S j (cpA S last free j))
theorem cpA_r {S : Shp} (hV : Vok S.V) (hT : Tok S.T) (last : Int) {free : Int} (hf : 0 ≤ free ∧ free ≤ 50000) (j : Nat) : 0 ≤ cpA S last free j ∧ cpA S last free j ≤ 100000 := by
  have h1 := lgTo_r hT (S.V 0 j).toNat S.cnt
  have h2 := gapS_r hT (S.V 0 j + 1).toNat (S.V 0 j).toNat
  have h3 := hV 2 j
  have h4 := hV 1 j
  unfold cpA gpA
  split <;> omega
theorem baT_r {S : Shp} (hV : Vok S.V) (hT : Tok S.T) {dn : Nat} {last free sum lo hi : Int} (hf : 0 ≤ free ∧ free ≤ 50000) (hs : lo ≤ sum ∧ sum ≤ hi) (hh : 0 ≤ hi) : ∀ j, lo - 500 * j ≤ baT S dn last free sum j ∧ baT S dn last free sum j ≤ hi + 100000000000 * j
  | 0 => by unfold baT; omega
  | j + 1 => by
    have h1 := baT_r hV hT (dn := dn) (last := last) hf hs hh j
    have h2 := pen_r hV j (cpA_r hV hT last hf j)
    have h3 := jn_r (S := S) h1 h2 (by omega) (by omega) (by omega)
    unfold baT
    split <;> omega
set_option maxHeartbeats 4000000 in
set_option maxRecDepth 100000 in
theorem l_boundApart {d n : Nat} {h : PH} {b : Nat} {S : Shp} {al fi bs fl sc fc : Int} {st fa re wo lg rk ch fo sC sT sX : Nat → Int} {G : Nat → Nat → Int} {dn : Nat} {last free sum : Int} (hd : 2 ≤ d) (hk : Sok S) (hV : Vok S.V) (hT : Tok S.T) (hc8 : S.cnt ≤ 8) (hG : Gok S G lg) (hs : dn < 256) (hl : -1 ≤ last ∧ last ≤ 3) (hfr : 0 ≤ free ∧ free ≤ 50000) (hsum : -2000000000000 ≤ sum ∧ sum ≤ 2000000000000) (hS : isShp n h (b + 1) S) (hX : isSearch n h b al fi bs fl sc st fa re wo G lg rk ch fo fc sC sT sX) : ∀ (c : Nat) (j : Nat) (z : Int) (x9 x10 x11 : Option PV), (j + c = S.cnt) → (z = baT S dn last free sum j) → QN mX1_boundApart d (FJ n (fun x h' => h' = h ∧ x = baT S dn last free sum S.cnt)) 7 [some (vR b), some (vI (dn : Int)), some (vI last), some (vI free), some (vJ sum), none, some (vJ z), none, some (vI (j : Int)), x9, x10, x11] [] n h := by
  intro c
  induction c with
  | zero =>
    intro j z x9 x10 x11 hc hz
    have hzr := baT_r (S := S) hV hT (dn := dn) (last := last) hfr hsum (by omega) j
    rw [← hz] at hzr
    refine q_iload (pc' := 9) (dk_at dkX1_boundApart 4 rfl) rfl rfl ?_
    refine q_aload_n (pc' := 10) (dk_at dkX1_boundApart 5 rfl) rfl rfl ?_
    refine r_getf (pc' := 13) fl_RX1_12 (dk_at dkX1_boundApart 6 rfl) hX.obj rfl rfl ?_
    refine r_getf (pc' := 16) fl_RX1_76 (dk_at dkX1_boundApart 7 rfl) hS.obj rfl rfl ?_
    refine q_icmp_ge (tgt := 138) (pc' := 19) (dk_at dkX1_boundApart 8 rfl) rfl rfl (by omega) (by omega) (fun c16 => ?_) (fun c16 => ?_)
    · refine q_lload (pc' := 140) (dk_at dkX1_boundApart 74 rfl) rfl rfl ?_
      refine r_lret rfl (dk_at dkX1_boundApart 75 rfl) ?_
      exact ⟨rfl, by rw [hz, show j = S.cnt by omega]⟩
    · exfalso
      omega
  | succ c ih =>
    intro j z x9 x10 x11 hc hz
    have hzr := baT_r (S := S) hV hT (dn := dn) (last := last) hfr hsum (by omega) j
    rw [← hz] at hzr
    refine q_iload (pc' := 9) (dk_at dkX1_boundApart 4 rfl) rfl rfl ?_
    refine q_aload_n (pc' := 10) (dk_at dkX1_boundApart 5 rfl) rfl rfl ?_
    refine r_getf (pc' := 13) fl_RX1_12 (dk_at dkX1_boundApart 6 rfl) hX.obj rfl rfl ?_
    refine r_getf (pc' := 16) fl_RX1_76 (dk_at dkX1_boundApart 7 rfl) hS.obj rfl rfl ?_
    refine q_icmp_ge (tgt := 138) (pc' := 19) (dk_at dkX1_boundApart 8 rfl) rfl rfl (by omega) (by omega) (fun c16 => ?_) (fun c16 => ?_)
    · refine q_lload (pc' := 140) (dk_at dkX1_boundApart 74 rfl) rfl rfl ?_
      refine r_lret rfl (dk_at dkX1_boundApart 75 rfl) ?_
      exact ⟨rfl, by rw [hz, show j = S.cnt by omega]⟩
    · refine q_iload_n (pc' := 20) (dk_at dkX1_boundApart 9 rfl) rfl rfl ?_
      refine q_iload (pc' := 22) (dk_at dkX1_boundApart 10 rfl) rfl rfl ?_
      refine q_ishr (pc' := 23) (dk_at dkX1_boundApart 11 rfl) (by omega) (by omega) rfl ?_
      have bb1 := nt_shr_r dn j
      rw [show ((dn : Int) / 2 ^ ((j : Int)).toNat) = ((dn / 2 ^ j : Nat) : Int) from nt_shr dn j]
      refine q_iconst (pc' := 24) (dk_at dkX1_boundApart 12 rfl) rfl ?_
      refine q_iand (pc' := 25) (dk_at dkX1_boundApart 13 rfl) (by omega) (by omega) rfl ?_
      rw [show (((((dn / 2 ^ j : Nat) : Int)).toNat &&& (1 : Int).toNat : Nat) : Int) = (((dn / 2 ^ j) % 2 : Nat) : Int) from nt_bit (dn / 2 ^ j)]
      refine q_if_ne (tgt := 132) (pc' := 28) (dk_at dkX1_boundApart 14 rfl) rfl rfl (by omega) (fun c25 => ?_) (fun c25 => ?_)
      · refine q_iinc (pc' := 135) (L' := [some (vR b), some (vI (dn : Int)), some (vI last), some (vI free), some (vJ sum), none, some (vJ z), none, some (vI ((j : Int) + 1)), x9, x10, x11]) (dk_at dkX1_boundApart 72 rfl) (by decide) rfl rfl rfl ?_
        rw [show ((j : Int) + 1) = ((j + 1 : Nat) : Int) by omega]
        refine q_goto (tgt := 7) (dk_at dkX1_boundApart 73 rfl) rfl ?_
        exact ih (j + 1) _ _ _ _ (by omega) (by unfold baT; first | rw [if_pos (by omega), hz] | rw [if_neg (by omega), hz])
      · refine q_aload_n (pc' := 29) (dk_at dkX1_boundApart 15 rfl) rfl rfl ?_
        refine r_getf (pc' := 32) fl_RX1_12 (dk_at dkX1_boundApart 16 rfl) hX.obj rfl rfl ?_
        refine r_getf (pc' := 35) fl_RX1_134 (dk_at dkX1_boundApart 17 rfl) hS.obj rfl rfl ?_
        refine q_iconst (pc' := 36) (dk_at dkX1_boundApart 18 rfl) rfl ?_
        refine r_aald1 (pc' := 37) (dk_at dkX1_boundApart 19 rfl) hS.values 0 (by omega) (by omega) (by decide) rfl ?_
        refine q_iload (pc' := 39) (dk_at dkX1_boundApart 20 rfl) rfl rfl ?_
        refine r_iald (pc' := 40) (dk_at dkX1_boundApart 21 rfl) (hS.values_at 0 (by omega)) j (by omega) (by omega) (by decide) rfl ?_
        have bb2 := hV 0 j
        refine q_istore (pc' := 42) (L' := [some (vR b), some (vI (dn : Int)), some (vI last), some (vI free), some (vJ sum), none, some (vJ z), none, some (vI (j : Int)), some (vI ((S.V 0) j)), x10, x11]) (dk_at dkX1_boundApart 22 rfl) (by decide) rfl rfl ?_
        have hle := hG.2 (S.V 0 j).toNat (by omega)
        have hlr := lgTo_r hT (S.V 0 j).toNat S.cnt
        have hge := hG.1 (S.V 0 j + 1).toNat (S.V 0 j).toNat (by omega) (by omega)
        have hgr := gapS_r hT (S.V 0 j + 1).toNat (S.V 0 j).toNat
        refine q_aload_n (pc' := 43) (dk_at dkX1_boundApart 23 rfl) rfl rfl ?_
        refine r_getf (pc' := 46) fl_RX1_36 (dk_at dkX1_boundApart 24 rfl) hX.obj rfl rfl ?_
        refine q_iload (pc' := 48) (dk_at dkX1_boundApart 25 rfl) rfl rfl ?_
        refine r_iald (pc' := 49) (dk_at dkX1_boundApart 26 rfl) hX.leastGap ((((S.V 0) j)).toNat) (by omega) (by omega) (by decide) rfl ?_
        refine q_istore (pc' := 51) (L' := [some (vR b), some (vI (dn : Int)), some (vI last), some (vI free), some (vJ sum), none, some (vJ z), none, some (vI (j : Int)), some (vI ((S.V 0) j)), some (vI (lg ((((S.V 0) j)).toNat))), x11]) (dk_at dkX1_boundApart 27 rfl) (by decide) rfl rfl ?_
        refine q_iload (pc' := 53) (dk_at dkX1_boundApart 28 rfl) rfl rfl ?_
        refine q_iload_n (pc' := 54) (dk_at dkX1_boundApart 29 rfl) rfl rfl ?_
        refine q_icmp_ne (tgt := 76) (pc' := 57) (dk_at dkX1_boundApart 30 rfl) rfl rfl (by omega) (by omega) (fun c54 => ?_) (fun c54 => ?_)
        · refine q_iload_n (pc' := 77) (dk_at dkX1_boundApart 42 rfl) rfl rfl ?_
          refine q_iload (pc' := 79) (dk_at dkX1_boundApart 43 rfl) rfl rfl ?_
          refine q_iadd (pc' := 80) (dk_at dkX1_boundApart 44 rfl) rfl ?_
          refine q_aload_n (pc' := 81) (dk_at dkX1_boundApart 45 rfl) rfl rfl ?_
          refine r_getf (pc' := 84) fl_RX1_12 (dk_at dkX1_boundApart 46 rfl) hX.obj rfl rfl ?_
          refine r_getf (pc' := 87) fl_RX1_134 (dk_at dkX1_boundApart 47 rfl) hS.obj rfl rfl ?_
          refine q_iconst (pc' := 88) (dk_at dkX1_boundApart 48 rfl) rfl ?_
          refine r_aald1 (pc' := 89) (dk_at dkX1_boundApart 49 rfl) hS.values 2 (by omega) (by omega) (by decide) rfl ?_
          refine q_iload (pc' := 91) (dk_at dkX1_boundApart 50 rfl) rfl rfl ?_
          refine r_iald (pc' := 92) (dk_at dkX1_boundApart 51 rfl) (hS.values_at 2 (by omega)) j (by omega) (by omega) (by decide) rfl ?_
          have bb3 := hV 2 j
          refine q_max (pc' := 95) jk_RX1_150 (dk_at dkX1_boundApart 52 rfl) (by omega) (by omega) (by omega) (Nat.zero_le _) (Nat.zero_le _) (Nat.le_of_ble_eq_true rfl) rfl ?_
          refine q_istore (pc' := 97) (L' := [some (vR b), some (vI (dn : Int)), some (vI last), some (vI free), some (vJ sum), none, some (vJ z), none, some (vI (j : Int)), some (vI ((S.V 0) j)), some (vI (lg ((((S.V 0) j)).toNat))), some (vI (max (free + (lg ((((S.V 0) j)).toNat))) ((S.V 2) j)))]) (dk_at dkX1_boundApart 53 rfl) (by decide) rfl rfl ?_
          refine q_aload_n (pc' := 98) (dk_at dkX1_boundApart 54 rfl) rfl rfl ?_
          refine r_getf (pc' := 101) fl_RX1_12 (dk_at dkX1_boundApart 55 rfl) hX.obj rfl rfl ?_
          refine q_lload (pc' := 103) (dk_at dkX1_boundApart 56 rfl) rfl rfl ?_
          refine q_aload_n (pc' := 104) (dk_at dkX1_boundApart 57 rfl) rfl rfl ?_
          refine r_getf (pc' := 107) fl_RX1_12 (dk_at dkX1_boundApart 58 rfl) hX.obj rfl rfl ?_
          refine q_iload (pc' := 109) (dk_at dkX1_boundApart 59 rfl) rfl rfl ?_
          refine q_iload (pc' := 111) (dk_at dkX1_boundApart 60 rfl) rfl rfl ?_
          refine q_aload_n (pc' := 112) (dk_at dkX1_boundApart 61 rfl) rfl rfl ?_
          refine r_getf (pc' := 115) fl_RX1_12 (dk_at dkX1_boundApart 62 rfl) hX.obj rfl rfl ?_
          refine r_getf (pc' := 118) fl_RX1_134 (dk_at dkX1_boundApart 63 rfl) hS.obj rfl rfl ?_
          refine q_iconst (pc' := 119) (dk_at dkX1_boundApart 64 rfl) rfl ?_
          refine r_aald1 (pc' := 120) (dk_at dkX1_boundApart 65 rfl) hS.values 1 (by omega) (by omega) (by decide) rfl ?_
          refine q_iload (pc' := 122) (dk_at dkX1_boundApart 66 rfl) rfl rfl ?_
          refine r_iald (pc' := 123) (dk_at dkX1_boundApart 67 rfl) (hS.values_at 1 (by omega)) j (by omega) (by omega) (by decide) rfl ?_
          have bb4 := hV 1 j
          refine q_iadd (pc' := 124) (dk_at dkX1_boundApart 68 rfl) rfl ?_
          have hcA : ((max (free + (lg ((((S.V 0) j)).toNat))) ((S.V 2) j)) + ((S.V 1) j)) = cpA S last free j := by
            unfold cpA gpA
            first | rw [if_pos (by omega)] | rw [if_neg (by omega)]
            first | rw [hle, hge] | rw [hle]
          refine r_cVJ (pc' := 127) (As := [vI (j : Int), vI ((max (free + (lg ((((S.V 0) j)).toNat))) ((S.V 2) j)) + ((S.V 1) j))]) (S := [vJ z, vR (b + 1)]) cv_RX1_183 (dk_at dkX1_boundApart 69 rfl) hS.obj rfl (k_Shop_penaltyOf (d := 0) (j := j) hS hV hk.o (by omega) (by rw [hcA]; exact cpA_r hV hT last hfr j)) (by omega) (Nat.zero_le _) (Nat.zero_le _) rfl (Nat.le_of_ble_eq_true rfl) rfl (Nat.le_of_ble_eq_true rfl) rfl (fun xx5 hh6 hphh6 => ?_)
          obtain ⟨qq7, rfl⟩ := hphh6
          rw [qq7]
          rw [hcA]
          have hpn := pen_r hV j (cpA_r hV hT last hfr j)
          refine r_cVJ (pc' := 130) (As := [vJ z, vJ (pen S j (cpA S last free j))]) (S := []) cv_RX1_187 (dk_at dkX1_boundApart 70 rfl) hS.obj rfl (k_Shop_joined (d := 1) (by omega) hS hk.o (by omega) (by omega)) (by omega) (Nat.zero_le _) (Nat.zero_le _) rfl (Nat.le_of_ble_eq_true rfl) rfl (Nat.le_of_ble_eq_true rfl) rfl (fun xx8 hh9 hphh9 => ?_)
          obtain ⟨qq10, rfl⟩ := hphh9
          rw [qq10]
          refine q_lstore (pc' := 132) (L' := [some (vR b), some (vI (dn : Int)), some (vI last), some (vI free), some (vJ sum), none, some (vJ (jn S z (pen S j (cpA S last free j)))), none, some (vI (j : Int)), some (vI ((S.V 0) j)), some (vI (lg ((((S.V 0) j)).toNat))), some (vI (max (free + (lg ((((S.V 0) j)).toNat))) ((S.V 2) j)))]) (dk_at dkX1_boundApart 71 rfl) (by decide) rfl rfl ?_
          refine q_iinc (pc' := 135) (L' := [some (vR b), some (vI (dn : Int)), some (vI last), some (vI free), some (vJ sum), none, some (vJ (jn S z (pen S j (cpA S last free j)))), none, some (vI ((j : Int) + 1)), some (vI ((S.V 0) j)), some (vI (lg ((((S.V 0) j)).toNat))), some (vI (max (free + (lg ((((S.V 0) j)).toNat))) ((S.V 2) j)))]) (dk_at dkX1_boundApart 72 rfl) (by decide) rfl rfl rfl ?_
          rw [show ((j : Int) + 1) = ((j + 1 : Nat) : Int) by omega]
          refine q_goto (tgt := 7) (dk_at dkX1_boundApart 73 rfl) rfl ?_
          exact ih (j + 1) _ _ _ _ (by omega) (by unfold baT; first | rw [if_pos (by omega), hz] | rw [if_neg (by omega), hz])
        · refine q_iload (pc' := 59) (dk_at dkX1_boundApart 31 rfl) rfl rfl ?_
          refine q_aload_n (pc' := 60) (dk_at dkX1_boundApart 32 rfl) rfl rfl ?_
          refine r_getf (pc' := 63) fl_RX1_33 (dk_at dkX1_boundApart 33 rfl) hX.obj rfl rfl ?_
          refine q_iload (pc' := 65) (dk_at dkX1_boundApart 34 rfl) rfl rfl ?_
          refine q_iconst (pc' := 66) (dk_at dkX1_boundApart 35 rfl) rfl ?_
          refine q_iadd (pc' := 67) (dk_at dkX1_boundApart 36 rfl) rfl ?_
          refine r_aald1 (pc' := 68) (dk_at dkX1_boundApart 37 rfl) hX.gaps (((((S.V 0) j) + 1)).toNat) (by omega) (by omega) (by decide) rfl ?_
          refine q_iload (pc' := 70) (dk_at dkX1_boundApart 38 rfl) rfl rfl ?_
          refine r_iald (pc' := 71) (dk_at dkX1_boundApart 39 rfl) (hX.gaps_at (((((S.V 0) j) + 1)).toNat) (by omega)) ((((S.V 0) j)).toNat) (by omega) (by omega) (by decide) rfl ?_
          refine q_min (pc' := 74) jk_RX1_137 (dk_at dkX1_boundApart 40 rfl) (by omega) (by omega) (by omega) (Nat.zero_le _) (Nat.zero_le _) (Nat.le_of_ble_eq_true rfl) rfl ?_
          refine q_istore (pc' := 76) (L' := [some (vR b), some (vI (dn : Int)), some (vI last), some (vI free), some (vJ sum), none, some (vJ z), none, some (vI (j : Int)), some (vI ((S.V 0) j)), some (vI (min (lg ((((S.V 0) j)).toNat)) ((G (((((S.V 0) j) + 1)).toNat)) ((((S.V 0) j)).toNat)))), x11]) (dk_at dkX1_boundApart 41 rfl) (by decide) rfl rfl ?_
          refine q_iload_n (pc' := 77) (dk_at dkX1_boundApart 42 rfl) rfl rfl ?_
          refine q_iload (pc' := 79) (dk_at dkX1_boundApart 43 rfl) rfl rfl ?_
          refine q_iadd (pc' := 80) (dk_at dkX1_boundApart 44 rfl) rfl ?_
          refine q_aload_n (pc' := 81) (dk_at dkX1_boundApart 45 rfl) rfl rfl ?_
          refine r_getf (pc' := 84) fl_RX1_12 (dk_at dkX1_boundApart 46 rfl) hX.obj rfl rfl ?_
          refine r_getf (pc' := 87) fl_RX1_134 (dk_at dkX1_boundApart 47 rfl) hS.obj rfl rfl ?_
          refine q_iconst (pc' := 88) (dk_at dkX1_boundApart 48 rfl) rfl ?_
          refine r_aald1 (pc' := 89) (dk_at dkX1_boundApart 49 rfl) hS.values 2 (by omega) (by omega) (by decide) rfl ?_
          refine q_iload (pc' := 91) (dk_at dkX1_boundApart 50 rfl) rfl rfl ?_
          refine r_iald (pc' := 92) (dk_at dkX1_boundApart 51 rfl) (hS.values_at 2 (by omega)) j (by omega) (by omega) (by decide) rfl ?_
          have bb11 := hV 2 j
          refine q_max (pc' := 95) jk_RX1_150 (dk_at dkX1_boundApart 52 rfl) (by omega) (by omega) (by omega) (Nat.zero_le _) (Nat.zero_le _) (Nat.le_of_ble_eq_true rfl) rfl ?_
          refine q_istore (pc' := 97) (L' := [some (vR b), some (vI (dn : Int)), some (vI last), some (vI free), some (vJ sum), none, some (vJ z), none, some (vI (j : Int)), some (vI ((S.V 0) j)), some (vI (min (lg ((((S.V 0) j)).toNat)) ((G (((((S.V 0) j) + 1)).toNat)) ((((S.V 0) j)).toNat)))), some (vI (max (free + (min (lg ((((S.V 0) j)).toNat)) ((G (((((S.V 0) j) + 1)).toNat)) ((((S.V 0) j)).toNat)))) ((S.V 2) j)))]) (dk_at dkX1_boundApart 53 rfl) (by decide) rfl rfl ?_
          refine q_aload_n (pc' := 98) (dk_at dkX1_boundApart 54 rfl) rfl rfl ?_
          refine r_getf (pc' := 101) fl_RX1_12 (dk_at dkX1_boundApart 55 rfl) hX.obj rfl rfl ?_
          refine q_lload (pc' := 103) (dk_at dkX1_boundApart 56 rfl) rfl rfl ?_
          refine q_aload_n (pc' := 104) (dk_at dkX1_boundApart 57 rfl) rfl rfl ?_
          refine r_getf (pc' := 107) fl_RX1_12 (dk_at dkX1_boundApart 58 rfl) hX.obj rfl rfl ?_
          refine q_iload (pc' := 109) (dk_at dkX1_boundApart 59 rfl) rfl rfl ?_
          refine q_iload (pc' := 111) (dk_at dkX1_boundApart 60 rfl) rfl rfl ?_
          refine q_aload_n (pc' := 112) (dk_at dkX1_boundApart 61 rfl) rfl rfl ?_
          refine r_getf (pc' := 115) fl_RX1_12 (dk_at dkX1_boundApart 62 rfl) hX.obj rfl rfl ?_
          refine r_getf (pc' := 118) fl_RX1_134 (dk_at dkX1_boundApart 63 rfl) hS.obj rfl rfl ?_
          refine q_iconst (pc' := 119) (dk_at dkX1_boundApart 64 rfl) rfl ?_
          refine r_aald1 (pc' := 120) (dk_at dkX1_boundApart 65 rfl) hS.values 1 (by omega) (by omega) (by decide) rfl ?_
          refine q_iload (pc' := 122) (dk_at dkX1_boundApart 66 rfl) rfl rfl ?_
          refine r_iald (pc' := 123) (dk_at dkX1_boundApart 67 rfl) (hS.values_at 1 (by omega)) j (by omega) (by omega) (by decide) rfl ?_
          have bb12 := hV 1 j
          refine q_iadd (pc' := 124) (dk_at dkX1_boundApart 68 rfl) rfl ?_
          have hcA : ((max (free + (min (lg ((((S.V 0) j)).toNat)) ((G (((((S.V 0) j) + 1)).toNat)) ((((S.V 0) j)).toNat)))) ((S.V 2) j)) + ((S.V 1) j)) = cpA S last free j := by
            unfold cpA gpA
            first | rw [if_pos (by omega)] | rw [if_neg (by omega)]
            first | rw [hle, hge] | rw [hle]
          refine r_cVJ (pc' := 127) (As := [vI (j : Int), vI ((max (free + (min (lg ((((S.V 0) j)).toNat)) ((G (((((S.V 0) j) + 1)).toNat)) ((((S.V 0) j)).toNat)))) ((S.V 2) j)) + ((S.V 1) j))]) (S := [vJ z, vR (b + 1)]) cv_RX1_183 (dk_at dkX1_boundApart 69 rfl) hS.obj rfl (k_Shop_penaltyOf (d := 0) (j := j) hS hV hk.o (by omega) (by rw [hcA]; exact cpA_r hV hT last hfr j)) (by omega) (Nat.zero_le _) (Nat.zero_le _) rfl (Nat.le_of_ble_eq_true rfl) rfl (Nat.le_of_ble_eq_true rfl) rfl (fun xx13 hh14 hphh14 => ?_)
          obtain ⟨qq15, rfl⟩ := hphh14
          rw [qq15]
          rw [hcA]
          have hpn := pen_r hV j (cpA_r hV hT last hfr j)
          refine r_cVJ (pc' := 130) (As := [vJ z, vJ (pen S j (cpA S last free j))]) (S := []) cv_RX1_187 (dk_at dkX1_boundApart 70 rfl) hS.obj rfl (k_Shop_joined (d := 1) (by omega) hS hk.o (by omega) (by omega)) (by omega) (Nat.zero_le _) (Nat.zero_le _) rfl (Nat.le_of_ble_eq_true rfl) rfl (Nat.le_of_ble_eq_true rfl) rfl (fun xx16 hh17 hphh17 => ?_)
          obtain ⟨qq18, rfl⟩ := hphh17
          rw [qq18]
          refine q_lstore (pc' := 132) (L' := [some (vR b), some (vI (dn : Int)), some (vI last), some (vI free), some (vJ sum), none, some (vJ (jn S z (pen S j (cpA S last free j)))), none, some (vI (j : Int)), some (vI ((S.V 0) j)), some (vI (min (lg ((((S.V 0) j)).toNat)) ((G (((((S.V 0) j) + 1)).toNat)) ((((S.V 0) j)).toNat)))), some (vI (max (free + (min (lg ((((S.V 0) j)).toNat)) ((G (((((S.V 0) j) + 1)).toNat)) ((((S.V 0) j)).toNat)))) ((S.V 2) j)))]) (dk_at dkX1_boundApart 71 rfl) (by decide) rfl rfl ?_
          refine q_iinc (pc' := 135) (L' := [some (vR b), some (vI (dn : Int)), some (vI last), some (vI free), some (vJ sum), none, some (vJ (jn S z (pen S j (cpA S last free j)))), none, some (vI ((j : Int) + 1)), some (vI ((S.V 0) j)), some (vI (min (lg ((((S.V 0) j)).toNat)) ((G (((((S.V 0) j) + 1)).toNat)) ((((S.V 0) j)).toNat)))), some (vI (max (free + (min (lg ((((S.V 0) j)).toNat)) ((G (((((S.V 0) j) + 1)).toNat)) ((((S.V 0) j)).toNat)))) ((S.V 2) j)))]) (dk_at dkX1_boundApart 72 rfl) (by decide) rfl rfl rfl ?_
          rw [show ((j : Int) + 1) = ((j + 1 : Nat) : Int) by omega]
          refine q_goto (tgt := 7) (dk_at dkX1_boundApart 73 rfl) rfl ?_
          exact ih (j + 1) _ _ _ _ (by omega) (by unfold baT; first | rw [if_pos (by omega), hz] | rw [if_neg (by omega), hz])

set_option maxHeartbeats 4000000 in
set_option maxRecDepth 100000 in
theorem k_Search_boundApart {d n : Nat} {h : PH} {b : Nat} {S : Shp} {al fi bs fl sc fc : Int} {st fa re wo lg rk ch fo sC sT sX : Nat → Int} {G : Nat → Nat → Int} {dn : Nat} {last free sum : Int} (hd : 2 ≤ d) (hk : Sok S) (hG : Gok S G lg) (hs : dn < 256) (hl : -1 ≤ last ∧ last ≤ 3) (hfr : 0 ≤ free ∧ free ≤ 50000) (hsum : -2000000000000 ≤ sum ∧ sum ≤ 2000000000000) (hS : isShp n h (b + 1) S) (hX : isSearch n h b al fi bs fl sc st fa re wo G lg rk ch fo fc sC sT sX) : CtrJ mX1_boundApart d [vR b, vI (dn : Int), vI last, vI free, vJ sum] n h (fun x h' => h' = h ∧ x = baT S dn last free sum S.cnt) := by
  refine q_beginJ (L := [some (vR b), some (vI (dn : Int)), some (vI last), some (vI free), some (vJ sum), none, none, none, none, none, none, none]) rfl ?_
  refine q_lload (pc' := 2) (dk_at dkX1_boundApart 0 rfl) rfl rfl ?_
  refine q_lstore (pc' := 4) (L' := [some (vR b), some (vI (dn : Int)), some (vI last), some (vI free), some (vJ sum), none, some (vJ sum), none, none, none, none, none]) (dk_at dkX1_boundApart 1 rfl) (by decide) rfl rfl ?_
  refine q_iconst (pc' := 5) (dk_at dkX1_boundApart 2 rfl) rfl ?_
  refine q_istore (pc' := 7) (L' := [some (vR b), some (vI (dn : Int)), some (vI last), some (vI free), some (vJ sum), none, some (vJ sum), none, some (vI 0), none, none, none]) (dk_at dkX1_boundApart 3 rfl) (by decide) rfl rfl ?_
  exact l_boundApart hd hk hk.v hk.t hk.c hG hs hl hfr hsum hS hX S.cnt 0 _ none none none (by omega) rfl
