/-! Search: extend -/
theorem alw_f {S : Shp} {fi : Int} {dn s : Nat} (h : ¬ (s &&& dn = 0 ∧ (dn ≠ 0 ∨ fi = -1 ∨ s / 2 ^ fi.toNat % 2 = 1))) : alw S fi dn s = false := by
  cases e : alw S fi dn s with
  | false => rfl
  | true => exact absurd (alw_i e).2 h
theorem bil_r {S : Shp} (hk : Sok S) (rk : Nat → Int) (dn : Nat) (l : Int) {f s : Int} (hf : 0 ≤ f ∧ f ≤ 50000) (hs : -2000000000000 ≤ s ∧ s ≤ 2000000000000) : -2000000000000 ≤ bil S rk dn l f s ∧ bil S rk dn l f s ≤ 200000000000000 := by
  have h1 := ngTo_r hk.t dn l S.cnt
  have h2 := glT_r hk.v rk dn (start := f + ngTo S dn l S.cnt) (by omega) hs (by omega) S.cnt hk.c
  have h3 := sil_r hk.v hk.c rk dn (start := f + ngTo S dn l S.cnt) (by omega)
  unfold bil
  split
  · omega
  · split <;> omega
theorem XR_all {S : Shp} {fi fl : Int} {depth dn : Nat} {l f s bs : Int} {ch sC sT sX : Nat → Int} (hp : PreX S fi fl depth dn l f s bs sC sT sX) (h : dn = alS S) : XR S fi fl depth dn l f s bs ch sC sT sX s (depth : Int) ch ch sC sT sX := by
  obtain ⟨-, -, -, -, -, -, -, hb, -, h1, h2⟩ := hp
  have hb2 := hb h
  have e : fn S fi dn l f s = s := fn_all h
  refine ⟨by omega, fun _ _ => rfl, fun _ z => ⟨[], ⟨h, by omega⟩, rfl, fun _ _ => rfl, fun i hi => absurd hi (Nat.not_lt_zero _)⟩, h1, fun e l' a b c x y => Int.le_trans (Int.le_of_lt hb2) (h2 e l' a b c x y), fun _ _ => rfl, fun _ _ => ⟨rfl, rfl⟩⟩
set_option maxHeartbeats 4000000 in
set_option maxRecDepth 100000 in
theorem l_extend {d n : Nat} {h : PH} {b : Nat} {S : Shp} {fi bs fl fc : Int} {st fa re wo lg rk ch fo sC sT sX : Nat → Int} {G : Nat → Nat → Int} {k d1 depth dn : Nat} {l f s : Int} (hINF : INF = 1000000000000000) (hd : 3 ≤ d) (hd1 : d1 + 1 ≤ d) (hk : Sok S) (hG : Gok S G lg) (hRk : Rkd S rk) (hrk : ∀ j, 0 ≤ rk j ∧ rk j ≤ 7) (hsets : Sets S (2 ^ S.cnt) k st fa re wo) (hfi : -1 ≤ fi ∧ fi ≤ 7) (hflr : -4000000000000 ≤ fl ∧ fl ≤ INF) (hp8 : 1 ≤ 2 ^ S.cnt ∧ 2 ^ S.cnt ≤ 256) (hdep : depth < 8) (hdn : dn < 2 ^ S.cnt) (hz : depth = 0 ↔ dn = 0) (hl : -1 ≤ l ∧ l ≤ 3) (hf : 0 ≤ f ∧ f ≤ 4000) (hs : -1100000000000 ≤ s ∧ s ≤ 40000000000) (hp : PreX S fi fl depth dn l f s bs sC sT sX) (hbI : bs ≤ INF) (hna : dn ≠ alS S) (hrec : ∀ (dn2 : Nat) (l2 f2 s2 bs2 fc2 : Int) (ch2 fo2 sC2 sT2 sX2 : Nat → Int) (h2 : PH), PreX S fi fl (depth + 1) dn2 l2 f2 s2 bs2 sC2 sT2 sX2 → isSearch n h2 b ((alS S : Nat) : Int) fi bs2 fl (k : Int) st fa re wo G lg rk ch2 fo2 fc2 sC2 sT2 sX2 → isShp n h2 (b + 1) S → CtrV mX1_extend d1 [vR b, vI ((depth + 1 : Nat) : Int), vI (dn2 : Int), vI l2, vI f2, vJ s2] n h2 (fun h' => ∃ (bs' fc' : Int) (ch' fo' sC' sT' sX' : Nat → Int), isSearch n h' b ((alS S : Nat) : Int) fi bs' fl (k : Int) st fa re wo G lg rk ch' fo' fc' sC' sT' sX' ∧ isShp n h' (b + 1) S ∧ XR S fi fl (depth + 1) dn2 l2 f2 s2 bs2 ch2 sC2 sT2 sX2 bs' fc' ch' fo' sC' sT' sX' ∧ Fr h2 h' b (b + 31))) : ∀ (c : Nat) (a : Nat) (bs1 fc1 : Int) (ch1 fo1 sC1 sT1 sX1 : Nat → Int) (h1 : PH) (x8 x9 x10 x11 x12 x13 : Option PV), (scT S a + c = k) → (a ≤ 2 ^ S.cnt) → (XI S fi fl depth dn l f s bs ch sC sT sX a bs1 fc1 ch1 fo1 sC1 sT1 sX1) → (-2000000000000 ≤ bs1) → (isSearch n h1 b ((alS S : Nat) : Int) fi bs1 fl (k : Int) st fa re wo G lg rk ch1 fo1 fc1 sC1 sT1 sX1) → (isShp n h1 (b + 1) S) → (Fr h h1 b (b + 31)) → QN mX1_extend d (FV n (fun h' => ∃ (bs' fc' : Int) (ch' fo' sC' sT' sX' : Nat → Int), isSearch n h' b ((alS S : Nat) : Int) fi bs' fl (k : Int) st fa re wo G lg rk ch' fo' fc' sC' sT' sX' ∧ isShp n h' (b + 1) S ∧ XR S fi fl depth dn l f s bs ch sC sT sX bs' fc' ch' fo' sC' sT' sX' ∧ Fr h h' b (b + 31))) 45 [some (vR b), some (vI (depth : Int)), some (vI (dn : Int)), some (vI l), some (vI f), some (vJ s), none, some (vI ((scT S a : Nat) : Int)), x8, x9, x10, x11, x12, x13] [] n h1 := by
  intro c
  induction c with
  | zero =>
    intro a bs1 fc1 ch1 fo1 sC1 sT1 sX1 h1 x8 x9 x10 x11 x12 x13 hc ha hI hb hX hS hF
    have hkl0 := scT_le S (2 ^ S.cnt)
    rw [← hsets.1] at hkl0
    refine q_iload (pc' := 47) (dk_at dkX1_extend 25 rfl) rfl rfl ?_
    refine q_aload_n (pc' := 48) (dk_at dkX1_extend 26 rfl) rfl rfl ?_
    refine r_getf (pc' := 51) fl_RX1_143 (dk_at dkX1_extend 27 rfl) hX.obj rfl rfl ?_
    refine q_icmp_ge (tgt := 239) (pc' := 54) (dk_at dkX1_extend 28 rfl) rfl rfl (by omega) (by omega) (fun c51 => ?_) (fun c51 => ?_)
    · refine r_vret rfl (dk_at dkX1_extend_1 5 rfl) ?_
      first | (exfalso; omega; done) | exact ⟨bs1, fc1, ch1, fo1, sC1, sT1, sX1, hX, hS, XI_end2 hk.c hp hna ha hI (Or.inl (by omega)), hF⟩ | exact ⟨bs1, fc1, ch1, fo1, sC1, sT1, sX1, hX, hS, XI_end2 hk.c hp hna ha hI (Or.inr (XI_end1 (fl := fl) (depth := depth) hk.c hdn hna ha (by rw [← hsets.1]; omega))), hF⟩
    · exfalso
      omega
  | succ c ih =>
    intro a bs1 fc1 ch1 fo1 sC1 sT1 sX1 h1 x8 x9 x10 x11 x12 x13 hc ha hI hb hX hS hF
    have hkl0 := scT_le S (2 ^ S.cnt)
    rw [← hsets.1] at hkl0
    refine q_iload (pc' := 47) (dk_at dkX1_extend 25 rfl) rfl rfl ?_
    refine q_aload_n (pc' := 48) (dk_at dkX1_extend 26 rfl) rfl rfl ?_
    refine r_getf (pc' := 51) fl_RX1_143 (dk_at dkX1_extend 27 rfl) hX.obj rfl rfl ?_
    refine q_icmp_ge (tgt := 239) (pc' := 54) (dk_at dkX1_extend 28 rfl) rfl rfl (by omega) (by omega) (fun c51 => ?_) (fun c51 => ?_)
    · refine r_vret rfl (dk_at dkX1_extend_1 5 rfl) ?_
      first | (exfalso; omega; done) | exact ⟨bs1, fc1, ch1, fo1, sC1, sT1, sX1, hX, hS, XI_end2 hk.c hp hna ha hI (Or.inl (by omega)), hF⟩ | exact ⟨bs1, fc1, ch1, fo1, sC1, sT1, sX1, hX, hS, XI_end2 hk.c hp hna ha hI (Or.inr (XI_end1 (fl := fl) (depth := depth) hk.c hdn hna ha (by rw [← hsets.1]; omega))), hF⟩
    · have hb1 := hI.1
      refine q_aload_n (pc' := 55) (dk_at dkX1_extend 29 rfl) rfl rfl ?_
      refine r_getf (pc' := 58) fl_RX1_66 (dk_at dkX1_extend 30 rfl) hX.obj rfl rfl ?_
      refine q_aload_n (pc' := 59) (dk_at dkX1_extend 31 rfl) rfl rfl ?_
      refine r_getf (pc' := 62) fl_RX1_70 (dk_at dkX1_extend 32 rfl) hX.obj rfl rfl ?_
      refine q_lcmp (pc' := 63) (dk_at dkX1_extend 33 rfl) (by omega) (by omega) rfl ?_
      refine q_if_le (tgt := 239) (pc' := 66) (dk_at dkX1_extend 34 rfl) rfl rfl (cmpz_IR _ _) (fun c63 => ?_) (fun c63 => ?_)
      · rw [cmpz_le] at c63
        refine r_vret rfl (dk_at dkX1_extend_1 5 rfl) ?_
        first | (exfalso; omega; done) | exact ⟨bs1, fc1, ch1, fo1, sC1, sT1, sX1, hX, hS, XI_end2 hk.c hp hna ha hI (Or.inl (by omega)), hF⟩ | exact ⟨bs1, fc1, ch1, fo1, sC1, sT1, sX1, hX, hS, XI_end2 hk.c hp hna ha hI (Or.inr (XI_end1 (fl := fl) (depth := depth) hk.c hdn hna ha (by rw [← hsets.1]; omega))), hF⟩
      · rw [cmpz_le] at c63
        obtain ⟨t, ht1, ht2, hok, hsc, hnn⟩ := scT_next (2 ^ S.cnt) ha (by rw [← hsets.1]; omega)
        obtain ⟨hst, hds1, hds2, hds3⟩ := hsets.2 t ht2 hok
        obtain ⟨t0, tf⟩ := okS_i hok
        have f0 := sfT_r hk.v t S.cnt
        have f1 := sfT_le3 hk.v t0 S.cnt ht2
        have hkl := scT_le S (2 ^ S.cnt)
        rw [← hsets.1] at hkl
        rw [hsc] at hst
        refine q_aload_n (pc' := 67) (dk_at dkX1_extend 35 rfl) rfl rfl ?_
        refine r_getf (pc' := 70) fl_RX1_18 (dk_at dkX1_extend 36 rfl) hX.obj rfl rfl ?_
        refine q_iload (pc' := 72) (dk_at dkX1_extend 37 rfl) rfl rfl ?_
        refine r_iald (pc' := 73) (dk_at dkX1_extend 38 rfl) hX.sets (scT S a) (by omega) (by omega) (by decide) rfl ?_
        rw [hst]
        refine q_istore (pc' := 75) (L' := [some (vR b), some (vI (depth : Int)), some (vI (dn : Int)), some (vI l), some (vI f), some (vJ s), none, some (vI ((scT S a : Nat) : Int)), some (vI (t : Int)), x9, x10, x11, x12, x13]) (dk_at dkX1_extend 39 rfl) (by decide) rfl rfl ?_
        refine q_iload (pc' := 77) (dk_at dkX1_extend 40 rfl) rfl rfl ?_
        refine q_iload_n (pc' := 78) (dk_at dkX1_extend 41 rfl) rfl rfl ?_
        refine q_iand (pc' := 79) (dk_at dkX1_extend 42 rfl) (by omega) (by omega) rfl ?_
        rw [show ((((t : Int)).toNat &&& ((dn : Int)).toNat : Nat) : Int) = ((t &&& dn : Nat) : Int) from nt_and t dn]
        have hand : t &&& dn ≤ t := Nat.and_le_left
        refine q_if_ne (tgt := 233) (pc' := 82) (dk_at dkX1_extend 43 rfl) rfl rfl (by omega) (fun c79 => ?_) (fun c79 => ?_)
        · have hI := XI_no hI ht1 hnn (alw_f (fi := fi) (dn := dn) (s := t) (by omega))
          have hsn : scT S a + 1 = scT S (t + 1) := by rw [show scT S (t + 1) = if okS S t then scT S t + 1 else scT S t from rfl, if_pos hok, hsc]
          refine q_iinc (pc' := 236) (L' := [some (vR b), some (vI (depth : Int)), some (vI (dn : Int)), some (vI l), some (vI f), some (vJ s), none, some (vI (((scT S a : Nat) : Int) + 1)), some (vI (t : Int)), x9, x10, x11, x12, x13]) (dk_at dkX1_extend_1 3 rfl) (by decide) rfl rfl rfl ?_
          rw [show (((scT S a : Nat) : Int) + 1) = ((((scT S a) + 1) : Nat) : Int) by omega]
          refine q_goto (tgt := 45) (dk_at dkX1_extend_1 4 rfl) rfl ?_
          rw [hsn]
          exact ih (t + 1) bs1 fc1 _ _ _ _ _ _ _ _ _ _ _ _ (by omega) (by omega) hI (by omega) hX hS hF
        · refine q_iload_n (pc' := 83) (dk_at dkX1_extend 44 rfl) rfl rfl ?_
          refine q_if_gt (tgt := 95) (pc' := 86) (dk_at dkX1_extend 45 rfl) rfl rfl (by omega) (fun c83 => ?_) (fun c83 => ?_)
          · have hdis : t &&& dn = 0 := by omega
            have hal : alw S fi dn t = true := alw_mk hok hdis (by omega)
            have hor := or_gt (S := S) t0 hdis ht2
            have hol := or_lt hdn ht2
            refine q_iload_n (pc' := 96) (dk_at dkX1_extend 50 rfl) rfl rfl ?_
            refine q_iload (pc' := 98) (dk_at dkX1_extend 51 rfl) rfl rfl ?_
            refine q_ior (pc' := 99) (dk_at dkX1_extend 52 rfl) (by omega) (by omega) rfl ?_
            rw [show ((((dn : Int)).toNat ||| ((t : Int)).toNat : Nat) : Int) = ((dn ||| t : Nat) : Int) from nt_or dn t]
            refine q_istore (pc' := 101) (L' := [some (vR b), some (vI (depth : Int)), some (vI (dn : Int)), some (vI l), some (vI f), some (vJ s), none, some (vI ((scT S a : Nat) : Int)), some (vI (t : Int)), some (vI ((dn ||| t : Nat) : Int)), x10, x11, x12, x13]) (dk_at dkX1_extend 53 rfl) (by decide) rfl rfl ?_
            refine q_aload_n (pc' := 102) (dk_at dkX1_extend 54 rfl) rfl rfl ?_
            refine r_getf (pc' := 105) fl_RX1_22 (dk_at dkX1_extend 55 rfl) hX.obj rfl rfl ?_
            refine q_iload (pc' := 107) (dk_at dkX1_extend 56 rfl) rfl rfl ?_
            refine r_iald (pc' := 108) (dk_at dkX1_extend 57 rfl) hX.familyOf t (by omega) (by omega) (by decide) rfl ?_
            rw [hds1]
            refine q_istore (pc' := 110) (L' := [some (vR b), some (vI (depth : Int)), some (vI (dn : Int)), some (vI l), some (vI f), some (vJ s), none, some (vI ((scT S a : Nat) : Int)), some (vI (t : Int)), some (vI ((dn ||| t : Nat) : Int)), some (vI (sfT S.V t S.cnt)), x11, x12, x13]) (dk_at dkX1_extend 58 rfl) (by decide) rfl rfl ?_
            refine q_aload_n (pc' := 111) (dk_at dkX1_extend 59 rfl) rfl rfl ?_
            refine q_iload (pc' := 113) (dk_at dkX1_extend 60 rfl) rfl rfl ?_
            refine q_iload_n (pc' := 114) (dk_at dkX1_extend 61 rfl) rfl rfl ?_
            refine q_iload (pc' := 116) (dk_at dkX1_extend 62 rfl) rfl rfl ?_
            refine r_cVI (pc' := 119) (As := [vI (t : Int), vI l, vI f]) (S := []) cv_RX1_157 (dk_at dkX1_extend 63 rfl) hX.obj rfl (k_Search_endOf (d := 1) (by omega) hk hG (by omega) hl (by omega) hds1 hds2 hds3 (by omega) hS hX) (by omega) (Nat.zero_le _) (Nat.zero_le _) rfl (Nat.le_of_ble_eq_true rfl) rfl (Nat.le_of_ble_eq_true rfl) rfl (fun xx1 hh2 hphh2 => ?_)
            obtain ⟨qq3, rfl⟩ := hphh2
            rw [qq3]
            have hen := endS_r hk t l (f := f) (B := 4000) (by omega) (by omega)
            refine q_istore (pc' := 121) (L' := [some (vR b), some (vI (depth : Int)), some (vI (dn : Int)), some (vI l), some (vI f), some (vJ s), none, some (vI ((scT S a : Nat) : Int)), some (vI (t : Int)), some (vI ((dn ||| t : Nat) : Int)), some (vI (sfT S.V t S.cnt)), some (vI (endS S t l f)), x12, x13]) (dk_at dkX1_extend 64 rfl) (by decide) rfl rfl ?_
            refine q_aload_n (pc' := 122) (dk_at dkX1_extend 65 rfl) rfl rfl ?_
            refine q_iload (pc' := 124) (dk_at dkX1_extend 66 rfl) rfl rfl ?_
            refine q_iload (pc' := 126) (dk_at dkX1_extend 67 rfl) rfl rfl ?_
            refine q_lload (pc' := 128) (dk_at dkX1_extend 68 rfl) rfl rfl ?_
            refine r_cVJ (pc' := 131) (As := [vI (t : Int), vI (endS S t l f), vJ s]) (S := []) cv_RX1_161 (dk_at dkX1_extend 69 rfl) hX.obj rfl (k_Search_sumWith (d := 2) (by omega) hk (by omega) (by omega) (by omega) hS hX) (by omega) (Nat.zero_le _) (Nat.zero_le _) rfl (Nat.le_of_ble_eq_true rfl) rfl (Nat.le_of_ble_eq_true rfl) rfl (fun xx4 hh5 hphh5 => ?_)
            obtain ⟨qq6, rfl⟩ := hphh5
            rw [qq6]
            have hco := smT_small hk (t := t) (en := endS S t l f) (s := s) (lo := -1100000000000) (hi := 40000000000) (by omega) (by omega) (by omega) (by omega) S.cnt
            refine q_lstore (pc' := 133) (L' := [some (vR b), some (vI (depth : Int)), some (vI (dn : Int)), some (vI l), some (vI f), some (vJ s), none, some (vI ((scT S a : Nat) : Int)), some (vI (t : Int)), some (vI ((dn ||| t : Nat) : Int)), some (vI (sfT S.V t S.cnt)), some (vI (endS S t l f)), some (vJ (smT S t (endS S t l f) s S.cnt)), none]) (dk_at dkX1_extend 70 rfl) (by decide) rfl rfl ?_
            have hc8 := hk.c
            have hF1 : min (smT S t (endS S t l f) s S.cnt) INF ≤ Fx S fi dn l f s t := fin_sum hk 8 _ _ _ _ hen.1
            have hF2 : min (baT S (dn ||| t) (sfT S.V t S.cnt) (endS S t l f) (smT S t (endS S t l f) s S.cnt) S.cnt) INF ≤ Fx S fi dn l f s t := fin_ba hk 8 _ _ _ _ hen.1 (sf_ex hk ht2 hok)
            have hF3 : min (bil S rk (dn ||| t) (sfT S.V t S.cnt) (endS S t l f) (smT S t (endS S t l f) s S.cnt)) INF ≤ Fx S fi dn l f s t := fin_bil hk hRk 8 _ _ _ _ hen.1
            obtain ⟨ky, hky⟩ : ∃ ky : Nat, (ky : Int) = 4 * ((dn ||| t : Nat) : Int) + (sfT S.V t S.cnt) := ⟨4 * (dn ||| t) + (sfT S.V t S.cnt).toNat, by omega⟩
            obtain ⟨kk, hkk3, hkk⟩ := hI.2.2.2.1.1 ky (by omega)
            refine q_lload (pc' := 135) (dk_at dkX1_extend 71 rfl) rfl rfl ?_
            refine q_aload_n (pc' := 136) (dk_at dkX1_extend 72 rfl) rfl rfl ?_
            refine r_getf (pc' := 139) fl_RX1_66 (dk_at dkX1_extend 73 rfl) hX.obj rfl rfl ?_
            refine q_lcmp (pc' := 140) (dk_at dkX1_extend 74 rfl) (by omega) (by omega) rfl ?_
            refine q_if_ge (tgt := 233) (pc' := 143) (dk_at dkX1_extend 75 rfl) rfl rfl (cmpz_IR _ _) (fun c140 => ?_) (fun c140 => ?_)
            · rw [cmpz_ge] at c140
              have hI := XI_ge hI ht1 hnn hal (by omega)
              have hsn : scT S a + 1 = scT S (t + 1) := by rw [show scT S (t + 1) = if okS S t then scT S t + 1 else scT S t from rfl, if_pos hok, hsc]
              refine q_iinc (pc' := 236) (L' := [some (vR b), some (vI (depth : Int)), some (vI (dn : Int)), some (vI l), some (vI f), some (vJ s), none, some (vI (((scT S a : Nat) : Int) + 1)), some (vI (t : Int)), some (vI ((dn ||| t : Nat) : Int)), some (vI (sfT S.V t S.cnt)), some (vI (endS S t l f)), some (vJ (smT S t (endS S t l f) s S.cnt)), none]) (dk_at dkX1_extend_1 3 rfl) (by decide) rfl rfl rfl ?_
              rw [show (((scT S a : Nat) : Int) + 1) = ((((scT S a) + 1) : Nat) : Int) by omega]
              refine q_goto (tgt := 45) (dk_at dkX1_extend_1 4 rfl) rfl ?_
              rw [hsn]
              exact ih (t + 1) bs1 fc1 _ _ _ _ _ _ _ _ _ _ _ _ (by omega) (by omega) hI (by omega) hX hS hF
            · rw [cmpz_ge] at c140
              refine q_aload_n (pc' := 144) (dk_at dkX1_extend 76 rfl) rfl rfl ?_
              refine q_iload (pc' := 146) (dk_at dkX1_extend 77 rfl) rfl rfl ?_
              refine q_iload (pc' := 148) (dk_at dkX1_extend 78 rfl) rfl rfl ?_
              refine q_iload (pc' := 150) (dk_at dkX1_extend 79 rfl) rfl rfl ?_
              refine q_lload (pc' := 152) (dk_at dkX1_extend 80 rfl) rfl rfl ?_
              refine r_cVI (pc' := 155) (As := [vI ((dn ||| t : Nat) : Int), vI (sfT S.V t S.cnt), vI (endS S t l f), vJ (smT S t (endS S t l f) s S.cnt)]) (S := []) cv_RX1_165 (dk_at dkX1_extend 81 rfl) hX.obj rfl (k_Search_isOutdone (d := 0) (dn := dn ||| t) (ky := ky) (k := kk) (by omega) (by omega) hky hkk hkk3 hI.2.2.2.1.2.1 hI.2.2.2.1.2.2 (by omega) (by omega) hX) (by omega) (Nat.zero_le _) (Nat.zero_le _) rfl (Nat.le_of_ble_eq_true rfl) rfl (Nat.le_of_ble_eq_true rfl) rfl (fun xx7 hh8 hphh8 => ?_)
              obtain ⟨qq, hxx⟩ := hphh8
              rw [qq]
              have hF4 : xx7 = 0 ∨ bs1 ≤ Fx S fi dn l f s t := by
                rcases hxx with q | ⟨q, i, i1, i2, i3⟩
                · exact Or.inl q
                · right
                  have d1 := hI.2.2.2.2.1 (dn ||| t) ((sfT S.V t S.cnt).toNat) hor hol (by omega) i (by rw [show 4 * (dn ||| t) + (sfT S.V t S.cnt).toNat = ky by omega, hkk]; omega)
                  rw [show 4 * (dn ||| t) + (sfT S.V t S.cnt).toNat = ky by omega, Int.toNat_of_nonneg (show 0 ≤ (sfT S.V t S.cnt) by omega)] at d1
                  exact Int.le_trans d1 (fn_mono hk.v i2 i3)
              have hx01 : 0 ≤ xx7 ∧ xx7 ≤ 1 := by rcases hxx with q | ⟨q, -⟩ <;> omega
              refine q_if_ne (tgt := 233) (pc' := 158) (dk_at dkX1_extend 82 rfl) rfl rfl (by omega) (fun c155 => ?_) (fun c155 => ?_)
              · have hI := XI_ge hI ht1 hnn hal (by omega)
                have hsn : scT S a + 1 = scT S (t + 1) := by rw [show scT S (t + 1) = if okS S t then scT S t + 1 else scT S t from rfl, if_pos hok, hsc]
                refine q_iinc (pc' := 236) (L' := [some (vR b), some (vI (depth : Int)), some (vI (dn : Int)), some (vI l), some (vI f), some (vJ s), none, some (vI (((scT S a : Nat) : Int) + 1)), some (vI (t : Int)), some (vI ((dn ||| t : Nat) : Int)), some (vI (sfT S.V t S.cnt)), some (vI (endS S t l f)), some (vJ (smT S t (endS S t l f) s S.cnt)), none]) (dk_at dkX1_extend_1 3 rfl) (by decide) rfl rfl rfl ?_
                rw [show (((scT S a : Nat) : Int) + 1) = ((((scT S a) + 1) : Nat) : Int) by omega]
                refine q_goto (tgt := 45) (dk_at dkX1_extend_1 4 rfl) rfl ?_
                rw [hsn]
                exact ih (t + 1) bs1 fc1 _ _ _ _ _ _ _ _ _ _ _ _ (by omega) (by omega) hI (by omega) hX hS hF
              · refine q_aload_n (pc' := 159) (dk_at dkX1_extend 83 rfl) rfl rfl ?_
                refine q_iload (pc' := 161) (dk_at dkX1_extend 84 rfl) rfl rfl ?_
                refine q_iload (pc' := 163) (dk_at dkX1_extend 85 rfl) rfl rfl ?_
                refine q_iload (pc' := 165) (dk_at dkX1_extend 86 rfl) rfl rfl ?_
                refine q_lload (pc' := 167) (dk_at dkX1_extend 87 rfl) rfl rfl ?_
                refine r_cVJ (pc' := 170) (As := [vI ((dn ||| t : Nat) : Int), vI (sfT S.V t S.cnt), vI (endS S t l f), vJ (smT S t (endS S t l f) s S.cnt)]) (S := []) cv_RX1_169 (dk_at dkX1_extend 88 rfl) hX.obj rfl (k_Search_boundApart (d := 2) (dn := dn ||| t) (by omega) hk hG (by omega) (by omega) (by omega) (by omega) hS hX) (by omega) (Nat.zero_le _) (Nat.zero_le _) rfl (Nat.le_of_ble_eq_true rfl) rfl (Nat.le_of_ble_eq_true rfl) rfl (fun xx9 hh10 hphh10 => ?_)
                obtain ⟨qq11, rfl⟩ := hphh10
                rw [qq11]
                have hba := baT_r hk.v hk.t (dn := dn ||| t) (last := (sfT S.V t S.cnt)) (free := (endS S t l f)) (sum := (smT S t (endS S t l f) s S.cnt)) (lo := -2000000000000) (hi := 2000000000000) (by omega) (by omega) (by omega) S.cnt
                refine q_aload_n (pc' := 171) (dk_at dkX1_extend 89 rfl) rfl rfl ?_
                refine r_getf (pc' := 174) fl_RX1_66 (dk_at dkX1_extend 90 rfl) hX.obj rfl rfl ?_
                refine q_lcmp (pc' := 175) (dk_at dkX1_extend 91 rfl) (by omega) (by omega) rfl ?_
                refine q_if_ge (tgt := 233) (pc' := 178) (dk_at dkX1_extend 92 rfl) rfl rfl (cmpz_IR _ _) (fun c175 => ?_) (fun c175 => ?_)
                · rw [cmpz_ge] at c175
                  have hI := XI_ge hI ht1 hnn hal (by omega)
                  have hsn : scT S a + 1 = scT S (t + 1) := by rw [show scT S (t + 1) = if okS S t then scT S t + 1 else scT S t from rfl, if_pos hok, hsc]
                  refine q_iinc (pc' := 236) (L' := [some (vR b), some (vI (depth : Int)), some (vI (dn : Int)), some (vI l), some (vI f), some (vJ s), none, some (vI (((scT S a : Nat) : Int) + 1)), some (vI (t : Int)), some (vI ((dn ||| t : Nat) : Int)), some (vI (sfT S.V t S.cnt)), some (vI (endS S t l f)), some (vJ (smT S t (endS S t l f) s S.cnt)), none]) (dk_at dkX1_extend_1 3 rfl) (by decide) rfl rfl rfl ?_
                  rw [show (((scT S a : Nat) : Int) + 1) = ((((scT S a) + 1) : Nat) : Int) by omega]
                  refine q_goto (tgt := 45) (dk_at dkX1_extend_1 4 rfl) rfl ?_
                  rw [hsn]
                  exact ih (t + 1) bs1 fc1 _ _ _ _ _ _ _ _ _ _ _ _ (by omega) (by omega) hI (by omega) hX hS hF
                · rw [cmpz_ge] at c175
                  refine q_aload_n (pc' := 179) (dk_at dkX1_extend 93 rfl) rfl rfl ?_
                  refine q_iload (pc' := 181) (dk_at dkX1_extend 94 rfl) rfl rfl ?_
                  refine q_iload (pc' := 183) (dk_at dkX1_extend 95 rfl) rfl rfl ?_
                  refine q_iload (pc' := 185) (dk_at dkX1_extend 96 rfl) rfl rfl ?_
                  refine q_lload (pc' := 187) (dk_at dkX1_extend 97 rfl) rfl rfl ?_
                  refine r_cVJ (pc' := 190) (As := [vI ((dn ||| t : Nat) : Int), vI (sfT S.V t S.cnt), vI (endS S t l f), vJ (smT S t (endS S t l f) s S.cnt)]) (S := []) cv_RX1_173 (dk_at dkX1_extend 98 rfl) hX.obj rfl (k_Search_boundInLine (d := 2) (dn := dn ||| t) (by omega) hk hG hrk (by omega) (by omega) (by omega) (by omega) hS hX) (by omega) (Nat.zero_le _) (Nat.zero_le _) rfl (Nat.le_of_ble_eq_true rfl) rfl (Nat.le_of_ble_eq_true rfl) rfl (fun xx12 hh13 hphh13 => ?_)
                  obtain ⟨qq14, rfl⟩ := hphh13
                  rw [qq14]
                  have hbi := bil_r hk rk (dn ||| t) (sfT S.V t S.cnt) (f := (endS S t l f)) (s := (smT S t (endS S t l f) s S.cnt)) (by omega) (by omega)
                  refine q_aload_n (pc' := 191) (dk_at dkX1_extend 99 rfl) rfl rfl ?_
                  refine r_getf (pc' := 194) fl_RX1_66 (dk_at dkX1_extend 100 rfl) hX.obj rfl rfl ?_
                  refine q_lcmp (pc' := 195) (dk_at dkX1_extend 101 rfl) (by omega) (by omega) rfl ?_
                  refine q_if_ge (tgt := 233) (pc' := 198) (dk_at dkX1_extend 102 rfl) rfl rfl (cmpz_IR _ _) (fun c195 => ?_) (fun c195 => ?_)
                  · rw [cmpz_ge] at c195
                    have hI := XI_ge hI ht1 hnn hal (by omega)
                    have hsn : scT S a + 1 = scT S (t + 1) := by rw [show scT S (t + 1) = if okS S t then scT S t + 1 else scT S t from rfl, if_pos hok, hsc]
                    refine q_iinc (pc' := 236) (L' := [some (vR b), some (vI (depth : Int)), some (vI (dn : Int)), some (vI l), some (vI f), some (vJ s), none, some (vI (((scT S a : Nat) : Int) + 1)), some (vI (t : Int)), some (vI ((dn ||| t : Nat) : Int)), some (vI (sfT S.V t S.cnt)), some (vI (endS S t l f)), some (vJ (smT S t (endS S t l f) s S.cnt)), none]) (dk_at dkX1_extend_1 3 rfl) (by decide) rfl rfl rfl ?_
                    rw [show (((scT S a : Nat) : Int) + 1) = ((((scT S a) + 1) : Nat) : Int) by omega]
                    refine q_goto (tgt := 45) (dk_at dkX1_extend_1 4 rfl) rfl ?_
                    rw [hsn]
                    exact ih (t + 1) bs1 fc1 _ _ _ _ _ _ _ _ _ _ _ _ (by omega) (by omega) hI (by omega) hX hS hF
                  · rw [cmpz_ge] at c195
                    refine q_aload_n (pc' := 199) (dk_at dkX1_extend 103 rfl) rfl rfl ?_
                    refine q_iload (pc' := 201) (dk_at dkX1_extend 104 rfl) rfl rfl ?_
                    refine q_iload (pc' := 203) (dk_at dkX1_extend 105 rfl) rfl rfl ?_
                    refine q_iload (pc' := 205) (dk_at dkX1_extend 106 rfl) rfl rfl ?_
                    refine q_lload (pc' := 207) (dk_at dkX1_extend 107 rfl) rfl rfl ?_
                    refine r_cVV (pc' := 210) (As := [vI ((dn ||| t : Nat) : Int), vI (sfT S.V t S.cnt), vI (endS S t l f), vJ (smT S t (endS S t l f) s S.cnt)]) (S := []) cv_RX1_176 (dk_at dkX1_extend 108 rfl) hX.obj rfl (k_Search_remember (d := 1) (dn := dn ||| t) (ky := ky) (k := kk) (by omega) (by omega) (by omega) hky hkk hkk3 hI.2.2.2.1.2.1 hI.2.2.2.1.2.2 (by omega) (by omega) hS hX) (by omega) (Nat.zero_le _) (Nat.zero_le _) rfl (Nat.le_of_ble_eq_true rfl) rfl (Nat.le_of_ble_eq_true rfl) rfl (fun hh16 hphh16 => ?_)
                    obtain ⟨sC2, sT2, sX2, hX, hS, hR, hGf⟩ := hphh16
                    have hF := hF.tr hGf (by omega)
                    refine q_aload_n (pc' := 211) (dk_at dkX1_extend 109 rfl) rfl rfl ?_
                    refine r_getf (pc' := 214) fl_RX1_42 (dk_at dkX1_extend 110 rfl) hX.obj rfl rfl ?_
                    refine q_iload_n (pc' := 215) (dk_at dkX1_extend 111 rfl) rfl rfl ?_
                    refine q_iload (pc' := 217) (dk_at dkX1_extend 112 rfl) rfl rfl ?_
                    refine r_iast (pc' := 218) (dk_at dkX1_extend 113 rfl) hX.chosen depth (by omega) (by omega) (by decide) rfl (fun hh17 ehh17 => ?_)
                    have hX := hX.w_chosen ehh17
                    have hS := hS.off ehh17 (by omega)
                    have hF := hF.put ehh17 (by omega)
                    refine q_aload_n (pc' := 219) (dk_at dkX1_extend 114 rfl) rfl rfl ?_
                    refine q_iload_n (pc' := 220) (dk_at dkX1_extend 115 rfl) rfl rfl ?_
                    refine q_iconst (pc' := 221) (dk_at dkX1_extend 116 rfl) rfl ?_
                    refine q_iadd (pc' := 222) (dk_at dkX1_extend 117 rfl) rfl ?_
                    rw [show ((depth : Int) + 1) = ((depth + 1 : Nat) : Int) by omega]
                    refine q_iload (pc' := 224) (dk_at dkX1_extend 118 rfl) rfl rfl ?_
                    refine q_iload (pc' := 226) (dk_at dkX1_extend 119 rfl) rfl rfl ?_
                    refine q_iload (pc' := 228) (dk_at dkX1_extend_1 0 rfl) rfl rfl ?_
                    refine q_lload (pc' := 230) (dk_at dkX1_extend_1 1 rfl) rfl rfl ?_
                    refine r_cSV (pc' := 233) (As := [vR b, vI ((depth + 1 : Nat) : Int), vI ((dn ||| t : Nat) : Int), vI (sfT S.V t S.cnt), vI (endS S t l f), vJ (smT S t (endS S t l f) s S.cnt)]) (S := []) cs_RX1_105 (dk_at dkX1_extend_1 2 rfl) (hrec _ _ _ _ _ _ _ _ _ _ _ _ (Pre_rec hk hp hna hI ht2 hal hb hky hR (by omega)) hX hS) hd1 (Nat.zero_le _) (Nat.zero_le _) rfl (Nat.le_of_ble_eq_true rfl) rfl (Nat.le_of_ble_eq_true rfl) rfl (fun hh19 hphh19 => ?_)
                    obtain ⟨bs3, fc3, ch3, fo3, sC3, sT3, sX3, hX, hS, hXR, hGf⟩ := hphh19
                    have hF := hF.tr hGf (by omega)
                    have hb3 : bs3 = min bs1 (Fx S fi dn l f s t) := hXR.1
                    have hI := XI_rec hk hp hna hI ht1 hnn ht2 hal (by omega) hky hkk hR hXR
                    have hsn : scT S a + 1 = scT S (t + 1) := by rw [show scT S (t + 1) = if okS S t then scT S t + 1 else scT S t from rfl, if_pos hok, hsc]
                    refine q_iinc (pc' := 236) (L' := [some (vR b), some (vI (depth : Int)), some (vI (dn : Int)), some (vI l), some (vI f), some (vJ s), none, some (vI (((scT S a : Nat) : Int) + 1)), some (vI (t : Int)), some (vI ((dn ||| t : Nat) : Int)), some (vI (sfT S.V t S.cnt)), some (vI (endS S t l f)), some (vJ (smT S t (endS S t l f) s S.cnt)), none]) (dk_at dkX1_extend_1 3 rfl) (by decide) rfl rfl rfl ?_
                    rw [show (((scT S a : Nat) : Int) + 1) = ((((scT S a) + 1) : Nat) : Int) by omega]
                    refine q_goto (tgt := 45) (dk_at dkX1_extend_1 4 rfl) rfl ?_
                    rw [hsn]
                    exact ih (t + 1) bs3 fc3 _ _ _ _ _ _ _ _ _ _ _ _ (by omega) (by omega) hI (by omega) hX hS hF
          · refine q_aload_n (pc' := 87) (dk_at dkX1_extend 46 rfl) rfl rfl ?_
            refine q_iload (pc' := 89) (dk_at dkX1_extend 47 rfl) rfl rfl ?_
            refine r_cVI (pc' := 92) (As := [vI (t : Int)]) (S := []) cv_RX1_153 (dk_at dkX1_extend 48 rfl) hX.obj rfl (k_Search_canBeFirst (d := 0) (s := t) hfi (by omega) hX) (by omega) (Nat.zero_le _) (Nat.zero_le _) rfl (Nat.le_of_ble_eq_true rfl) rfl (Nat.le_of_ble_eq_true rfl) rfl (fun xx20 hh21 hphh21 => ?_)
            obtain ⟨qq, hxx⟩ := hphh21
            rw [qq]
            have hx2 : (xx20 = 1 ∧ (fi = -1 ∨ t / 2 ^ fi.toNat % 2 = 1)) ∨ (xx20 = 0 ∧ ¬ (fi = -1 ∨ t / 2 ^ fi.toNat % 2 = 1)) := by
              by_cases z : fi = -1 ∨ t / 2 ^ fi.toNat % 2 = 1
              · rw [if_pos z] at hxx; exact Or.inl ⟨hxx, z⟩
              · rw [if_neg z] at hxx; exact Or.inr ⟨hxx, z⟩
            refine q_if_eq (tgt := 233) (pc' := 95) (dk_at dkX1_extend 49 rfl) rfl rfl (by omega) (fun c92 => ?_) (fun c92 => ?_)
            · have hI := XI_no hI ht1 hnn (alw_f (fi := fi) (dn := dn) (s := t) (by omega))
              have hsn : scT S a + 1 = scT S (t + 1) := by rw [show scT S (t + 1) = if okS S t then scT S t + 1 else scT S t from rfl, if_pos hok, hsc]
              refine q_iinc (pc' := 236) (L' := [some (vR b), some (vI (depth : Int)), some (vI (dn : Int)), some (vI l), some (vI f), some (vJ s), none, some (vI (((scT S a : Nat) : Int) + 1)), some (vI (t : Int)), x9, x10, x11, x12, x13]) (dk_at dkX1_extend_1 3 rfl) (by decide) rfl rfl rfl ?_
              rw [show (((scT S a : Nat) : Int) + 1) = ((((scT S a) + 1) : Nat) : Int) by omega]
              refine q_goto (tgt := 45) (dk_at dkX1_extend_1 4 rfl) rfl ?_
              rw [hsn]
              exact ih (t + 1) bs1 fc1 _ _ _ _ _ _ _ _ _ _ _ _ (by omega) (by omega) hI (by omega) hX hS hF
            · have hdis : t &&& dn = 0 := by omega
              have hal : alw S fi dn t = true := alw_mk hok hdis (by omega)
              have hor := or_gt (S := S) t0 hdis ht2
              have hol := or_lt hdn ht2
              refine q_iload_n (pc' := 96) (dk_at dkX1_extend 50 rfl) rfl rfl ?_
              refine q_iload (pc' := 98) (dk_at dkX1_extend 51 rfl) rfl rfl ?_
              refine q_ior (pc' := 99) (dk_at dkX1_extend 52 rfl) (by omega) (by omega) rfl ?_
              rw [show ((((dn : Int)).toNat ||| ((t : Int)).toNat : Nat) : Int) = ((dn ||| t : Nat) : Int) from nt_or dn t]
              refine q_istore (pc' := 101) (L' := [some (vR b), some (vI (depth : Int)), some (vI (dn : Int)), some (vI l), some (vI f), some (vJ s), none, some (vI ((scT S a : Nat) : Int)), some (vI (t : Int)), some (vI ((dn ||| t : Nat) : Int)), x10, x11, x12, x13]) (dk_at dkX1_extend 53 rfl) (by decide) rfl rfl ?_
              refine q_aload_n (pc' := 102) (dk_at dkX1_extend 54 rfl) rfl rfl ?_
              refine r_getf (pc' := 105) fl_RX1_22 (dk_at dkX1_extend 55 rfl) hX.obj rfl rfl ?_
              refine q_iload (pc' := 107) (dk_at dkX1_extend 56 rfl) rfl rfl ?_
              refine r_iald (pc' := 108) (dk_at dkX1_extend 57 rfl) hX.familyOf t (by omega) (by omega) (by decide) rfl ?_
              rw [hds1]
              refine q_istore (pc' := 110) (L' := [some (vR b), some (vI (depth : Int)), some (vI (dn : Int)), some (vI l), some (vI f), some (vJ s), none, some (vI ((scT S a : Nat) : Int)), some (vI (t : Int)), some (vI ((dn ||| t : Nat) : Int)), some (vI (sfT S.V t S.cnt)), x11, x12, x13]) (dk_at dkX1_extend 58 rfl) (by decide) rfl rfl ?_
              refine q_aload_n (pc' := 111) (dk_at dkX1_extend 59 rfl) rfl rfl ?_
              refine q_iload (pc' := 113) (dk_at dkX1_extend 60 rfl) rfl rfl ?_
              refine q_iload_n (pc' := 114) (dk_at dkX1_extend 61 rfl) rfl rfl ?_
              refine q_iload (pc' := 116) (dk_at dkX1_extend 62 rfl) rfl rfl ?_
              refine r_cVI (pc' := 119) (As := [vI (t : Int), vI l, vI f]) (S := []) cv_RX1_157 (dk_at dkX1_extend 63 rfl) hX.obj rfl (k_Search_endOf (d := 1) (by omega) hk hG (by omega) hl (by omega) hds1 hds2 hds3 (by omega) hS hX) (by omega) (Nat.zero_le _) (Nat.zero_le _) rfl (Nat.le_of_ble_eq_true rfl) rfl (Nat.le_of_ble_eq_true rfl) rfl (fun xx22 hh23 hphh23 => ?_)
              obtain ⟨qq24, rfl⟩ := hphh23
              rw [qq24]
              have hen := endS_r hk t l (f := f) (B := 4000) (by omega) (by omega)
              refine q_istore (pc' := 121) (L' := [some (vR b), some (vI (depth : Int)), some (vI (dn : Int)), some (vI l), some (vI f), some (vJ s), none, some (vI ((scT S a : Nat) : Int)), some (vI (t : Int)), some (vI ((dn ||| t : Nat) : Int)), some (vI (sfT S.V t S.cnt)), some (vI (endS S t l f)), x12, x13]) (dk_at dkX1_extend 64 rfl) (by decide) rfl rfl ?_
              refine q_aload_n (pc' := 122) (dk_at dkX1_extend 65 rfl) rfl rfl ?_
              refine q_iload (pc' := 124) (dk_at dkX1_extend 66 rfl) rfl rfl ?_
              refine q_iload (pc' := 126) (dk_at dkX1_extend 67 rfl) rfl rfl ?_
              refine q_lload (pc' := 128) (dk_at dkX1_extend 68 rfl) rfl rfl ?_
              refine r_cVJ (pc' := 131) (As := [vI (t : Int), vI (endS S t l f), vJ s]) (S := []) cv_RX1_161 (dk_at dkX1_extend 69 rfl) hX.obj rfl (k_Search_sumWith (d := 2) (by omega) hk (by omega) (by omega) (by omega) hS hX) (by omega) (Nat.zero_le _) (Nat.zero_le _) rfl (Nat.le_of_ble_eq_true rfl) rfl (Nat.le_of_ble_eq_true rfl) rfl (fun xx25 hh26 hphh26 => ?_)
              obtain ⟨qq27, rfl⟩ := hphh26
              rw [qq27]
              have hco := smT_small hk (t := t) (en := endS S t l f) (s := s) (lo := -1100000000000) (hi := 40000000000) (by omega) (by omega) (by omega) (by omega) S.cnt
              refine q_lstore (pc' := 133) (L' := [some (vR b), some (vI (depth : Int)), some (vI (dn : Int)), some (vI l), some (vI f), some (vJ s), none, some (vI ((scT S a : Nat) : Int)), some (vI (t : Int)), some (vI ((dn ||| t : Nat) : Int)), some (vI (sfT S.V t S.cnt)), some (vI (endS S t l f)), some (vJ (smT S t (endS S t l f) s S.cnt)), none]) (dk_at dkX1_extend 70 rfl) (by decide) rfl rfl ?_
              have hc8 := hk.c
              have hF1 : min (smT S t (endS S t l f) s S.cnt) INF ≤ Fx S fi dn l f s t := fin_sum hk 8 _ _ _ _ hen.1
              have hF2 : min (baT S (dn ||| t) (sfT S.V t S.cnt) (endS S t l f) (smT S t (endS S t l f) s S.cnt) S.cnt) INF ≤ Fx S fi dn l f s t := fin_ba hk 8 _ _ _ _ hen.1 (sf_ex hk ht2 hok)
              have hF3 : min (bil S rk (dn ||| t) (sfT S.V t S.cnt) (endS S t l f) (smT S t (endS S t l f) s S.cnt)) INF ≤ Fx S fi dn l f s t := fin_bil hk hRk 8 _ _ _ _ hen.1
              obtain ⟨ky, hky⟩ : ∃ ky : Nat, (ky : Int) = 4 * ((dn ||| t : Nat) : Int) + (sfT S.V t S.cnt) := ⟨4 * (dn ||| t) + (sfT S.V t S.cnt).toNat, by omega⟩
              obtain ⟨kk, hkk3, hkk⟩ := hI.2.2.2.1.1 ky (by omega)
              refine q_lload (pc' := 135) (dk_at dkX1_extend 71 rfl) rfl rfl ?_
              refine q_aload_n (pc' := 136) (dk_at dkX1_extend 72 rfl) rfl rfl ?_
              refine r_getf (pc' := 139) fl_RX1_66 (dk_at dkX1_extend 73 rfl) hX.obj rfl rfl ?_
              refine q_lcmp (pc' := 140) (dk_at dkX1_extend 74 rfl) (by omega) (by omega) rfl ?_
              refine q_if_ge (tgt := 233) (pc' := 143) (dk_at dkX1_extend 75 rfl) rfl rfl (cmpz_IR _ _) (fun c140 => ?_) (fun c140 => ?_)
              · rw [cmpz_ge] at c140
                have hI := XI_ge hI ht1 hnn hal (by omega)
                have hsn : scT S a + 1 = scT S (t + 1) := by rw [show scT S (t + 1) = if okS S t then scT S t + 1 else scT S t from rfl, if_pos hok, hsc]
                refine q_iinc (pc' := 236) (L' := [some (vR b), some (vI (depth : Int)), some (vI (dn : Int)), some (vI l), some (vI f), some (vJ s), none, some (vI (((scT S a : Nat) : Int) + 1)), some (vI (t : Int)), some (vI ((dn ||| t : Nat) : Int)), some (vI (sfT S.V t S.cnt)), some (vI (endS S t l f)), some (vJ (smT S t (endS S t l f) s S.cnt)), none]) (dk_at dkX1_extend_1 3 rfl) (by decide) rfl rfl rfl ?_
                rw [show (((scT S a : Nat) : Int) + 1) = ((((scT S a) + 1) : Nat) : Int) by omega]
                refine q_goto (tgt := 45) (dk_at dkX1_extend_1 4 rfl) rfl ?_
                rw [hsn]
                exact ih (t + 1) bs1 fc1 _ _ _ _ _ _ _ _ _ _ _ _ (by omega) (by omega) hI (by omega) hX hS hF
              · rw [cmpz_ge] at c140
                refine q_aload_n (pc' := 144) (dk_at dkX1_extend 76 rfl) rfl rfl ?_
                refine q_iload (pc' := 146) (dk_at dkX1_extend 77 rfl) rfl rfl ?_
                refine q_iload (pc' := 148) (dk_at dkX1_extend 78 rfl) rfl rfl ?_
                refine q_iload (pc' := 150) (dk_at dkX1_extend 79 rfl) rfl rfl ?_
                refine q_lload (pc' := 152) (dk_at dkX1_extend 80 rfl) rfl rfl ?_
                refine r_cVI (pc' := 155) (As := [vI ((dn ||| t : Nat) : Int), vI (sfT S.V t S.cnt), vI (endS S t l f), vJ (smT S t (endS S t l f) s S.cnt)]) (S := []) cv_RX1_165 (dk_at dkX1_extend 81 rfl) hX.obj rfl (k_Search_isOutdone (d := 0) (dn := dn ||| t) (ky := ky) (k := kk) (by omega) (by omega) hky hkk hkk3 hI.2.2.2.1.2.1 hI.2.2.2.1.2.2 (by omega) (by omega) hX) (by omega) (Nat.zero_le _) (Nat.zero_le _) rfl (Nat.le_of_ble_eq_true rfl) rfl (Nat.le_of_ble_eq_true rfl) rfl (fun xx28 hh29 hphh29 => ?_)
                obtain ⟨qq, hxx⟩ := hphh29
                rw [qq]
                have hF4 : xx28 = 0 ∨ bs1 ≤ Fx S fi dn l f s t := by
                  rcases hxx with q | ⟨q, i, i1, i2, i3⟩
                  · exact Or.inl q
                  · right
                    have d1 := hI.2.2.2.2.1 (dn ||| t) ((sfT S.V t S.cnt).toNat) hor hol (by omega) i (by rw [show 4 * (dn ||| t) + (sfT S.V t S.cnt).toNat = ky by omega, hkk]; omega)
                    rw [show 4 * (dn ||| t) + (sfT S.V t S.cnt).toNat = ky by omega, Int.toNat_of_nonneg (show 0 ≤ (sfT S.V t S.cnt) by omega)] at d1
                    exact Int.le_trans d1 (fn_mono hk.v i2 i3)
                have hx01 : 0 ≤ xx28 ∧ xx28 ≤ 1 := by rcases hxx with q | ⟨q, -⟩ <;> omega
                refine q_if_ne (tgt := 233) (pc' := 158) (dk_at dkX1_extend 82 rfl) rfl rfl (by omega) (fun c155 => ?_) (fun c155 => ?_)
                · have hI := XI_ge hI ht1 hnn hal (by omega)
                  have hsn : scT S a + 1 = scT S (t + 1) := by rw [show scT S (t + 1) = if okS S t then scT S t + 1 else scT S t from rfl, if_pos hok, hsc]
                  refine q_iinc (pc' := 236) (L' := [some (vR b), some (vI (depth : Int)), some (vI (dn : Int)), some (vI l), some (vI f), some (vJ s), none, some (vI (((scT S a : Nat) : Int) + 1)), some (vI (t : Int)), some (vI ((dn ||| t : Nat) : Int)), some (vI (sfT S.V t S.cnt)), some (vI (endS S t l f)), some (vJ (smT S t (endS S t l f) s S.cnt)), none]) (dk_at dkX1_extend_1 3 rfl) (by decide) rfl rfl rfl ?_
                  rw [show (((scT S a : Nat) : Int) + 1) = ((((scT S a) + 1) : Nat) : Int) by omega]
                  refine q_goto (tgt := 45) (dk_at dkX1_extend_1 4 rfl) rfl ?_
                  rw [hsn]
                  exact ih (t + 1) bs1 fc1 _ _ _ _ _ _ _ _ _ _ _ _ (by omega) (by omega) hI (by omega) hX hS hF
                · refine q_aload_n (pc' := 159) (dk_at dkX1_extend 83 rfl) rfl rfl ?_
                  refine q_iload (pc' := 161) (dk_at dkX1_extend 84 rfl) rfl rfl ?_
                  refine q_iload (pc' := 163) (dk_at dkX1_extend 85 rfl) rfl rfl ?_
                  refine q_iload (pc' := 165) (dk_at dkX1_extend 86 rfl) rfl rfl ?_
                  refine q_lload (pc' := 167) (dk_at dkX1_extend 87 rfl) rfl rfl ?_
                  refine r_cVJ (pc' := 170) (As := [vI ((dn ||| t : Nat) : Int), vI (sfT S.V t S.cnt), vI (endS S t l f), vJ (smT S t (endS S t l f) s S.cnt)]) (S := []) cv_RX1_169 (dk_at dkX1_extend 88 rfl) hX.obj rfl (k_Search_boundApart (d := 2) (dn := dn ||| t) (by omega) hk hG (by omega) (by omega) (by omega) (by omega) hS hX) (by omega) (Nat.zero_le _) (Nat.zero_le _) rfl (Nat.le_of_ble_eq_true rfl) rfl (Nat.le_of_ble_eq_true rfl) rfl (fun xx30 hh31 hphh31 => ?_)
                  obtain ⟨qq32, rfl⟩ := hphh31
                  rw [qq32]
                  have hba := baT_r hk.v hk.t (dn := dn ||| t) (last := (sfT S.V t S.cnt)) (free := (endS S t l f)) (sum := (smT S t (endS S t l f) s S.cnt)) (lo := -2000000000000) (hi := 2000000000000) (by omega) (by omega) (by omega) S.cnt
                  refine q_aload_n (pc' := 171) (dk_at dkX1_extend 89 rfl) rfl rfl ?_
                  refine r_getf (pc' := 174) fl_RX1_66 (dk_at dkX1_extend 90 rfl) hX.obj rfl rfl ?_
                  refine q_lcmp (pc' := 175) (dk_at dkX1_extend 91 rfl) (by omega) (by omega) rfl ?_
                  refine q_if_ge (tgt := 233) (pc' := 178) (dk_at dkX1_extend 92 rfl) rfl rfl (cmpz_IR _ _) (fun c175 => ?_) (fun c175 => ?_)
                  · rw [cmpz_ge] at c175
                    have hI := XI_ge hI ht1 hnn hal (by omega)
                    have hsn : scT S a + 1 = scT S (t + 1) := by rw [show scT S (t + 1) = if okS S t then scT S t + 1 else scT S t from rfl, if_pos hok, hsc]
                    refine q_iinc (pc' := 236) (L' := [some (vR b), some (vI (depth : Int)), some (vI (dn : Int)), some (vI l), some (vI f), some (vJ s), none, some (vI (((scT S a : Nat) : Int) + 1)), some (vI (t : Int)), some (vI ((dn ||| t : Nat) : Int)), some (vI (sfT S.V t S.cnt)), some (vI (endS S t l f)), some (vJ (smT S t (endS S t l f) s S.cnt)), none]) (dk_at dkX1_extend_1 3 rfl) (by decide) rfl rfl rfl ?_
                    rw [show (((scT S a : Nat) : Int) + 1) = ((((scT S a) + 1) : Nat) : Int) by omega]
                    refine q_goto (tgt := 45) (dk_at dkX1_extend_1 4 rfl) rfl ?_
                    rw [hsn]
                    exact ih (t + 1) bs1 fc1 _ _ _ _ _ _ _ _ _ _ _ _ (by omega) (by omega) hI (by omega) hX hS hF
                  · rw [cmpz_ge] at c175
                    refine q_aload_n (pc' := 179) (dk_at dkX1_extend 93 rfl) rfl rfl ?_
                    refine q_iload (pc' := 181) (dk_at dkX1_extend 94 rfl) rfl rfl ?_
                    refine q_iload (pc' := 183) (dk_at dkX1_extend 95 rfl) rfl rfl ?_
                    refine q_iload (pc' := 185) (dk_at dkX1_extend 96 rfl) rfl rfl ?_
                    refine q_lload (pc' := 187) (dk_at dkX1_extend 97 rfl) rfl rfl ?_
                    refine r_cVJ (pc' := 190) (As := [vI ((dn ||| t : Nat) : Int), vI (sfT S.V t S.cnt), vI (endS S t l f), vJ (smT S t (endS S t l f) s S.cnt)]) (S := []) cv_RX1_173 (dk_at dkX1_extend 98 rfl) hX.obj rfl (k_Search_boundInLine (d := 2) (dn := dn ||| t) (by omega) hk hG hrk (by omega) (by omega) (by omega) (by omega) hS hX) (by omega) (Nat.zero_le _) (Nat.zero_le _) rfl (Nat.le_of_ble_eq_true rfl) rfl (Nat.le_of_ble_eq_true rfl) rfl (fun xx33 hh34 hphh34 => ?_)
                    obtain ⟨qq35, rfl⟩ := hphh34
                    rw [qq35]
                    have hbi := bil_r hk rk (dn ||| t) (sfT S.V t S.cnt) (f := (endS S t l f)) (s := (smT S t (endS S t l f) s S.cnt)) (by omega) (by omega)
                    refine q_aload_n (pc' := 191) (dk_at dkX1_extend 99 rfl) rfl rfl ?_
                    refine r_getf (pc' := 194) fl_RX1_66 (dk_at dkX1_extend 100 rfl) hX.obj rfl rfl ?_
                    refine q_lcmp (pc' := 195) (dk_at dkX1_extend 101 rfl) (by omega) (by omega) rfl ?_
                    refine q_if_ge (tgt := 233) (pc' := 198) (dk_at dkX1_extend 102 rfl) rfl rfl (cmpz_IR _ _) (fun c195 => ?_) (fun c195 => ?_)
                    · rw [cmpz_ge] at c195
                      have hI := XI_ge hI ht1 hnn hal (by omega)
                      have hsn : scT S a + 1 = scT S (t + 1) := by rw [show scT S (t + 1) = if okS S t then scT S t + 1 else scT S t from rfl, if_pos hok, hsc]
                      refine q_iinc (pc' := 236) (L' := [some (vR b), some (vI (depth : Int)), some (vI (dn : Int)), some (vI l), some (vI f), some (vJ s), none, some (vI (((scT S a : Nat) : Int) + 1)), some (vI (t : Int)), some (vI ((dn ||| t : Nat) : Int)), some (vI (sfT S.V t S.cnt)), some (vI (endS S t l f)), some (vJ (smT S t (endS S t l f) s S.cnt)), none]) (dk_at dkX1_extend_1 3 rfl) (by decide) rfl rfl rfl ?_
                      rw [show (((scT S a : Nat) : Int) + 1) = ((((scT S a) + 1) : Nat) : Int) by omega]
                      refine q_goto (tgt := 45) (dk_at dkX1_extend_1 4 rfl) rfl ?_
                      rw [hsn]
                      exact ih (t + 1) bs1 fc1 _ _ _ _ _ _ _ _ _ _ _ _ (by omega) (by omega) hI (by omega) hX hS hF
                    · rw [cmpz_ge] at c195
                      refine q_aload_n (pc' := 199) (dk_at dkX1_extend 103 rfl) rfl rfl ?_
                      refine q_iload (pc' := 201) (dk_at dkX1_extend 104 rfl) rfl rfl ?_
                      refine q_iload (pc' := 203) (dk_at dkX1_extend 105 rfl) rfl rfl ?_
                      refine q_iload (pc' := 205) (dk_at dkX1_extend 106 rfl) rfl rfl ?_
                      refine q_lload (pc' := 207) (dk_at dkX1_extend 107 rfl) rfl rfl ?_
                      refine r_cVV (pc' := 210) (As := [vI ((dn ||| t : Nat) : Int), vI (sfT S.V t S.cnt), vI (endS S t l f), vJ (smT S t (endS S t l f) s S.cnt)]) (S := []) cv_RX1_176 (dk_at dkX1_extend 108 rfl) hX.obj rfl (k_Search_remember (d := 1) (dn := dn ||| t) (ky := ky) (k := kk) (by omega) (by omega) (by omega) hky hkk hkk3 hI.2.2.2.1.2.1 hI.2.2.2.1.2.2 (by omega) (by omega) hS hX) (by omega) (Nat.zero_le _) (Nat.zero_le _) rfl (Nat.le_of_ble_eq_true rfl) rfl (Nat.le_of_ble_eq_true rfl) rfl (fun hh37 hphh37 => ?_)
                      obtain ⟨sC2, sT2, sX2, hX, hS, hR, hGf⟩ := hphh37
                      have hF := hF.tr hGf (by omega)
                      refine q_aload_n (pc' := 211) (dk_at dkX1_extend 109 rfl) rfl rfl ?_
                      refine r_getf (pc' := 214) fl_RX1_42 (dk_at dkX1_extend 110 rfl) hX.obj rfl rfl ?_
                      refine q_iload_n (pc' := 215) (dk_at dkX1_extend 111 rfl) rfl rfl ?_
                      refine q_iload (pc' := 217) (dk_at dkX1_extend 112 rfl) rfl rfl ?_
                      refine r_iast (pc' := 218) (dk_at dkX1_extend 113 rfl) hX.chosen depth (by omega) (by omega) (by decide) rfl (fun hh38 ehh38 => ?_)
                      have hX := hX.w_chosen ehh38
                      have hS := hS.off ehh38 (by omega)
                      have hF := hF.put ehh38 (by omega)
                      refine q_aload_n (pc' := 219) (dk_at dkX1_extend 114 rfl) rfl rfl ?_
                      refine q_iload_n (pc' := 220) (dk_at dkX1_extend 115 rfl) rfl rfl ?_
                      refine q_iconst (pc' := 221) (dk_at dkX1_extend 116 rfl) rfl ?_
                      refine q_iadd (pc' := 222) (dk_at dkX1_extend 117 rfl) rfl ?_
                      rw [show ((depth : Int) + 1) = ((depth + 1 : Nat) : Int) by omega]
                      refine q_iload (pc' := 224) (dk_at dkX1_extend 118 rfl) rfl rfl ?_
                      refine q_iload (pc' := 226) (dk_at dkX1_extend 119 rfl) rfl rfl ?_
                      refine q_iload (pc' := 228) (dk_at dkX1_extend_1 0 rfl) rfl rfl ?_
                      refine q_lload (pc' := 230) (dk_at dkX1_extend_1 1 rfl) rfl rfl ?_
                      refine r_cSV (pc' := 233) (As := [vR b, vI ((depth + 1 : Nat) : Int), vI ((dn ||| t : Nat) : Int), vI (sfT S.V t S.cnt), vI (endS S t l f), vJ (smT S t (endS S t l f) s S.cnt)]) (S := []) cs_RX1_105 (dk_at dkX1_extend_1 2 rfl) (hrec _ _ _ _ _ _ _ _ _ _ _ _ (Pre_rec hk hp hna hI ht2 hal hb hky hR (by omega)) hX hS) hd1 (Nat.zero_le _) (Nat.zero_le _) rfl (Nat.le_of_ble_eq_true rfl) rfl (Nat.le_of_ble_eq_true rfl) rfl (fun hh40 hphh40 => ?_)
                      obtain ⟨bs3, fc3, ch3, fo3, sC3, sT3, sX3, hX, hS, hXR, hGf⟩ := hphh40
                      have hF := hF.tr hGf (by omega)
                      have hb3 : bs3 = min bs1 (Fx S fi dn l f s t) := hXR.1
                      have hI := XI_rec hk hp hna hI ht1 hnn ht2 hal (by omega) hky hkk hR hXR
                      have hsn : scT S a + 1 = scT S (t + 1) := by rw [show scT S (t + 1) = if okS S t then scT S t + 1 else scT S t from rfl, if_pos hok, hsc]
                      refine q_iinc (pc' := 236) (L' := [some (vR b), some (vI (depth : Int)), some (vI (dn : Int)), some (vI l), some (vI f), some (vJ s), none, some (vI (((scT S a : Nat) : Int) + 1)), some (vI (t : Int)), some (vI ((dn ||| t : Nat) : Int)), some (vI (sfT S.V t S.cnt)), some (vI (endS S t l f)), some (vJ (smT S t (endS S t l f) s S.cnt)), none]) (dk_at dkX1_extend_1 3 rfl) (by decide) rfl rfl rfl ?_
                      rw [show (((scT S a : Nat) : Int) + 1) = ((((scT S a) + 1) : Nat) : Int) by omega]
                      refine q_goto (tgt := 45) (dk_at dkX1_extend_1 4 rfl) rfl ?_
                      rw [hsn]
                      exact ih (t + 1) bs3 fc3 _ _ _ _ _ _ _ _ _ _ _ _ (by omega) (by omega) hI (by omega) hX hS hF

set_option maxHeartbeats 4000000 in
set_option maxRecDepth 100000 in
theorem k_Search_extend {n b : Nat} {S : Shp} {fi fl : Int} {st fa re wo lg rk : Nat → Int} {G : Nat → Nat → Int} {k : Nat} (hk : Sok S) (hG : Gok S G lg) (hRk : Rkd S rk) (hrk : ∀ j, 0 ≤ rk j ∧ rk j ≤ 7) (hsets : Sets S (2 ^ S.cnt) k st fa re wo) (hfi : -1 ≤ fi ∧ fi ≤ 7) (hflr : -4000000000000 ≤ fl ∧ fl ≤ INF) : ∀ (c depth dn : Nat) (l f s bs fc : Int) (ch fo sC sT sX : Nat → Int) (h : PH) (d : Nat), depth + c = 8 → 3 + c ≤ d → PreX S fi fl depth dn l f s bs sC sT sX → isSearch n h b ((alS S : Nat) : Int) fi bs fl (k : Int) st fa re wo G lg rk ch fo fc sC sT sX → isShp n h (b + 1) S → CtrV mX1_extend d [vR b, vI (depth : Int), vI (dn : Int), vI l, vI f, vJ s] n h (fun h' => ∃ (bs' fc' : Int) (ch' fo' sC' sT' sX' : Nat → Int), isSearch n h' b ((alS S : Nat) : Int) fi bs' fl (k : Int) st fa re wo G lg rk ch' fo' fc' sC' sT' sX' ∧ isShp n h' (b + 1) S ∧ XR S fi fl depth dn l f s bs ch sC sT sX bs' fc' ch' fo' sC' sT' sX' ∧ Fr h h' b (b + 31)) := by
  intro c
  induction c with
  | zero =>
    intro depth dn l f s bs fc ch fo sC sT sX h d hcd hd hp hX hS
    have hp8 := nt_pow_r hk.c
    obtain ⟨hdn, hdep, hz, hl, hf, hs, hbb, hba, hfl, hsn, hdm⟩ := id hp
    have hc8 := hk.c
    have hF : Fr h h b (b + 31) := Fr.rf
    have hal : dn = alS S ∨ depth < 8 := by
      by_cases q : depth < 8
      · exact Or.inr q
      · left; exact rmT_zero hdn (by omega)
    have hals : alS S < 2 ^ S.cnt := by unfold alS; omega
    refine q_beginV (L := [some (vR b), some (vI (depth : Int)), some (vI (dn : Int)), some (vI l), some (vI f), some (vJ s), none, none, none, none, none, none, none, none]) rfl ?_
    refine q_iload_n (pc' := 1) (dk_at dkX1_extend 0 rfl) rfl rfl ?_
    refine q_aload_n (pc' := 2) (dk_at dkX1_extend 1 rfl) rfl rfl ?_
    refine r_getf (pc' := 5) fl_RX1_79 (dk_at dkX1_extend 2 rfl) hX.obj rfl rfl ?_
    refine q_icmp_ne (tgt := 35) (pc' := 8) (dk_at dkX1_extend 3 rfl) rfl rfl (by omega) (by omega) (fun c5 => ?_) (fun c5 => ?_)
    · refine q_iload_n (pc' := 36) (dk_at dkX1_extend 19 rfl) rfl rfl ?_
      refine q_bipush (pc' := 38) (dk_at dkX1_extend 20 rfl) (by decide +kernel) rfl ?_
      refine q_icmp_lt (tgt := 42) (pc' := 41) (dk_at dkX1_extend 21 rfl) rfl rfl (by omega) (by omega) (fun c38 => ?_) (fun c38 => ?_)
      · refine q_iconst (pc' := 43) (dk_at dkX1_extend 23 rfl) rfl ?_
        refine q_istore (pc' := 45) (L' := [some (vR b), some (vI (depth : Int)), some (vI (dn : Int)), some (vI l), some (vI f), some (vJ s), none, some (vI 0), none, none, none, none, none, none]) (dk_at dkX1_extend 24 rfl) (by decide) rfl rfl ?_
        exfalso; omega
      · refine r_vret rfl (dk_at dkX1_extend 22 rfl) ?_
        first | (exfalso; omega; done) | exact ⟨s, (depth : Int), ch, ch, sC, sT, sX, hX, hS, XR_all hp (by omega), hF⟩
    · refine q_aload_n (pc' := 9) (dk_at dkX1_extend 4 rfl) rfl rfl ?_
      refine q_lload (pc' := 11) (dk_at dkX1_extend 5 rfl) rfl rfl ?_
      refine r_putf (pc' := 14) fp_RX1_66 (dk_at dkX1_extend 6 rfl) hX.obj (Nat.le_of_ble_eq_true rfl) (PT_long _) rfl (fun hh1 ehh1 => ?_)
      have hX := hX.w_obj ehh1
      have hS := hS.off ehh1 (by omega)
      have hF := hF.put ehh1 (by omega)
      refine q_aload_n (pc' := 15) (dk_at dkX1_extend 7 rfl) rfl rfl ?_
      refine q_iload_n (pc' := 16) (dk_at dkX1_extend 8 rfl) rfl rfl ?_
      refine r_putf (pc' := 19) fp_RX1_73 (dk_at dkX1_extend 9 rfl) hX.obj (Nat.le_of_ble_eq_true rfl) (PT_int _) rfl (fun hh2 ehh2 => ?_)
      have hX := hX.w_obj ehh2
      have hS := hS.off ehh2 (by omega)
      have hF := hF.put ehh2 (by omega)
      refine q_aload_n (pc' := 20) (dk_at dkX1_extend 10 rfl) rfl rfl ?_
      refine r_getf (pc' := 23) fl_RX1_42 (dk_at dkX1_extend 11 rfl) hX.obj rfl rfl ?_
      refine q_iconst (pc' := 24) (dk_at dkX1_extend 12 rfl) rfl ?_
      refine q_aload_n (pc' := 25) (dk_at dkX1_extend 13 rfl) rfl rfl ?_
      refine r_getf (pc' := 28) fl_RX1_45 (dk_at dkX1_extend 14 rfl) hX.obj rfl rfl ?_
      refine q_iconst (pc' := 29) (dk_at dkX1_extend 15 rfl) rfl ?_
      refine q_bipush (pc' := 31) (dk_at dkX1_extend 16 rfl) (by decide +kernel) rfl ?_
      refine r_copyA (pc' := 34) jc_RX1_128 (dk_at dkX1_extend 17 rfl) hX.chosen hX.found rfl (by decide) (by decide) (by omega) (Nat.le_of_ble_eq_true rfl) rfl (fun hh3 ehh3 => ?_)
      have hX := hX.w_found ehh3
      have hS := hS.off ehh3 (by omega)
      have hF := hF.put ehh3 (by omega)
      refine r_vret rfl (dk_at dkX1_extend 18 rfl) ?_
      first | (exfalso; omega; done) | exact ⟨s, (depth : Int), ch, ch, sC, sT, sX, hX, hS, XR_all hp (by omega), hF⟩
  | succ c ih =>
    intro depth dn l f s bs fc ch fo sC sT sX h d hcd hd hp hX hS
    have hp8 := nt_pow_r hk.c
    obtain ⟨hdn, hdep, hz, hl, hf, hs, hbb, hba, hfl, hsn, hdm⟩ := id hp
    have hc8 := hk.c
    have hF : Fr h h b (b + 31) := Fr.rf
    have hal : dn = alS S ∨ depth < 8 := by
      by_cases q : depth < 8
      · exact Or.inr q
      · left; exact rmT_zero hdn (by omega)
    have hals : alS S < 2 ^ S.cnt := by unfold alS; omega
    refine q_beginV (L := [some (vR b), some (vI (depth : Int)), some (vI (dn : Int)), some (vI l), some (vI f), some (vJ s), none, none, none, none, none, none, none, none]) rfl ?_
    refine q_iload_n (pc' := 1) (dk_at dkX1_extend 0 rfl) rfl rfl ?_
    refine q_aload_n (pc' := 2) (dk_at dkX1_extend 1 rfl) rfl rfl ?_
    refine r_getf (pc' := 5) fl_RX1_79 (dk_at dkX1_extend 2 rfl) hX.obj rfl rfl ?_
    refine q_icmp_ne (tgt := 35) (pc' := 8) (dk_at dkX1_extend 3 rfl) rfl rfl (by omega) (by omega) (fun c5 => ?_) (fun c5 => ?_)
    · refine q_iload_n (pc' := 36) (dk_at dkX1_extend 19 rfl) rfl rfl ?_
      refine q_bipush (pc' := 38) (dk_at dkX1_extend 20 rfl) (by decide +kernel) rfl ?_
      refine q_icmp_lt (tgt := 42) (pc' := 41) (dk_at dkX1_extend 21 rfl) rfl rfl (by omega) (by omega) (fun c38 => ?_) (fun c38 => ?_)
      · refine q_iconst (pc' := 43) (dk_at dkX1_extend 23 rfl) rfl ?_
        refine q_istore (pc' := 45) (L' := [some (vR b), some (vI (depth : Int)), some (vI (dn : Int)), some (vI l), some (vI f), some (vJ s), none, some (vI 0), none, none, none, none, none, none]) (dk_at dkX1_extend 24 rfl) (by decide) rfl rfl ?_
        exact l_extend (h := h) (fo := fo) (fc := fc) (d1 := d - 1) rfl (by omega) (by omega) hk hG hRk hrk hsets hfi hflr hp8 (by omega) hdn hz hl (by omega) (by omega) hp hbb.2 (by omega) (fun dn2 l2 f2 s2 bs2 fc2 ch2 fo2 sC2 sT2 sX2 h2 p q r => ih (depth + 1) dn2 l2 f2 s2 bs2 fc2 ch2 fo2 sC2 sT2 sX2 h2 (d - 1) (by omega) (by omega) p q r) k 0 bs fc ch fo sC sT sX h none none none none none none (by rw [show scT S 0 = 0 from rfl]; omega) (Nat.zero_le _) (XI_zero hp) hbb.1 hX hS hF
      · refine r_vret rfl (dk_at dkX1_extend 22 rfl) ?_
        first | (exfalso; omega; done) | exact ⟨s, (depth : Int), ch, ch, sC, sT, sX, hX, hS, XR_all hp (by omega), hF⟩
    · refine q_aload_n (pc' := 9) (dk_at dkX1_extend 4 rfl) rfl rfl ?_
      refine q_lload (pc' := 11) (dk_at dkX1_extend 5 rfl) rfl rfl ?_
      refine r_putf (pc' := 14) fp_RX1_66 (dk_at dkX1_extend 6 rfl) hX.obj (Nat.le_of_ble_eq_true rfl) (PT_long _) rfl (fun hh1 ehh1 => ?_)
      have hX := hX.w_obj ehh1
      have hS := hS.off ehh1 (by omega)
      have hF := hF.put ehh1 (by omega)
      refine q_aload_n (pc' := 15) (dk_at dkX1_extend 7 rfl) rfl rfl ?_
      refine q_iload_n (pc' := 16) (dk_at dkX1_extend 8 rfl) rfl rfl ?_
      refine r_putf (pc' := 19) fp_RX1_73 (dk_at dkX1_extend 9 rfl) hX.obj (Nat.le_of_ble_eq_true rfl) (PT_int _) rfl (fun hh2 ehh2 => ?_)
      have hX := hX.w_obj ehh2
      have hS := hS.off ehh2 (by omega)
      have hF := hF.put ehh2 (by omega)
      refine q_aload_n (pc' := 20) (dk_at dkX1_extend 10 rfl) rfl rfl ?_
      refine r_getf (pc' := 23) fl_RX1_42 (dk_at dkX1_extend 11 rfl) hX.obj rfl rfl ?_
      refine q_iconst (pc' := 24) (dk_at dkX1_extend 12 rfl) rfl ?_
      refine q_aload_n (pc' := 25) (dk_at dkX1_extend 13 rfl) rfl rfl ?_
      refine r_getf (pc' := 28) fl_RX1_45 (dk_at dkX1_extend 14 rfl) hX.obj rfl rfl ?_
      refine q_iconst (pc' := 29) (dk_at dkX1_extend 15 rfl) rfl ?_
      refine q_bipush (pc' := 31) (dk_at dkX1_extend 16 rfl) (by decide +kernel) rfl ?_
      refine r_copyA (pc' := 34) jc_RX1_128 (dk_at dkX1_extend 17 rfl) hX.chosen hX.found rfl (by decide) (by decide) (by omega) (Nat.le_of_ble_eq_true rfl) rfl (fun hh3 ehh3 => ?_)
      have hX := hX.w_found ehh3
      have hS := hS.off ehh3 (by omega)
      have hF := hF.put ehh3 (by omega)
      refine r_vret rfl (dk_at dkX1_extend 18 rfl) ?_
      first | (exfalso; omega; done) | exact ⟨s, (depth : Int), ch, ch, sC, sT, sX, hX, hS, XR_all hp (by omega), hF⟩
