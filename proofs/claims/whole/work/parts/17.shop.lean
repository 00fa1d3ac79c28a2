/-! Shop: what it answers -/
set_option maxHeartbeats 4000000 in
set_option maxRecDepth 100000 in
theorem k_Shop_startingSum {d n : Nat} {h : PH} {s : Nat} {S : Shp} (hS : isShp n h s S) (ho : 0 ≤ S.ob ∧ S.ob ≤ 5) : CtrJ mX2_startingSum d [vR s] n h (fun x h' => h' = h ∧ x = neu S) := by
  unfold isShp at hS
  refine q_beginJ (L := [some (vR s)]) rfl ?_
  refine q_aload_n (pc' := 1) (dk_at dkX2_startingSum 0 rfl) rfl rfl ?_
  refine r_getf (pc' := 4) fl_RX2_23 (dk_at dkX2_startingSum 1 rfl) hS.obj rfl rfl ?_
  refine q_iconst (pc' := 5) (dk_at dkX2_startingSum 2 rfl) rfl ?_
  refine q_icmp_lt (tgt := 14) (pc' := 8) (dk_at dkX2_startingSum 3 rfl) rfl rfl (by omega) (by omega) (fun c5 => ?_) (fun c5 => ?_)
  · refine q_lconst0 (pc' := 15) (dk_at dkX2_startingSum 6 rfl) rfl ?_
    refine r_lret rfl (dk_at dkX2_startingSum 7 rfl) ?_
    first | exact ⟨rfl, (if_pos (by omega)).symm⟩ | exact ⟨rfl, (if_neg (by omega)).symm⟩
  · refine q_ldc2 (pc' := 11) (z := -1000000000000) kc_RX2_39 (by decide +kernel) (dk_at dkX2_startingSum 4 rfl) rfl ?_
    refine q_goto (tgt := 15) (dk_at dkX2_startingSum 5 rfl) rfl ?_
    refine r_lret rfl (dk_at dkX2_startingSum 7 rfl) ?_
    first | exact ⟨rfl, (if_pos (by omega)).symm⟩ | exact ⟨rfl, (if_neg (by omega)).symm⟩

set_option maxHeartbeats 4000000 in
set_option maxRecDepth 100000 in
theorem k_Shop_joined {d n : Nat} {h : PH} {s : Nat} {S : Shp} {a b : Int} (hd : 1 ≤ d) (hS : isShp n h s S) (ho : 0 ≤ S.ob ∧ S.ob ≤ 5) (ha : LR a) (hb : LR b) : CtrJ mX2_joined d [vR s, vJ a, vJ b] n h (fun x h' => h' = h ∧ x = jn S a b) := by
  unfold isShp at hS
  refine q_beginJ (L := [some (vR s), some (vJ a), none, some (vJ b), none]) rfl ?_
  refine q_aload_n (pc' := 1) (dk_at dkX2_joined 0 rfl) rfl rfl ?_
  refine r_getf (pc' := 4) fl_RX2_23 (dk_at dkX2_joined 1 rfl) hS.obj rfl rfl ?_
  refine q_iconst (pc' := 5) (dk_at dkX2_joined 2 rfl) rfl ?_
  refine q_icmp_lt (tgt := 16) (pc' := 8) (dk_at dkX2_joined 3 rfl) rfl rfl (by omega) (by omega) (fun c5 => ?_) (fun c5 => ?_)
  · refine q_lload_n (pc' := 17) (dk_at dkX2_joined 8 rfl) rfl rfl ?_
    refine q_lload_n (pc' := 18) (dk_at dkX2_joined 9 rfl) rfl rfl ?_
    refine q_ladd (pc' := 19) (dk_at dkX2_joined 10 rfl) rfl ?_
    refine r_lret rfl (dk_at dkX2_joined 11 rfl) ?_
    first | exact ⟨rfl, (if_pos (by omega)).symm⟩ | exact ⟨rfl, (if_neg (by omega)).symm⟩
  · refine q_lload_n (pc' := 9) (dk_at dkX2_joined 4 rfl) rfl rfl ?_
    refine q_lload_n (pc' := 10) (dk_at dkX2_joined 5 rfl) rfl rfl ?_
    refine q_lmax (pc' := 13) jk_RX2_41 (dk_at dkX2_joined 6 rfl) (by omega) (by omega) (by omega) (Nat.zero_le _) (Nat.zero_le _) (Nat.le_of_ble_eq_true rfl) rfl ?_
    refine q_goto (tgt := 19) (dk_at dkX2_joined 7 rfl) rfl ?_
    refine r_lret rfl (dk_at dkX2_joined 11 rfl) ?_
    first | exact ⟨rfl, (if_pos (by omega)).symm⟩ | exact ⟨rfl, (if_neg (by omega)).symm⟩

set_option maxHeartbeats 4000000 in
set_option maxRecDepth 100000 in
theorem k_Shop_penaltyOf {d n : Nat} {h : PH} {s : Nat} {S : Shp} {j : Nat} {C : Int} (hS : isShp n h s S) (hV : Vok S.V) (ho : 0 ≤ S.ob ∧ S.ob ≤ 5) (hj : j < 8) (hC : 0 ≤ C ∧ C ≤ 100000) : CtrJ mX2_penaltyOf d [vR s, vI (j : Int), vI C] n h (fun x h' => h' = h ∧ x = pen S j C) := by
  unfold isShp at hS
  refine q_beginJ (L := [some (vR s), some (vI (j : Int)), some (vI C), none, none, none]) rfl ?_
  refine q_iload_n (pc' := 1) (dk_at dkX2_penaltyOf 0 rfl) rfl rfl ?_
  refine q_aload_n (pc' := 2) (dk_at dkX2_penaltyOf 1 rfl) rfl rfl ?_
  refine r_getf (pc' := 5) fl_RX2_11 (dk_at dkX2_penaltyOf 2 rfl) hS.obj rfl rfl ?_
  refine q_iconst (pc' := 6) (dk_at dkX2_penaltyOf 3 rfl) rfl ?_
  refine r_aald1 (pc' := 7) (dk_at dkX2_penaltyOf 4 rfl) hS.values 3 (by omega) (by omega) (by decide) rfl ?_
  refine q_iload_n (pc' := 8) (dk_at dkX2_penaltyOf 5 rfl) rfl rfl ?_
  refine r_iald (pc' := 9) (dk_at dkX2_penaltyOf 6 rfl) (hS.values_at 3 (by omega)) j (by omega) (by omega) (by decide) rfl ?_
  have bb1 := hV 3 j
  refine q_isub (pc' := 10) (dk_at dkX2_penaltyOf 7 rfl) rfl ?_
  refine q_istore_n (pc' := 11) (L' := [some (vR s), some (vI (j : Int)), some (vI C), some (vI (C - ((S.V 3) j))), none, none]) (dk_at dkX2_penaltyOf 8 rfl) (by decide) rfl rfl ?_
  refine q_aload_n (pc' := 12) (dk_at dkX2_penaltyOf 9 rfl) rfl rfl ?_
  refine r_getf (pc' := 15) fl_RX2_23 (dk_at dkX2_penaltyOf 10 rfl) hS.obj rfl rfl ?_
  refine q_iconst (pc' := 16) (dk_at dkX2_penaltyOf 11 rfl) rfl ?_
  refine q_icmp_ne (tgt := 22) (pc' := 19) (dk_at dkX2_penaltyOf 12 rfl) rfl rfl (by omega) (by omega) (fun c16 => ?_) (fun c16 => ?_)
  · refine q_aload_n (pc' := 23) (dk_at dkX2_penaltyOf 16 rfl) rfl rfl ?_
    refine r_getf (pc' := 26) fl_RX2_23 (dk_at dkX2_penaltyOf 17 rfl) hS.obj rfl rfl ?_
    refine q_iconst (pc' := 27) (dk_at dkX2_penaltyOf 18 rfl) rfl ?_
    refine q_icmp_le (tgt := 33) (pc' := 30) (dk_at dkX2_penaltyOf 19 rfl) rfl rfl (by omega) (by omega) (fun c27 => ?_) (fun c27 => ?_)
    · refine q_aload_n (pc' := 34) (dk_at dkX2_penaltyOf 23 rfl) rfl rfl ?_
      refine r_getf (pc' := 37) fl_RX2_23 (dk_at dkX2_penaltyOf 24 rfl) hS.obj rfl rfl ?_
      refine q_if_ne (tgt := 53) (pc' := 40) (dk_at dkX2_penaltyOf 25 rfl) rfl rfl (by omega) (fun c37 => ?_) (fun c37 => ?_)
      · refine q_iload_n (pc' := 54) (dk_at dkX2_penaltyOf 37 rfl) rfl rfl ?_
        refine q_if_gt (tgt := 59) (pc' := 57) (dk_at dkX2_penaltyOf 38 rfl) rfl rfl (by omega) (fun c54 => ?_) (fun c54 => ?_)
        · refine q_aload_n (pc' := 60) (dk_at dkX2_penaltyOf 41 rfl) rfl rfl ?_
          refine r_getf (pc' := 63) fl_RX2_11 (dk_at dkX2_penaltyOf 42 rfl) hS.obj rfl rfl ?_
          refine q_iconst (pc' := 64) (dk_at dkX2_penaltyOf 43 rfl) rfl ?_
          refine r_aald1 (pc' := 65) (dk_at dkX2_penaltyOf 44 rfl) hS.values 4 (by omega) (by omega) (by decide) rfl ?_
          refine q_iload_n (pc' := 66) (dk_at dkX2_penaltyOf 45 rfl) rfl rfl ?_
          refine r_iald (pc' := 67) (dk_at dkX2_penaltyOf 46 rfl) (hS.values_at 4 (by omega)) j (by omega) (by omega) (by decide) rfl ?_
          have bb2 := hV 4 j
          refine q_i2l (pc' := 68) (dk_at dkX2_penaltyOf 47 rfl) (by omega) rfl ?_
          refine q_lstore (pc' := 70) (L' := [some (vR s), some (vI (j : Int)), some (vI C), some (vI (C - ((S.V 3) j))), some (vJ ((S.V 4) j)), none]) (dk_at dkX2_penaltyOf 48 rfl) (by decide) rfl rfl ?_
          refine q_aload_n (pc' := 71) (dk_at dkX2_penaltyOf 49 rfl) rfl rfl ?_
          refine r_getf (pc' := 74) fl_RX2_23 (dk_at dkX2_penaltyOf 50 rfl) hS.obj rfl rfl ?_
          refine q_iconst (pc' := 75) (dk_at dkX2_penaltyOf 51 rfl) rfl ?_
          refine q_icmp_ne (tgt := 84) (pc' := 78) (dk_at dkX2_penaltyOf 52 rfl) rfl rfl (by omega) (by omega) (fun c75 => ?_) (fun c75 => ?_)
          · refine q_aload_n (pc' := 85) (dk_at dkX2_penaltyOf 58 rfl) rfl rfl ?_
            refine r_getf (pc' := 88) fl_RX2_23 (dk_at dkX2_penaltyOf 59 rfl) hS.obj rfl rfl ?_
            refine q_iconst (pc' := 89) (dk_at dkX2_penaltyOf 60 rfl) rfl ?_
            refine q_icmp_ne (tgt := 103) (pc' := 92) (dk_at dkX2_penaltyOf 61 rfl) rfl rfl (by omega) (by omega) (fun c89 => ?_) (fun c89 => ?_)
            · refine q_lload (pc' := 105) (dk_at dkX2_penaltyOf 70 rfl) rfl rfl ?_
              refine r_lret rfl (dk_at dkX2_penaltyOf 71 rfl) ?_
              refine ⟨rfl, ?_⟩
              unfold pen penz
              repeat (first | rw [if_pos (by omega)] | rw [if_neg (by omega)])
            · refine q_lload (pc' := 94) (dk_at dkX2_penaltyOf 62 rfl) rfl rfl ?_
              refine q_iload_n (pc' := 95) (dk_at dkX2_penaltyOf 63 rfl) rfl rfl ?_
              refine q_i2l (pc' := 96) (dk_at dkX2_penaltyOf 64 rfl) (by omega) rfl ?_
              refine q_lmul (pc' := 97) (dk_at dkX2_penaltyOf 65 rfl) rfl ?_
              refine q_iload_n (pc' := 98) (dk_at dkX2_penaltyOf 66 rfl) rfl rfl ?_
              refine q_i2l (pc' := 99) (dk_at dkX2_penaltyOf 67 rfl) (by omega) rfl ?_
              refine q_lmul (pc' := 100) (dk_at dkX2_penaltyOf 68 rfl) rfl ?_
              refine q_goto (tgt := 105) (dk_at dkX2_penaltyOf 69 rfl) rfl ?_
              refine r_lret rfl (dk_at dkX2_penaltyOf 71 rfl) ?_
              refine ⟨rfl, ?_⟩
              unfold pen penz
              repeat (first | rw [if_pos (by omega)] | rw [if_neg (by omega)])
          · refine q_lload (pc' := 80) (dk_at dkX2_penaltyOf 53 rfl) rfl rfl ?_
            refine q_iload_n (pc' := 81) (dk_at dkX2_penaltyOf 54 rfl) rfl rfl ?_
            refine q_i2l (pc' := 82) (dk_at dkX2_penaltyOf 55 rfl) (by omega) rfl ?_
            refine q_lmul (pc' := 83) (dk_at dkX2_penaltyOf 56 rfl) rfl ?_
            refine r_lret rfl (dk_at dkX2_penaltyOf 57 rfl) ?_
            refine ⟨rfl, ?_⟩
            unfold pen penz
            repeat (first | rw [if_pos (by omega)] | rw [if_neg (by omega)])
        · refine q_lconst0 (pc' := 58) (dk_at dkX2_penaltyOf 39 rfl) rfl ?_
          refine r_lret rfl (dk_at dkX2_penaltyOf 40 rfl) ?_
          refine ⟨rfl, ?_⟩
          unfold pen penz
          repeat (first | rw [if_pos (by omega)] | rw [if_neg (by omega)])
      · refine q_aload_n (pc' := 41) (dk_at dkX2_penaltyOf 26 rfl) rfl rfl ?_
        refine r_getf (pc' := 44) fl_RX2_11 (dk_at dkX2_penaltyOf 27 rfl) hS.obj rfl rfl ?_
        refine q_iconst (pc' := 45) (dk_at dkX2_penaltyOf 28 rfl) rfl ?_
        refine r_aald1 (pc' := 46) (dk_at dkX2_penaltyOf 29 rfl) hS.values 4 (by omega) (by omega) (by decide) rfl ?_
        refine q_iload_n (pc' := 47) (dk_at dkX2_penaltyOf 30 rfl) rfl rfl ?_
        refine r_iald (pc' := 48) (dk_at dkX2_penaltyOf 31 rfl) (hS.values_at 4 (by omega)) j (by omega) (by omega) (by decide) rfl ?_
        have bb3 := hV 4 j
        refine q_i2l (pc' := 49) (dk_at dkX2_penaltyOf 32 rfl) (by omega) rfl ?_
        refine q_iload_n (pc' := 50) (dk_at dkX2_penaltyOf 33 rfl) rfl rfl ?_
        refine q_i2l (pc' := 51) (dk_at dkX2_penaltyOf 34 rfl) (by omega) rfl ?_
        refine q_lmul (pc' := 52) (dk_at dkX2_penaltyOf 35 rfl) rfl ?_
        refine r_lret rfl (dk_at dkX2_penaltyOf 36 rfl) ?_
        refine ⟨rfl, ?_⟩
        unfold pen penz
        repeat (first | rw [if_pos (by omega)] | rw [if_neg (by omega)])
    · refine q_iload_n (pc' := 31) (dk_at dkX2_penaltyOf 20 rfl) rfl rfl ?_
      refine q_i2l (pc' := 32) (dk_at dkX2_penaltyOf 21 rfl) (by omega) rfl ?_
      refine r_lret rfl (dk_at dkX2_penaltyOf 22 rfl) ?_
      refine ⟨rfl, ?_⟩
      unfold pen penz
      repeat (first | rw [if_pos (by omega)] | rw [if_neg (by omega)])
  · refine q_iload_n (pc' := 20) (dk_at dkX2_penaltyOf 13 rfl) rfl rfl ?_
    refine q_i2l (pc' := 21) (dk_at dkX2_penaltyOf 14 rfl) (by omega) rfl ?_
    refine r_lret rfl (dk_at dkX2_penaltyOf 15 rfl) ?_
    refine ⟨rfl, ?_⟩
    unfold pen penz
    repeat (first | rw [if_pos (by omega)] | rw [if_neg (by omega)])
