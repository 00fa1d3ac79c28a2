/-! BatchMachine: isJob -/
set_option maxHeartbeats 4000000 in
set_option maxRecDepth 100000 in
theorem k_BM_isJob {d n : Nat} {h : PH} {b : Nat} {S : Shp} {sv tl kn bs job : Int} {tx : Nat → Int} (hc8 : S.cnt ≤ 8) (hj : IR job) (hB : isBM n h b sv tx tl) (hN : isState n h (b + 1) kn bs) (hQ : isShp n h (b + 2) S) : CtrI mX5_isJob d [vR b, vI job] n h (fun x h' => h' = h ∧ x = if 0 ≤ job ∧ job < (S.cnt : Int) then 1 else 0) := by
  refine q_beginI (L := [some (vR b), some (vI job)]) rfl ?_
  refine q_iload_n (pc' := 1) (dk_at dkX5_isJob 0 rfl) rfl rfl ?_
  refine q_if_lt (tgt := 22) (pc' := 4) (dk_at dkX5_isJob 1 rfl) rfl rfl (by omega) (fun c1 => ?_) (fun c1 => ?_)
  · refine q_iconst (pc' := 23) (dk_at dkX5_isJob 10 rfl) rfl ?_
    refine r_zret rfl (by omega) (dk_at dkX5_isJob 11 rfl) ?_
    refine ⟨rfl, ?_⟩
    first | rw [if_pos (by omega)] | rw [if_neg (by omega)]
  · refine q_iload_n (pc' := 5) (dk_at dkX5_isJob 2 rfl) rfl rfl ?_
    refine q_aload_n (pc' := 6) (dk_at dkX5_isJob 3 rfl) rfl rfl ?_
    refine r_getf (pc' := 9) fl_RX5_10 (dk_at dkX5_isJob 4 rfl) hB.obj rfl rfl ?_
    refine r_getf (pc' := 12) fl_RX5_63 (dk_at dkX5_isJob 5 rfl) hN.obj rfl rfl ?_
    refine r_getf (pc' := 15) fl_RX5_66 (dk_at dkX5_isJob 6 rfl) hQ.obj rfl rfl ?_
    refine q_icmp_ge (tgt := 22) (pc' := 18) (dk_at dkX5_isJob 7 rfl) rfl rfl (by omega) (by omega) (fun c15 => ?_) (fun c15 => ?_)
    · refine q_iconst (pc' := 23) (dk_at dkX5_isJob 10 rfl) rfl ?_
      refine r_zret rfl (by omega) (dk_at dkX5_isJob 11 rfl) ?_
      refine ⟨rfl, ?_⟩
      first | rw [if_pos (by omega)] | rw [if_neg (by omega)]
    · refine q_iconst (pc' := 19) (dk_at dkX5_isJob 8 rfl) rfl ?_
      refine q_goto (tgt := 23) (dk_at dkX5_isJob 9 rfl) rfl ?_
      refine r_zret rfl (by omega) (dk_at dkX5_isJob 11 rfl) ?_
      refine ⟨rfl, ?_⟩
      first | rw [if_pos (by omega)] | rw [if_neg (by omega)]
