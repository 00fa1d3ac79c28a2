/-! sequences of some of the jobs; clearText -/
/-- m places hold jobs below c, each at most once -/
def Sqm (c m : Nat) (o : Nat → Int) : Prop := (∀ j, 0 ≤ o j ∧ o j ≤ 7) ∧ (∀ k, k < m → o k < (c : Int)) ∧ ∀ k k', k < m → k' < m → o k = o k' → k = k'
theorem Sqm.pok {c m : Nat} {o : Nat → Int} (h : Sqm c m o) (hm : m ≤ 8) (g e : Nat → Int) : Pok c o (grE g e m) (grB g m) m :=
  ⟨hm, grB_le g m, h.1, fun b hb => (grE_ok m).1 b hb, (grE_ok m).2.1, h.2.1, h.2.2⟩
theorem Pok.sqm {c : Nat} {o e : Nat → Int} {bc m : Nat} (h : Pok c o e bc m) : Sqm c m o := ⟨h.2.2.1, h.2.2.2.2.2.1, h.2.2.2.2.2.2⟩
set_option maxHeartbeats 4000000 in
set_option maxRecDepth 100000 in
theorem k_BM_clearText {d n : Nat} {h : PH} {b : Nat} {sv tl : Int} {tx : Nat → Int} (hB : isBM n h b sv tx tl) : CtrI mX5_clearText d [vR b] n h (fun x h' => x = tl ∧ isBM n h' b sv tx 0 ∧ Fr h h' b (b + 1)) := by
  have hF : Fr h h b (b + 1) := Fr.rf
  refine q_beginI (L := [some (vR b), none]) rfl ?_
  refine q_aload_n (pc' := 1) (dk_at dkX5_clearText 0 rfl) rfl rfl ?_
  refine r_getf (pc' := 4) fl_RX5_130 (dk_at dkX5_clearText 1 rfl) hB.obj rfl rfl ?_
  refine q_istore_n (pc' := 5) (L' := [some (vR b), some (vI tl)]) (dk_at dkX5_clearText 2 rfl) (by decide) rfl rfl ?_
  refine q_aload_n (pc' := 6) (dk_at dkX5_clearText 3 rfl) rfl rfl ?_
  refine q_iconst (pc' := 7) (dk_at dkX5_clearText 4 rfl) rfl ?_
  refine r_putf (pc' := 10) fp_RX5_130 (dk_at dkX5_clearText 5 rfl) hB.obj (Nat.le_of_ble_eq_true rfl) (PT_int _) rfl (fun hh1 ehh1 => ?_)
  have hB := hB.w_obj ehh1
  have hF := hF.put ehh1 (by omega)
  refine q_iload_n (pc' := 11) (dk_at dkX5_clearText 6 rfl) rfl rfl ?_
  refine r_iret rfl (dk_at dkX5_clearText 7 rfl) ?_
  exact ⟨rfl, hB, hF⟩
