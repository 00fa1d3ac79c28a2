/-! Shop: the methods with loops -/
theorem isShop.cong {n : Nat} {h : PH} {b : Nat} {count wh er ob : Int} {V V' T T' : Nat → Nat → Int} (H : isShop n h b count V T wh er ob) (hV : ∀ i, i < 5 → V i = V' i) (hT : ∀ i, i < 5 → T i = T' i) : isShop n h b count V' T' wh er ob :=
  ⟨H.1, H.2.1, fun i hi => by rw [← hV i hi]; exact H.2.2.1 i hi, H.2.2.2.1, fun i hi => by rw [← hT i hi]; exact H.2.2.2.2 i hi⟩
theorem upf_step {V V1 V2 : Nat → Nat → Int} {i : Nat} (h : ∀ k, V1 k = if k < i then V2 k else V k) : ∀ k, upf V1 i (V2 i) k = if k < i + 1 then V2 k else V k := by
  intro k
  by_cases q : k = i
  · subst q
    rw [upf_eq, if_pos (by omega)]
  · rw [upf_ne q, h]
    by_cases q2 : k < i
    · rw [if_pos q2, if_pos (by omega)]
    · rw [if_neg q2, if_neg (by omega)]
set_option maxHeartbeats 4000000 in
set_option maxRecDepth 100000 in
theorem l_shTake1 {d n : Nat} {F : FT} {h : PH} {s q : Nat} {cnt2 : Int} {V V2 T T2 : Nat → Nat → Int} {wh er ob wh2 er2 ob2 : Int} (hd : 1 ≤ d) (hsq : s + 13 ≤ q ∨ q + 13 ≤ s) (hex : ∀ (i : Int) (V1 : Nat → Nat → Int) (h1 : PH), (∀ k, k < 5 → V1 k = V2 k) → isShop n h1 s cnt2 V1 T wh er ob → isShop n h1 q cnt2 V2 T2 wh2 er2 ob2 → Fr h h1 s (s + 13) → QN mX2_takeFrom d F 40 [some (vR s), some (vR q), some (vI i)] [] n h1) : ∀ (c : Nat) (i : Nat) (V1 : Nat → Nat → Int) (h1 : PH), (i + c = 5) → ((∀ k, V1 k = if k < i then V2 k else V k)) → (isShop n h1 s cnt2 V1 T wh er ob) → (isShop n h1 q cnt2 V2 T2 wh2 er2 ob2) → (Fr h h1 s (s + 13)) → QN mX2_takeFrom d F 10 [some (vR s), some (vR q), some (vI (i : Int))] [] n h1 := by
  intro c
  induction c with
  | zero =>
    intro i V1 h1 hc hv hS hQ hF
    refine q_iload_n (pc' := 11) (dk_at dkX2_takeFrom 6 rfl) rfl rfl ?_
    refine q_iconst (pc' := 12) (dk_at dkX2_takeFrom 7 rfl) rfl ?_
    refine q_icmp_ge (tgt := 40) (pc' := 15) (dk_at dkX2_takeFrom 8 rfl) rfl rfl (by omega) (by omega) (fun c12 => ?_) (fun c12 => ?_)
    · exact hex _ V1 h1 (fun k hk => by rw [hv, if_pos (by omega)]) hS hQ hF
    · exfalso
      omega
  | succ c ih =>
    intro i V1 h1 hc hv hS hQ hF
    refine q_iload_n (pc' := 11) (dk_at dkX2_takeFrom 6 rfl) rfl rfl ?_
    refine q_iconst (pc' := 12) (dk_at dkX2_takeFrom 7 rfl) rfl ?_
    refine q_icmp_ge (tgt := 40) (pc' := 15) (dk_at dkX2_takeFrom 8 rfl) rfl rfl (by omega) (by omega) (fun c12 => ?_) (fun c12 => ?_)
    · exact hex _ V1 h1 (fun k hk => by rw [hv, if_pos (by omega)]) hS hQ hF
    · refine q_aload_n (pc' := 16) (dk_at dkX2_takeFrom 9 rfl) rfl rfl ?_
      refine r_getf (pc' := 19) fl_RX2_11 (dk_at dkX2_takeFrom 10 rfl) hQ.obj rfl rfl ?_
      refine q_iload_n (pc' := 20) (dk_at dkX2_takeFrom 11 rfl) rfl rfl ?_
      refine r_aald1 (pc' := 21) (dk_at dkX2_takeFrom 12 rfl) hQ.values i (by omega) (by omega) (by decide) rfl ?_
      refine q_iconst (pc' := 22) (dk_at dkX2_takeFrom 13 rfl) rfl ?_
      refine q_aload_n (pc' := 23) (dk_at dkX2_takeFrom 14 rfl) rfl rfl ?_
      refine r_getf (pc' := 26) fl_RX2_11 (dk_at dkX2_takeFrom 15 rfl) hS.obj rfl rfl ?_
      refine q_iload_n (pc' := 27) (dk_at dkX2_takeFrom 16 rfl) rfl rfl ?_
      refine r_aald1 (pc' := 28) (dk_at dkX2_takeFrom 17 rfl) hS.values i (by omega) (by omega) (by decide) rfl ?_
      refine q_iconst (pc' := 29) (dk_at dkX2_takeFrom 18 rfl) rfl ?_
      refine q_bipush (pc' := 31) (dk_at dkX2_takeFrom 19 rfl) (by decide +kernel) rfl ?_
      refine r_copyA (pc' := 34) jc_RX2_30 (dk_at dkX2_takeFrom 20 rfl) (hQ.values_at i (by omega)) (hS.values_at i (by omega)) rfl (by decide) (by decide) (by omega) (Nat.le_of_ble_eq_true rfl) rfl (fun hh1 ehh1 => ?_)
      have hS := isShop.w_values (by omega) hS ehh1
      have hQ := hQ.off ehh1 (by omega)
      have hF := hF.put ehh1 (by omega)
      refine q_iinc (pc' := 37) (L' := [some (vR s), some (vR q), some (vI ((i : Int) + 1))]) (dk_at dkX2_takeFrom 21 rfl) (by decide) rfl rfl rfl ?_
      rw [show ((i : Int) + 1) = ((i + 1 : Nat) : Int) by omega]
      refine q_goto (tgt := 10) (dk_at dkX2_takeFrom 22 rfl) rfl ?_
      exact ih (i + 1) _ _ (by omega) (upf_step hv) hS hQ hF

set_option maxHeartbeats 4000000 in
set_option maxRecDepth 100000 in
theorem l_shTake2 {d n : Nat} {F : FT} {h : PH} {s q : Nat} {cnt2 : Int} {V V2 T T2 : Nat → Nat → Int} {wh er ob wh2 er2 ob2 : Int} (hd : 1 ≤ d) (hsq : s + 13 ≤ q ∨ q + 13 ≤ s) (hex : ∀ (i : Int) (T1 : Nat → Nat → Int) (h1 : PH), (∀ k, k < 5 → T1 k = T2 k) → isShop n h1 s cnt2 V T1 wh er ob → isShop n h1 q cnt2 V2 T2 wh2 er2 ob2 → Fr h h1 s (s + 13) → QN mX2_takeFrom d F 71 [some (vR s), some (vR q), some (vI i)] [] n h1) : ∀ (c : Nat) (i : Nat) (T1 : Nat → Nat → Int) (h1 : PH), (i + c = 5) → ((∀ k, T1 k = if k < i then T2 k else T k)) → (isShop n h1 s cnt2 V T1 wh er ob) → (isShop n h1 q cnt2 V2 T2 wh2 er2 ob2) → (Fr h h1 s (s + 13)) → QN mX2_takeFrom d F 42 [some (vR s), some (vR q), some (vI (i : Int))] [] n h1 := by
  intro c
  induction c with
  | zero =>
    intro i T1 h1 hc ht hS hQ hF
    refine q_iload_n (pc' := 43) (dk_at dkX2_takeFrom 25 rfl) rfl rfl ?_
    refine q_iconst (pc' := 44) (dk_at dkX2_takeFrom 26 rfl) rfl ?_
    refine q_icmp_gt (tgt := 71) (pc' := 47) (dk_at dkX2_takeFrom 27 rfl) rfl rfl (by omega) (by omega) (fun c44 => ?_) (fun c44 => ?_)
    · exact hex _ T1 h1 (fun k hk => by rw [ht, if_pos (by omega)]) hS hQ hF
    · exfalso
      omega
  | succ c ih =>
    intro i T1 h1 hc ht hS hQ hF
    refine q_iload_n (pc' := 43) (dk_at dkX2_takeFrom 25 rfl) rfl rfl ?_
    refine q_iconst (pc' := 44) (dk_at dkX2_takeFrom 26 rfl) rfl ?_
    refine q_icmp_gt (tgt := 71) (pc' := 47) (dk_at dkX2_takeFrom 27 rfl) rfl rfl (by omega) (by omega) (fun c44 => ?_) (fun c44 => ?_)
    · exact hex _ T1 h1 (fun k hk => by rw [ht, if_pos (by omega)]) hS hQ hF
    · refine q_aload_n (pc' := 48) (dk_at dkX2_takeFrom 28 rfl) rfl rfl ?_
      refine r_getf (pc' := 51) fl_RX2_16 (dk_at dkX2_takeFrom 29 rfl) hQ.obj rfl rfl ?_
      refine q_iload_n (pc' := 52) (dk_at dkX2_takeFrom 30 rfl) rfl rfl ?_
      refine r_aald1 (pc' := 53) (dk_at dkX2_takeFrom 31 rfl) hQ.setups i (by omega) (by omega) (by decide) rfl ?_
      refine q_iconst (pc' := 54) (dk_at dkX2_takeFrom 32 rfl) rfl ?_
      refine q_aload_n (pc' := 55) (dk_at dkX2_takeFrom 33 rfl) rfl rfl ?_
      refine r_getf (pc' := 58) fl_RX2_16 (dk_at dkX2_takeFrom 34 rfl) hS.obj rfl rfl ?_
      refine q_iload_n (pc' := 59) (dk_at dkX2_takeFrom 35 rfl) rfl rfl ?_
      refine r_aald1 (pc' := 60) (dk_at dkX2_takeFrom 36 rfl) hS.setups i (by omega) (by omega) (by decide) rfl ?_
      refine q_iconst (pc' := 61) (dk_at dkX2_takeFrom 37 rfl) rfl ?_
      refine q_iconst (pc' := 62) (dk_at dkX2_takeFrom 38 rfl) rfl ?_
      refine r_copyA (pc' := 65) jc_RX2_30 (dk_at dkX2_takeFrom 39 rfl) (hQ.setups_at i (by omega)) (hS.setups_at i (by omega)) rfl (by decide) (by decide) (by omega) (Nat.le_of_ble_eq_true rfl) rfl (fun hh1 ehh1 => ?_)
      have hS := isShop.w_setups (by omega) hS ehh1
      have hQ := hQ.off ehh1 (by omega)
      have hF := hF.put ehh1 (by omega)
      refine q_iinc (pc' := 68) (L' := [some (vR s), some (vR q), some (vI ((i : Int) + 1))]) (dk_at dkX2_takeFrom 40 rfl) (by decide) rfl rfl rfl ?_
      rw [show ((i : Int) + 1) = ((i + 1 : Nat) : Int) by omega]
      refine q_goto (tgt := 42) (dk_at dkX2_takeFrom 41 rfl) rfl ?_
      exact ih (i + 1) _ _ (by omega) (upf_step ht) hS hQ hF

set_option maxHeartbeats 4000000 in
set_option maxRecDepth 100000 in
theorem k_Shop_takeFrom0 {d n : Nat} {h : PH} {s q : Nat} {cnt cnt2 : Int} {V V2 T T2 : Nat → Nat → Int} {wh er ob wh2 er2 ob2 : Int} (hd : 1 ≤ d) (hsq : s + 13 ≤ q ∨ q + 13 ≤ s) (hw : wh2 = 0 ∨ wh2 = 1) (he : er2 = 0 ∨ er2 = 1) (hS : isShop n h s cnt V T wh er ob) (hQ : isShop n h q cnt2 V2 T2 wh2 er2 ob2) : CtrV mX2_takeFrom d [vR s, vR q] n h (fun h' => isShop n h' s cnt2 V2 T2 wh2 er2 ob2 ∧ Fr h h' s (s + 13)) := by
  have hF : Fr h h s (s + 13) := Fr.rf
  refine q_beginV (L := [some (vR s), some (vR q), none]) rfl ?_
  refine q_aload_n (pc' := 1) (dk_at dkX2_takeFrom 0 rfl) rfl rfl ?_
  refine q_aload_n (pc' := 2) (dk_at dkX2_takeFrom 1 rfl) rfl rfl ?_
  refine r_getf (pc' := 5) fl_RX2_27 (dk_at dkX2_takeFrom 2 rfl) hQ.obj rfl rfl ?_
  refine r_putf (pc' := 8) fp_RX2_27 (dk_at dkX2_takeFrom 3 rfl) hS.obj (Nat.le_of_ble_eq_true rfl) (PT_int _) rfl (fun hh1 ehh1 => ?_)
  have hS := hS.w_obj ehh1
  have hQ := hQ.off ehh1 (by omega)
  have hF := hF.put ehh1 (by omega)
  refine q_iconst (pc' := 9) (dk_at dkX2_takeFrom 4 rfl) rfl ?_
  refine q_istore_n (pc' := 10) (L' := [some (vR s), some (vR q), some (vI 0)]) (dk_at dkX2_takeFrom 5 rfl) (by decide) rfl rfl ?_
  refine l_shTake1 (h := h) (V := V) hd hsq ?_ 5 0 V _ rfl (fun k => by rw [if_neg (by omega)]) hS hQ hF
  intro i V1 h1 hv hS hQ hF
  refine q_iconst (pc' := 41) (dk_at dkX2_takeFrom 23 rfl) rfl ?_
  refine q_istore_n (pc' := 42) (L' := [some (vR s), some (vR q), some (vI 0)]) (dk_at dkX2_takeFrom 24 rfl) (by decide) rfl rfl ?_
  refine l_shTake2 (h := h) (T := T) hd hsq ?_ 5 0 T _ rfl (fun k => by rw [if_neg (by omega)]) hS hQ hF
  intro i2 T1 h2 ht hS hQ hF
  refine q_aload_n (pc' := 72) (dk_at dkX2_takeFrom 42 rfl) rfl rfl ?_
  refine q_aload_n (pc' := 73) (dk_at dkX2_takeFrom 43 rfl) rfl rfl ?_
  refine r_getf (pc' := 76) fl_RX2_36 (dk_at dkX2_takeFrom 44 rfl) hQ.obj rfl rfl ?_
  refine r_putf (pc' := 79) fp_RX2_36 (dk_at dkX2_takeFrom 45 rfl) hS.obj (Nat.le_of_ble_eq_true rfl) (PT_bool (by omega)) rfl (fun hh2 ehh2 => ?_)
  have hS := hS.w_obj ehh2
  have hQ := hQ.off ehh2 (by omega)
  have hF := hF.put ehh2 (by omega)
  refine q_aload_n (pc' := 80) (dk_at dkX2_takeFrom 46 rfl) rfl rfl ?_
  refine q_aload_n (pc' := 81) (dk_at dkX2_takeFrom 47 rfl) rfl rfl ?_
  refine r_getf (pc' := 84) fl_RX2_19 (dk_at dkX2_takeFrom 48 rfl) hQ.obj rfl rfl ?_
  refine r_putf (pc' := 87) fp_RX2_19 (dk_at dkX2_takeFrom 49 rfl) hS.obj (Nat.le_of_ble_eq_true rfl) (PT_bool (by omega)) rfl (fun hh3 ehh3 => ?_)
  have hS := hS.w_obj ehh3
  have hQ := hQ.off ehh3 (by omega)
  have hF := hF.put ehh3 (by omega)
  refine q_aload_n (pc' := 88) (dk_at dkX2_takeFrom 50 rfl) rfl rfl ?_
  refine q_aload_n (pc' := 89) (dk_at dkX2_takeFrom 51 rfl) rfl rfl ?_
  refine r_getf (pc' := 92) fl_RX2_23 (dk_at dkX2_takeFrom 52 rfl) hQ.obj rfl rfl ?_
  refine r_putf (pc' := 95) fp_RX2_23 (dk_at dkX2_takeFrom 53 rfl) hS.obj (Nat.le_of_ble_eq_true rfl) (PT_int _) rfl (fun hh4 ehh4 => ?_)
  have hS := hS.w_obj ehh4
  have hQ := hQ.off ehh4 (by omega)
  have hF := hF.put ehh4 (by omega)
  refine r_vret rfl (dk_at dkX2_takeFrom 54 rfl) ?_
  exact ⟨hS.cong hv ht, hF⟩

theorem k_Shop_takeFrom {d n : Nat} {h : PH} {s q : Nat} {S Q : Shp} (hd : 1 ≤ d) (hsq : s + 13 ≤ q ∨ q + 13 ≤ s) (hQk : Sok Q) (hS : isShp n h s S) (hQ : isShp n h q Q) : CtrV mX2_takeFrom d [vR s, vR q] n h (fun h' => isShp n h' s Q ∧ Fr h h' s (s + 13)) := k_Shop_takeFrom0 hd hsq hQk.w hQk.e hS hQ