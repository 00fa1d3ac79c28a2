/-! Shop: drops, the hash; Arrays.fill -/
def dropR (f : Nat → Int) (job j : Nat) : Nat → Int := fun k => if job ≤ k ∧ k + 1 < j then f (k + 1) else f k
def dropV (V : Nat → Nat → Int) (job cnt : Nat) : Nat → Nat → Int := fun w => dropR (V w) job cnt
def Shp.drop (S : Shp) (job : Nat) : Shp := (S.cnt - 1, dropV S.V job S.cnt, S.T, S.wh, S.er, S.ob)
theorem dropR_step {f f1 : Nat → Int} {job j : Nat} (hj : job + 1 ≤ j) (h : f1 = dropR f job j) : upz f1 (j - 1) (f1 j) = dropR f job (j + 1) := by
  subst h
  funext k
  unfold dropR
  by_cases q : k = j - 1
  · subst q
    rw [upz_eq, if_neg (by omega), if_pos (by omega)]
    congr 1
    omega
  · rw [upz_ne q]
    by_cases q2 : job ≤ k ∧ k + 1 < j
    · rw [if_pos q2, if_pos (by omega)]
    · rw [if_neg q2, if_neg (by omega)]
theorem dropR_0 (f : Nat → Int) (job : Nat) : dropR f job (job + 1) = f := by
  funext k
  unfold dropR
  rw [if_neg (by omega)]
theorem upf_upf (V : Nat → Nat → Int) (i : Nat) (f g : Nat → Int) : upf (upf V i f) i g = upf V i g := by
  funext k
  unfold upf
  split <;> rfl
theorem upf_self {V : Nat → Nat → Int} {i : Nat} {f : Nat → Int} (h : V i = f) : upf V i f = V := by
  funext k
  by_cases q : k = i
  · subst q; rw [upf_eq, h]
  · rw [upf_ne q]
set_option maxHeartbeats 4000000 in
set_option maxRecDepth 100000 in
theorem l_shDrop1 {d n : Nat} {F : FT} {h : PH} {s cnt job w : Nat} {V1 T : Nat → Nat → Int} {wh er ob : Int} (hw : w < 5) (hc8 : cnt ≤ 8) (hjb : job < cnt) (hex : ∀ (V2 : Nat → Nat → Int) (h1 : PH) (j : Int), V2 = upf V1 w (dropR (V1 w) job cnt) → isShop n h1 s (cnt : Int) V2 T wh er ob → Fr h h1 s (s + 13) → QN mX2_dropJob d F 43 [some (vR s), some (vI (job : Int)), some (vI (w : Int)), some (vI j)] [] n h1) : ∀ (c : Nat) (j : Nat) (V2 : Nat → Nat → Int) (h1 : PH), (j + c = cnt) → (job + 1 ≤ j) → (V2 = upf V1 w (dropR (V1 w) job j)) → (isShop n h1 s (cnt : Int) V2 T wh er ob) → (Fr h h1 s (s + 13)) → QN mX2_dropJob d F 11 [some (vR s), some (vI (job : Int)), some (vI (w : Int)), some (vI (j : Int))] [] n h1 := by
  intro c
  induction c with
  | zero =>
    intro j V2 h1 hc hj hv hS hF
    refine q_iload_n (pc' := 12) (dk_at dkX2_dropJob 9 rfl) rfl rfl ?_
    refine q_aload_n (pc' := 13) (dk_at dkX2_dropJob 10 rfl) rfl rfl ?_
    refine r_getf (pc' := 16) fl_RX2_27 (dk_at dkX2_dropJob 11 rfl) hS.obj rfl rfl ?_
    refine q_icmp_ge (tgt := 43) (pc' := 19) (dk_at dkX2_dropJob 12 rfl) rfl rfl (by omega) (by omega) (fun c16 => ?_) (fun c16 => ?_)
    · have ej : j = cnt ∨ cnt ≤ j := by omega
      exact hex V2 h1 _ (by rw [hv, show j = cnt by omega]) hS hF
    · exfalso
      omega
  | succ c ih =>
    intro j V2 h1 hc hj hv hS hF
    refine q_iload_n (pc' := 12) (dk_at dkX2_dropJob 9 rfl) rfl rfl ?_
    refine q_aload_n (pc' := 13) (dk_at dkX2_dropJob 10 rfl) rfl rfl ?_
    refine r_getf (pc' := 16) fl_RX2_27 (dk_at dkX2_dropJob 11 rfl) hS.obj rfl rfl ?_
    refine q_icmp_ge (tgt := 43) (pc' := 19) (dk_at dkX2_dropJob 12 rfl) rfl rfl (by omega) (by omega) (fun c16 => ?_) (fun c16 => ?_)
    · have ej : j = cnt ∨ cnt ≤ j := by omega
      exact hex V2 h1 _ (by rw [hv, show j = cnt by omega]) hS hF
    · refine q_aload_n (pc' := 20) (dk_at dkX2_dropJob 13 rfl) rfl rfl ?_
      refine r_getf (pc' := 23) fl_RX2_11 (dk_at dkX2_dropJob 14 rfl) hS.obj rfl rfl ?_
      refine q_iload_n (pc' := 24) (dk_at dkX2_dropJob 15 rfl) rfl rfl ?_
      refine r_aald1 (pc' := 25) (dk_at dkX2_dropJob 16 rfl) hS.values w (by omega) (by omega) (by decide) rfl ?_
      refine q_iload_n (pc' := 26) (dk_at dkX2_dropJob 17 rfl) rfl rfl ?_
      refine q_iconst (pc' := 27) (dk_at dkX2_dropJob 18 rfl) rfl ?_
      refine q_isub (pc' := 28) (dk_at dkX2_dropJob 19 rfl) rfl ?_
      refine q_aload_n (pc' := 29) (dk_at dkX2_dropJob 20 rfl) rfl rfl ?_
      refine r_getf (pc' := 32) fl_RX2_11 (dk_at dkX2_dropJob 21 rfl) hS.obj rfl rfl ?_
      refine q_iload_n (pc' := 33) (dk_at dkX2_dropJob 22 rfl) rfl rfl ?_
      refine r_aald1 (pc' := 34) (dk_at dkX2_dropJob 23 rfl) hS.values w (by omega) (by omega) (by decide) rfl ?_
      refine q_iload_n (pc' := 35) (dk_at dkX2_dropJob 24 rfl) rfl rfl ?_
      refine r_iald (pc' := 36) (dk_at dkX2_dropJob 25 rfl) (hS.values_at w (by omega)) j (by omega) (by omega) (by decide) rfl ?_
      refine r_iast (pc' := 37) (dk_at dkX2_dropJob 26 rfl) (hS.values_at w (by omega)) (j - 1) (by omega) (by omega) (by decide) rfl (fun hh1 ehh1 => ?_)
      have hS := isShop.w_values (by omega) hS ehh1
      have hF := hF.put ehh1 (by omega)
      refine q_iinc (pc' := 40) (L' := [some (vR s), some (vI (job : Int)), some (vI (w : Int)), some (vI ((j : Int) + 1))]) (dk_at dkX2_dropJob 27 rfl) (by decide) rfl rfl rfl ?_
      rw [show ((j : Int) + 1) = ((j + 1 : Nat) : Int) by omega]
      refine q_goto (tgt := 11) (dk_at dkX2_dropJob 28 rfl) rfl ?_
      refine ih (j + 1) _ _ (by omega) (by omega) ?_ hS hF
      have e1 : V2 w = dropR (V1 w) job j := by rw [hv, upf_eq]
      rw [dropR_step (by omega) e1, hv, upf_upf]

set_option maxHeartbeats 4000000 in
set_option maxRecDepth 100000 in
theorem l_shDrop2 {d n : Nat} {h : PH} {s cnt job : Nat} {V T : Nat → Nat → Int} {wh er ob : Int} (hc8 : cnt ≤ 8) (hjb : job < cnt) : ∀ (c : Nat) (w : Nat) (V1 : Nat → Nat → Int) (h1 : PH) (x3 : Option PV), (w + c = 5) → (∀ k, V1 k = if k < w then dropR (V k) job cnt else V k) → (isShop n h1 s (cnt : Int) V1 T wh er ob) → (Fr h h1 s (s + 13)) → QN mX2_dropJob d (FV n (fun h' => isShop n h' s ((cnt : Int) - 1) (dropV V job cnt) T wh er ob ∧ Fr h h' s (s + 13))) 2 [some (vR s), some (vI (job : Int)), some (vI (w : Int)), x3] [] n h1 := by
  intro c
  induction c with
  | zero =>
    intro w V1 h1 x3 hc hv hS hF
    refine q_iload_n (pc' := 3) (dk_at dkX2_dropJob 2 rfl) rfl rfl ?_
    refine q_iconst (pc' := 4) (dk_at dkX2_dropJob 3 rfl) rfl ?_
    refine q_icmp_ge (tgt := 49) (pc' := 7) (dk_at dkX2_dropJob 4 rfl) rfl rfl (by omega) (by omega) (fun c4 => ?_) (fun c4 => ?_)
    · refine q_aload_n (pc' := 50) (dk_at dkX2_dropJob 31 rfl) rfl rfl ?_
      refine q_aload_n (pc' := 51) (dk_at dkX2_dropJob 32 rfl) rfl rfl ?_
      refine r_getf (pc' := 54) fl_RX2_27 (dk_at dkX2_dropJob 33 rfl) hS.obj rfl rfl ?_
      refine q_iconst (pc' := 55) (dk_at dkX2_dropJob 34 rfl) rfl ?_
      refine q_isub (pc' := 56) (dk_at dkX2_dropJob 35 rfl) rfl ?_
      refine r_putf (pc' := 59) fp_RX2_27 (dk_at dkX2_dropJob 36 rfl) hS.obj (Nat.le_of_ble_eq_true rfl) (PT_int _) rfl (fun hh1 ehh1 => ?_)
      have hS := hS.w_obj ehh1
      have hF := hF.put ehh1 (by omega)
      refine r_vret rfl (dk_at dkX2_dropJob 37 rfl) ?_
      refine ⟨?_, hF⟩
      exact hS.cong (fun i hi => by rw [hv, if_pos (by omega)]; rfl) (fun _ _ => rfl)
    · exfalso
      omega
  | succ c ih =>
    intro w V1 h1 x3 hc hv hS hF
    refine q_iload_n (pc' := 3) (dk_at dkX2_dropJob 2 rfl) rfl rfl ?_
    refine q_iconst (pc' := 4) (dk_at dkX2_dropJob 3 rfl) rfl ?_
    refine q_icmp_ge (tgt := 49) (pc' := 7) (dk_at dkX2_dropJob 4 rfl) rfl rfl (by omega) (by omega) (fun c4 => ?_) (fun c4 => ?_)
    · refine q_aload_n (pc' := 50) (dk_at dkX2_dropJob 31 rfl) rfl rfl ?_
      refine q_aload_n (pc' := 51) (dk_at dkX2_dropJob 32 rfl) rfl rfl ?_
      refine r_getf (pc' := 54) fl_RX2_27 (dk_at dkX2_dropJob 33 rfl) hS.obj rfl rfl ?_
      refine q_iconst (pc' := 55) (dk_at dkX2_dropJob 34 rfl) rfl ?_
      refine q_isub (pc' := 56) (dk_at dkX2_dropJob 35 rfl) rfl ?_
      refine r_putf (pc' := 59) fp_RX2_27 (dk_at dkX2_dropJob 36 rfl) hS.obj (Nat.le_of_ble_eq_true rfl) (PT_int _) rfl (fun hh1 ehh1 => ?_)
      have hS := hS.w_obj ehh1
      have hF := hF.put ehh1 (by omega)
      refine r_vret rfl (dk_at dkX2_dropJob 37 rfl) ?_
      refine ⟨?_, hF⟩
      exact hS.cong (fun i hi => by rw [hv, if_pos (by omega)]; rfl) (fun _ _ => rfl)
    · refine q_iload_n (pc' := 8) (dk_at dkX2_dropJob 5 rfl) rfl rfl ?_
      refine q_iconst (pc' := 9) (dk_at dkX2_dropJob 6 rfl) rfl ?_
      refine q_iadd (pc' := 10) (dk_at dkX2_dropJob 7 rfl) rfl ?_
      refine q_istore_n (pc' := 11) (L' := [some (vR s), some (vI (job : Int)), some (vI (w : Int)), some (vI ((job : Int) + 1))]) (dk_at dkX2_dropJob 8 rfl) (by decide) rfl rfl ?_
      refine l_shDrop1 (h := h) (V1 := V1) (cnt := cnt) (job := job) (w := w) (by omega) hc8 hjb ?_ (cnt - (job + 1)) (job + 1) V1 h1 (by omega) (Nat.le_refl _) (by rw [dropR_0, upf_self rfl]) hS hF
      intro V2 h3 j hv2 hS hF
      refine q_iinc (pc' := 46) (L' := [some (vR s), some (vI (job : Int)), some (vI ((w : Int) + 1)), some (vI j)]) (dk_at dkX2_dropJob 29 rfl) (by decide) rfl rfl rfl ?_
      rw [show ((w : Int) + 1) = ((w + 1 : Nat) : Int) by omega]
      refine q_goto (tgt := 2) (dk_at dkX2_dropJob 30 rfl) rfl ?_
      refine ih (w + 1) _ _ _ (by omega) ?_ hS hF
      intro k
      rw [hv2]
      by_cases q : k = w
      · subst q; rw [upf_eq, if_pos (by omega), hv, if_neg (by omega)]
      · rw [upf_ne q, hv]
        by_cases q2 : k < w
        · rw [if_pos q2, if_pos (by omega)]
        · rw [if_neg q2, if_neg (by omega)]

set_option maxHeartbeats 4000000 in
set_option maxRecDepth 100000 in
theorem k_Shop_dropJob0 {d n : Nat} {h : PH} {s cnt job : Nat} {V T : Nat → Nat → Int} {wh er ob : Int} (hc8 : cnt ≤ 8) (hjb : job < cnt) (hS : isShop n h s (cnt : Int) V T wh er ob) : CtrV mX2_dropJob d [vR s, vI (job : Int)] n h (fun h' => isShop n h' s ((cnt : Int) - 1) (dropV V job cnt) T wh er ob ∧ Fr h h' s (s + 13)) := by
  refine q_beginV (L := [some (vR s), some (vI (job : Int)), none, none]) rfl ?_
  refine q_iconst (pc' := 1) (dk_at dkX2_dropJob 0 rfl) rfl ?_
  refine q_istore_n (pc' := 2) (L' := [some (vR s), some (vI (job : Int)), some (vI 0), none]) (dk_at dkX2_dropJob 1 rfl) (by decide) rfl rfl ?_
  exact l_shDrop2 hc8 hjb 5 0 V h none (by omega) (fun k => by rw [if_neg (by omega)]) hS Fr.rf

theorem CtrV.mono {M : MD} {d : Nat} {As : List PV} {n : Nat} {h : PH} {post post' : PH → Prop} (H : CtrV M d As n h post) (hi : ∀ h', post h' → post' h') : CtrV M d As n h post' := by
  intro p l e R s m args below meth c D B K X Hp locs ls O Hl HP Hs HS T hT Xs
  obtain ⟨t, a1, o, b1, b2, ⟨r, n', h', c1, ⟨c2, c3, c4⟩, c5⟩, c6⟩ := H p l e R s m args below meth c D B K X Hp locs ls O Hl HP Hs HS T hT Xs
  exact ⟨t, a1, o, b1, b2, ⟨r, n', h', c1, ⟨c2, c3, hi h' c4⟩, c5⟩, c6⟩
theorem CtrI.mono {M : MD} {d : Nat} {As : List PV} {n : Nat} {h : PH} {post post' : Int → PH → Prop} (H : CtrI M d As n h post) (hi : ∀ x h', post x h' → post' x h') : CtrI M d As n h post' := by
  intro p l e R s m args below meth c D B K X Hp locs ls O Hl HP Hs HS T hT Xs
  obtain ⟨t, a1, o, b1, b2, ⟨r, n', h', c1, ⟨x, c2, c3, c4⟩, c5⟩, c6⟩ := H p l e R s m args below meth c D B K X Hp locs ls O Hl HP Hs HS T hT Xs
  exact ⟨t, a1, o, b1, b2, ⟨r, n', h', c1, ⟨x, c2, c3, hi x h' c4⟩, c5⟩, c6⟩
theorem CtrJ.mono {M : MD} {d : Nat} {As : List PV} {n : Nat} {h : PH} {post post' : Int → PH → Prop} (H : CtrJ M d As n h post) (hi : ∀ x h', post x h' → post' x h') : CtrJ M d As n h post' := by
  intro p l e R s m args below meth c D B K X Hp locs ls O Hl HP Hs HS T hT Xs
  obtain ⟨t, a1, o, b1, b2, ⟨r, n', h', c1, ⟨x, c2, c3, c4⟩, c5⟩, c6⟩ := H p l e R s m args below meth c D B K X Hp locs ls O Hl HP Hs HS T hT Xs
  exact ⟨t, a1, o, b1, b2, ⟨r, n', h', c1, ⟨x, c2, c3, hi x h' c4⟩, c5⟩, c6⟩
theorem k_Shop_dropJob {d n : Nat} {h : PH} {s job : Nat} {S : Shp} (hc8 : S.cnt ≤ 8) (hjb : job < S.cnt) (hS : isShp n h s S) : CtrV mX2_dropJob d [vR s, vI (job : Int)] n h (fun h' => isShp n h' s (S.drop job) ∧ Fr h h' s (s + 13)) := by
  refine (k_Shop_dropJob0 hc8 hjb hS).mono (fun h' q => ⟨?_, q.2⟩)
  unfold isShp
  have e : (((S.drop job).cnt : Nat) : Int) = (S.cnt : Int) - 1 := by
    show ((S.cnt - 1 : Nat) : Int) = _
    omega
  rw [e]
  exact q.1
def zeroR (f : Nat → Int) (r t : Nat) : Nat → Int := fun k => if k < t ∧ r ≠ k + 1 then 0 else f k
def noSet (T : Nat → Nat → Int) : Nat → Nat → Int := fun r => zeroR (T r) r 4
def Shp.free (S : Shp) : Shp := (S.cnt, S.V, noSet S.T, S.wh, S.er, S.ob)
theorem zeroR_0 (f : Nat → Int) (r : Nat) : zeroR f r 0 = f := by
  funext k
  unfold zeroR
  rw [if_neg (by omega)]
theorem zeroR_a {f f1 : Nat → Int} {r t : Nat} (h : f1 = zeroR f r t) (ht : r ≠ t + 1) : upz f1 t 0 = zeroR f r (t + 1) := by
  subst h
  funext k
  unfold zeroR
  by_cases q : k = t
  · subst q
    rw [upz_eq, if_pos (by omega)]
  · rw [upz_ne q]
    by_cases q2 : k < t ∧ r ≠ k + 1
    · rw [if_pos q2, if_pos (by omega)]
    · rw [if_neg q2, if_neg (by omega)]
theorem zeroR_b {f f1 : Nat → Int} {r t : Nat} (h : f1 = zeroR f r t) (ht : r = t + 1) : f1 = zeroR f r (t + 1) := by
  subst h
  funext k
  unfold zeroR
  by_cases q2 : k < t ∧ r ≠ k + 1
  · rw [if_pos q2, if_pos (by omega)]
  · rw [if_neg q2, if_neg (by omega)]
set_option maxHeartbeats 4000000 in
set_option maxRecDepth 100000 in
theorem l_noS1 {d n : Nat} {F : FT} {h : PH} {s r : Nat} {cnt : Int} {V T1 : Nat → Nat → Int} {wh er ob : Int} (hr : r < 5) (hex : ∀ (T2 : Nat → Nat → Int) (h1 : PH) (t : Int), T2 = upf T1 r (zeroR (T1 r) r 4) → isShop n h1 s cnt V T2 wh er ob → Fr h h1 s (s + 13) → QN mX2_dropSetups d F 36 [some (vR s), some (vI (r : Int)), some (vI t)] [] n h1) : ∀ (c : Nat) (t : Nat) (T2 : Nat → Nat → Int) (h1 : PH), (t + c = 4) → (T2 = upf T1 r (zeroR (T1 r) r t)) → (isShop n h1 s cnt V T2 wh er ob) → (Fr h h1 s (s + 13)) → QN mX2_dropSetups d F 9 [some (vR s), some (vI (r : Int)), some (vI (t : Int))] [] n h1 := by
  intro c
  induction c with
  | zero =>
    intro t T2 h1 hc ht hS hF
    refine q_iload_n (pc' := 10) (dk_at dkX2_dropSetups 7 rfl) rfl rfl ?_
    refine q_iconst (pc' := 11) (dk_at dkX2_dropSetups 8 rfl) rfl ?_
    refine q_icmp_ge (tgt := 36) (pc' := 14) (dk_at dkX2_dropSetups 9 rfl) rfl rfl (by omega) (by omega) (fun c11 => ?_) (fun c11 => ?_)
    · exact hex T2 h1 _ (by rw [ht, show t = 4 by omega]) hS hF
    · exfalso
      omega
  | succ c ih =>
    intro t T2 h1 hc ht hS hF
    refine q_iload_n (pc' := 10) (dk_at dkX2_dropSetups 7 rfl) rfl rfl ?_
    refine q_iconst (pc' := 11) (dk_at dkX2_dropSetups 8 rfl) rfl ?_
    refine q_icmp_ge (tgt := 36) (pc' := 14) (dk_at dkX2_dropSetups 9 rfl) rfl rfl (by omega) (by omega) (fun c11 => ?_) (fun c11 => ?_)
    · exact hex T2 h1 _ (by rw [ht, show t = 4 by omega]) hS hF
    · refine q_iload_n (pc' := 15) (dk_at dkX2_dropSetups 10 rfl) rfl rfl ?_
      refine q_iload_n (pc' := 16) (dk_at dkX2_dropSetups 11 rfl) rfl rfl ?_
      refine q_iconst (pc' := 17) (dk_at dkX2_dropSetups 12 rfl) rfl ?_
      refine q_iadd (pc' := 18) (dk_at dkX2_dropSetups 13 rfl) rfl ?_
      refine q_icmp_eq (tgt := 30) (pc' := 21) (dk_at dkX2_dropSetups 14 rfl) rfl rfl (by omega) (by omega) (fun c18 => ?_) (fun c18 => ?_)
      · refine q_iinc (pc' := 33) (L' := [some (vR s), some (vI (r : Int)), some (vI ((t : Int) + 1))]) (dk_at dkX2_dropSetups 22 rfl) (by decide) rfl rfl rfl ?_
        rw [show ((t : Int) + 1) = ((t + 1 : Nat) : Int) by omega]
        refine q_goto (tgt := 9) (dk_at dkX2_dropSetups 23 rfl) rfl ?_
        refine ih (t + 1) T2 h1 (by omega) ?_ hS hF
        have e1 : T2 r = zeroR (T1 r) r t := by rw [ht, upf_eq]
        rw [← zeroR_b e1 (by omega), e1]
        exact ht
      · refine q_aload_n (pc' := 22) (dk_at dkX2_dropSetups 15 rfl) rfl rfl ?_
        refine r_getf (pc' := 25) fl_RX2_16 (dk_at dkX2_dropSetups 16 rfl) hS.obj rfl rfl ?_
        refine q_iload_n (pc' := 26) (dk_at dkX2_dropSetups 17 rfl) rfl rfl ?_
        refine r_aald1 (pc' := 27) (dk_at dkX2_dropSetups 18 rfl) hS.setups r (by omega) (by omega) (by decide) rfl ?_
        refine q_iload_n (pc' := 28) (dk_at dkX2_dropSetups 19 rfl) rfl rfl ?_
        refine q_iconst (pc' := 29) (dk_at dkX2_dropSetups 20 rfl) rfl ?_
        refine r_iast (pc' := 30) (dk_at dkX2_dropSetups 21 rfl) (hS.setups_at r (by omega)) t (by omega) (by omega) (by decide) rfl (fun hh1 ehh1 => ?_)
        have hS := isShop.w_setups (by omega) hS ehh1
        have hF := hF.put ehh1 (by omega)
        refine q_iinc (pc' := 33) (L' := [some (vR s), some (vI (r : Int)), some (vI ((t : Int) + 1))]) (dk_at dkX2_dropSetups 22 rfl) (by decide) rfl rfl rfl ?_
        rw [show ((t : Int) + 1) = ((t + 1 : Nat) : Int) by omega]
        refine q_goto (tgt := 9) (dk_at dkX2_dropSetups 23 rfl) rfl ?_
        refine ih (t + 1) _ _ (by omega) ?_ hS hF
        have e1 : T2 r = zeroR (T1 r) r t := by rw [ht, upf_eq]
        rw [zeroR_a e1 (by omega), ht, upf_upf]

set_option maxHeartbeats 4000000 in
set_option maxRecDepth 100000 in
theorem l_noS2 {d n : Nat} {h : PH} {s : Nat} {cnt : Int} {V T : Nat → Nat → Int} {wh er ob : Int} : ∀ (c : Nat) (r : Nat) (T1 : Nat → Nat → Int) (h1 : PH) (x2 : Option PV), (r + c = 5) → (∀ k, T1 k = if k < r then zeroR (T k) k 4 else T k) → (isShop n h1 s cnt V T1 wh er ob) → (Fr h h1 s (s + 13)) → QN mX2_dropSetups d (FV n (fun h' => isShop n h' s cnt V (noSet T) wh er ob ∧ Fr h h' s (s + 13))) 2 [some (vR s), some (vI (r : Int)), x2] [] n h1 := by
  intro c
  induction c with
  | zero =>
    intro r T1 h1 x2 hc hv hS hF
    refine q_iload_n (pc' := 3) (dk_at dkX2_dropSetups 2 rfl) rfl rfl ?_
    refine q_iconst (pc' := 4) (dk_at dkX2_dropSetups 3 rfl) rfl ?_
    refine q_icmp_gt (tgt := 42) (pc' := 7) (dk_at dkX2_dropSetups 4 rfl) rfl rfl (by omega) (by omega) (fun c4 => ?_) (fun c4 => ?_)
    · refine r_vret rfl (dk_at dkX2_dropSetups 26 rfl) ?_
      refine ⟨?_, hF⟩
      exact hS.cong (fun _ _ => rfl) (fun i hi => by rw [hv, if_pos (by omega)]; rfl)
    · exfalso
      omega
  | succ c ih =>
    intro r T1 h1 x2 hc hv hS hF
    refine q_iload_n (pc' := 3) (dk_at dkX2_dropSetups 2 rfl) rfl rfl ?_
    refine q_iconst (pc' := 4) (dk_at dkX2_dropSetups 3 rfl) rfl ?_
    refine q_icmp_gt (tgt := 42) (pc' := 7) (dk_at dkX2_dropSetups 4 rfl) rfl rfl (by omega) (by omega) (fun c4 => ?_) (fun c4 => ?_)
    · refine r_vret rfl (dk_at dkX2_dropSetups 26 rfl) ?_
      refine ⟨?_, hF⟩
      exact hS.cong (fun _ _ => rfl) (fun i hi => by rw [hv, if_pos (by omega)]; rfl)
    · refine q_iconst (pc' := 8) (dk_at dkX2_dropSetups 5 rfl) rfl ?_
      refine q_istore_n (pc' := 9) (L' := [some (vR s), some (vI (r : Int)), some (vI 0)]) (dk_at dkX2_dropSetups 6 rfl) (by decide) rfl rfl ?_
      refine l_noS1 (h := h) (T1 := T1) (r := r) (by omega) ?_ 4 0 T1 h1 (by omega) (by rw [zeroR_0, upf_self rfl]) hS hF
      intro T2 h3 t hv2 hS hF
      refine q_iinc (pc' := 39) (L' := [some (vR s), some (vI ((r : Int) + 1)), some (vI t)]) (dk_at dkX2_dropSetups 24 rfl) (by decide) rfl rfl rfl ?_
      rw [show ((r : Int) + 1) = ((r + 1 : Nat) : Int) by omega]
      refine q_goto (tgt := 2) (dk_at dkX2_dropSetups 25 rfl) rfl ?_
      refine ih (r + 1) _ _ _ (by omega) ?_ hS hF
      intro k
      rw [hv2]
      by_cases q : k = r
      · subst q; rw [upf_eq, if_pos (by omega), hv, if_neg (by omega)]
      · rw [upf_ne q, hv]
        by_cases q2 : k < r
        · rw [if_pos q2, if_pos (by omega)]
        · rw [if_neg q2, if_neg (by omega)]

set_option maxHeartbeats 4000000 in
set_option maxRecDepth 100000 in
theorem k_Shop_dropSetups {d n : Nat} {h : PH} {s : Nat} {S : Shp} (hS : isShp n h s S) : CtrV mX2_dropSetups d [vR s] n h (fun h' => isShp n h' s S.free ∧ Fr h h' s (s + 13)) := by
  unfold isShp at hS
  refine q_beginV (L := [some (vR s), none, none]) rfl ?_
  refine q_iconst (pc' := 1) (dk_at dkX2_dropSetups 0 rfl) rfl ?_
  refine q_istore_n (pc' := 2) (L' := [some (vR s), some (vI 0), none]) (dk_at dkX2_dropSetups 1 rfl) (by decide) rfl rfl ?_
  exact l_noS2 5 0 _ h none (by omega) (fun k => by rw [if_neg (by omega)]) hS Fr.rf

def mxW (f : Nat → Int) (h : Int) : Nat → Int
  | 0 => h
  | w + 1 => 31 * mxW f h w + f w
def mxO (g : Nat → Nat → Int) (N : Nat) (h : Int) : Nat → Int
  | 0 => h
  | j + 1 => mxW (g j) (mxO g N h j) N
def mixS (S : Shp) (h : Int) : Int := 31 * (31 * (31 * mxO (fun r t => S.T r t) 4 (mxO (fun j w => S.V w j) 5 (31 * h + S.cnt) S.cnt) 5 + S.wh) + S.er) + S.ob
set_option maxHeartbeats 4000000 in
set_option maxRecDepth 100000 in
theorem l_mixA {d n : Nat} {F : FT} {h : PH} {s j : Nat} {S : Shp} {z0 y : Int} (hd : 1 ≤ d) (hV : Vok S.V) (hT : Tok S.T) (hS : isShop n h s (S.cnt : Int) S.V S.T S.wh S.er S.ob) (hj : j < 8) (hex : ∀ (z : Int) (w : Int), z = mxW (fun w => S.V w j) y 5 → QN mX2_mixInto d F 53 [some (vR s), some (vJ z0), none, some (vJ z), none, some (vI (j : Int)), some (vI w)] [] n h) : ∀ (c : Nat) (w : Nat) (z : Int), (w + c = 5) → (z = mxW (fun w => S.V w j) y w) → QN mX2_mixInto d F 25 [some (vR s), some (vJ z0), none, some (vJ z), none, some (vI (j : Int)), some (vI (w : Int))] [] n h := by
  intro c
  induction c with
  | zero =>
    intro w z hc hz
    refine q_iload (pc' := 27) (dk_at dkX2_mixInto 14 rfl) rfl rfl ?_
    refine q_iconst (pc' := 28) (dk_at dkX2_mixInto 15 rfl) rfl ?_
    refine q_icmp_ge (tgt := 53) (pc' := 31) (dk_at dkX2_mixInto 16 rfl) rfl rfl (by omega) (by omega) (fun c28 => ?_) (fun c28 => ?_)
    · exact hex z _ (by rw [hz, show w = 5 by omega])
    · exfalso
      omega
  | succ c ih =>
    intro w z hc hz
    refine q_iload (pc' := 27) (dk_at dkX2_mixInto 14 rfl) rfl rfl ?_
    refine q_iconst (pc' := 28) (dk_at dkX2_mixInto 15 rfl) rfl ?_
    refine q_icmp_ge (tgt := 53) (pc' := 31) (dk_at dkX2_mixInto 16 rfl) rfl rfl (by omega) (by omega) (fun c28 => ?_) (fun c28 => ?_)
    · exact hex z _ (by rw [hz, show w = 5 by omega])
    · refine q_lload_n (pc' := 32) (dk_at dkX2_mixInto 17 rfl) rfl rfl ?_
      refine q_aload_n (pc' := 33) (dk_at dkX2_mixInto 18 rfl) rfl rfl ?_
      refine r_getf (pc' := 36) fl_RX2_11 (dk_at dkX2_mixInto 19 rfl) hS.obj rfl rfl ?_
      refine q_iload (pc' := 38) (dk_at dkX2_mixInto 20 rfl) rfl rfl ?_
      refine r_aald1 (pc' := 39) (dk_at dkX2_mixInto 21 rfl) hS.values w (by omega) (by omega) (by decide) rfl ?_
      refine q_iload (pc' := 41) (dk_at dkX2_mixInto 22 rfl) rfl rfl ?_
      refine r_iald (pc' := 42) (dk_at dkX2_mixInto 23 rfl) (hS.values_at w (by omega)) j (by omega) (by omega) (by decide) rfl ?_
      have bb1 := hV w j
      refine q_i2l (pc' := 43) (dk_at dkX2_mixInto 24 rfl) (by omega) rfl ?_
      refine r_cSNJ (pc' := 46) (As := [vJ z, vJ ((S.V w) j)]) (S := []) cs_RX2_68 (dk_at dkX2_mixInto 25 rfl) (k_mixed (d := 0)) (by omega) (Nat.zero_le _) (Nat.zero_le _) rfl (Nat.le_of_ble_eq_true rfl) rfl (Nat.le_of_ble_eq_true rfl) rfl (fun xx2 hh3 hphh3 => ?_)
      obtain ⟨qq4, rfl⟩ := hphh3
      rw [qq4]
      refine q_lstore_n (pc' := 47) (L' := [some (vR s), some (vJ z0), none, some (vJ (31 * z + ((S.V w) j))), none, some (vI (j : Int)), some (vI (w : Int))]) (dk_at dkX2_mixInto 26 rfl) (by decide) rfl rfl ?_
      refine q_iinc (pc' := 50) (L' := [some (vR s), some (vJ z0), none, some (vJ (31 * z + ((S.V w) j))), none, some (vI (j : Int)), some (vI ((w : Int) + 1))]) (dk_at dkX2_mixInto 27 rfl) (by decide) rfl rfl rfl ?_
      rw [show ((w : Int) + 1) = ((w + 1 : Nat) : Int) by omega]
      refine q_goto (tgt := 25) (dk_at dkX2_mixInto 28 rfl) rfl ?_
      exact ih (w + 1) _ (by omega) (by rw [hz]; rfl)

set_option maxHeartbeats 4000000 in
set_option maxRecDepth 100000 in
theorem l_mixB {d n : Nat} {F : FT} {h : PH} {s j : Nat} {S : Shp} {z0 y : Int} (hd : 1 ≤ d) (hV : Vok S.V) (hT : Tok S.T) (hS : isShop n h s (S.cnt : Int) S.V S.T S.wh S.er S.ob) (hj : j < 5) (hex : ∀ (z : Int) (w : Int), z = mxW (fun t => S.T j t) y 4 → QN mX2_mixInto d F 99 [some (vR s), some (vJ z0), none, some (vJ z), none, some (vI (j : Int)), some (vI w)] [] n h) : ∀ (c : Nat) (w : Nat) (z : Int), (w + c = 4) → (z = mxW (fun t => S.T j t) y w) → QN mX2_mixInto d F 71 [some (vR s), some (vJ z0), none, some (vJ z), none, some (vI (j : Int)), some (vI (w : Int))] [] n h := by
  intro c
  induction c with
  | zero =>
    intro w z hc hz
    refine q_iload (pc' := 73) (dk_at dkX2_mixInto 38 rfl) rfl rfl ?_
    refine q_iconst (pc' := 74) (dk_at dkX2_mixInto 39 rfl) rfl ?_
    refine q_icmp_ge (tgt := 99) (pc' := 77) (dk_at dkX2_mixInto 40 rfl) rfl rfl (by omega) (by omega) (fun c74 => ?_) (fun c74 => ?_)
    · exact hex z _ (by rw [hz, show w = 4 by omega])
    · exfalso
      omega
  | succ c ih =>
    intro w z hc hz
    refine q_iload (pc' := 73) (dk_at dkX2_mixInto 38 rfl) rfl rfl ?_
    refine q_iconst (pc' := 74) (dk_at dkX2_mixInto 39 rfl) rfl ?_
    refine q_icmp_ge (tgt := 99) (pc' := 77) (dk_at dkX2_mixInto 40 rfl) rfl rfl (by omega) (by omega) (fun c74 => ?_) (fun c74 => ?_)
    · exact hex z _ (by rw [hz, show w = 4 by omega])
    · refine q_lload_n (pc' := 78) (dk_at dkX2_mixInto 41 rfl) rfl rfl ?_
      refine q_aload_n (pc' := 79) (dk_at dkX2_mixInto 42 rfl) rfl rfl ?_
      refine r_getf (pc' := 82) fl_RX2_16 (dk_at dkX2_mixInto 43 rfl) hS.obj rfl rfl ?_
      refine q_iload (pc' := 84) (dk_at dkX2_mixInto 44 rfl) rfl rfl ?_
      refine r_aald1 (pc' := 85) (dk_at dkX2_mixInto 45 rfl) hS.setups j (by omega) (by omega) (by decide) rfl ?_
      refine q_iload (pc' := 87) (dk_at dkX2_mixInto 46 rfl) rfl rfl ?_
      refine r_iald (pc' := 88) (dk_at dkX2_mixInto 47 rfl) (hS.setups_at j (by omega)) w (by omega) (by omega) (by decide) rfl ?_
      have bb1 := hT j w
      refine q_i2l (pc' := 89) (dk_at dkX2_mixInto 48 rfl) (by omega) rfl ?_
      refine r_cSNJ (pc' := 92) (As := [vJ z, vJ ((S.T j) w)]) (S := []) cs_RX2_68 (dk_at dkX2_mixInto 49 rfl) (k_mixed (d := 0)) (by omega) (Nat.zero_le _) (Nat.zero_le _) rfl (Nat.le_of_ble_eq_true rfl) rfl (Nat.le_of_ble_eq_true rfl) rfl (fun xx2 hh3 hphh3 => ?_)
      obtain ⟨qq4, rfl⟩ := hphh3
      rw [qq4]
      refine q_lstore_n (pc' := 93) (L' := [some (vR s), some (vJ z0), none, some (vJ (31 * z + ((S.T j) w))), none, some (vI (j : Int)), some (vI (w : Int))]) (dk_at dkX2_mixInto 50 rfl) (by decide) rfl rfl ?_
      refine q_iinc (pc' := 96) (L' := [some (vR s), some (vJ z0), none, some (vJ (31 * z + ((S.T j) w))), none, some (vI (j : Int)), some (vI ((w : Int) + 1))]) (dk_at dkX2_mixInto 51 rfl) (by decide) rfl rfl rfl ?_
      rw [show ((w : Int) + 1) = ((w + 1 : Nat) : Int) by omega]
      refine q_goto (tgt := 71) (dk_at dkX2_mixInto 52 rfl) rfl ?_
      exact ih (w + 1) _ (by omega) (by rw [hz]; rfl)

set_option maxHeartbeats 4000000 in
set_option maxRecDepth 100000 in
theorem l_mixC {d n : Nat} {F : FT} {h : PH} {s : Nat} {S : Shp} {z0 y : Int} (hd : 1 ≤ d) (hc8 : S.cnt ≤ 8) (hV : Vok S.V) (hT : Tok S.T) (hS : isShop n h s (S.cnt : Int) S.V S.T S.wh S.er S.ob) (hex : ∀ (z : Int) (j : Int) (x6 : Option PV), z = mxO (fun j w => S.V w j) 5 y S.cnt → QN mX2_mixInto d F 59 [some (vR s), some (vJ z0), none, some (vJ z), none, some (vI j), x6] [] n h) : ∀ (c : Nat) (j : Nat) (z : Int) (x6 : Option PV), (j + c = S.cnt) → (z = mxO (fun j w => S.V w j) 5 y j) → QN mX2_mixInto d F 13 [some (vR s), some (vJ z0), none, some (vJ z), none, some (vI (j : Int)), x6] [] n h := by
  intro c
  induction c with
  | zero =>
    intro j z x6 hc hz
    refine q_iload (pc' := 15) (dk_at dkX2_mixInto 8 rfl) rfl rfl ?_
    refine q_aload_n (pc' := 16) (dk_at dkX2_mixInto 9 rfl) rfl rfl ?_
    refine r_getf (pc' := 19) fl_RX2_27 (dk_at dkX2_mixInto 10 rfl) hS.obj rfl rfl ?_
    refine q_icmp_ge (tgt := 59) (pc' := 22) (dk_at dkX2_mixInto 11 rfl) rfl rfl (by omega) (by omega) (fun c19 => ?_) (fun c19 => ?_)
    · exact hex z _ _ (by rw [hz, show j = S.cnt by omega])
    · exfalso
      omega
  | succ c ih =>
    intro j z x6 hc hz
    refine q_iload (pc' := 15) (dk_at dkX2_mixInto 8 rfl) rfl rfl ?_
    refine q_aload_n (pc' := 16) (dk_at dkX2_mixInto 9 rfl) rfl rfl ?_
    refine r_getf (pc' := 19) fl_RX2_27 (dk_at dkX2_mixInto 10 rfl) hS.obj rfl rfl ?_
    refine q_icmp_ge (tgt := 59) (pc' := 22) (dk_at dkX2_mixInto 11 rfl) rfl rfl (by omega) (by omega) (fun c19 => ?_) (fun c19 => ?_)
    · exact hex z _ _ (by rw [hz, show j = S.cnt by omega])
    · refine q_iconst (pc' := 23) (dk_at dkX2_mixInto 12 rfl) rfl ?_
      refine q_istore (pc' := 25) (L' := [some (vR s), some (vJ z0), none, some (vJ z), none, some (vI (j : Int)), some (vI 0)]) (dk_at dkX2_mixInto 13 rfl) (by decide) rfl rfl ?_
      refine l_mixA (y := z) hd hV hT hS (by omega) ?_ 5 0 z (by omega) rfl
      intro z2 w2 hz2
      refine q_iinc (pc' := 56) (L' := [some (vR s), some (vJ z0), none, some (vJ z2), none, some (vI ((j : Int) + 1)), some (vI w2)]) (dk_at dkX2_mixInto 29 rfl) (by decide) rfl rfl rfl ?_
      rw [show ((j : Int) + 1) = ((j + 1 : Nat) : Int) by omega]
      refine q_goto (tgt := 13) (dk_at dkX2_mixInto 30 rfl) rfl ?_
      exact ih (j + 1) _ _ (by omega) (by rw [hz2, hz]; rfl)

set_option maxHeartbeats 4000000 in
set_option maxRecDepth 100000 in
theorem l_mixD {d n : Nat} {F : FT} {h : PH} {s : Nat} {S : Shp} {z0 y : Int} (hd : 1 ≤ d) (hV : Vok S.V) (hT : Tok S.T) (hS : isShop n h s (S.cnt : Int) S.V S.T S.wh S.er S.ob) (hex : ∀ (z : Int) (j : Int) (x6 : Option PV), z = mxO (fun r t => S.T r t) 4 y 5 → QN mX2_mixInto d F 105 [some (vR s), some (vJ z0), none, some (vJ z), none, some (vI j), x6] [] n h) : ∀ (c : Nat) (j : Nat) (z : Int) (x6 : Option PV), (j + c = 5) → (z = mxO (fun r t => S.T r t) 4 y j) → QN mX2_mixInto d F 62 [some (vR s), some (vJ z0), none, some (vJ z), none, some (vI (j : Int)), x6] [] n h := by
  intro c
  induction c with
  | zero =>
    intro j z x6 hc hz
    refine q_iload (pc' := 64) (dk_at dkX2_mixInto 33 rfl) rfl rfl ?_
    refine q_iconst (pc' := 65) (dk_at dkX2_mixInto 34 rfl) rfl ?_
    refine q_icmp_gt (tgt := 105) (pc' := 68) (dk_at dkX2_mixInto 35 rfl) rfl rfl (by omega) (by omega) (fun c65 => ?_) (fun c65 => ?_)
    · exact hex z _ _ (by rw [hz, show j = 5 by omega])
    · exfalso
      omega
  | succ c ih =>
    intro j z x6 hc hz
    refine q_iload (pc' := 64) (dk_at dkX2_mixInto 33 rfl) rfl rfl ?_
    refine q_iconst (pc' := 65) (dk_at dkX2_mixInto 34 rfl) rfl ?_
    refine q_icmp_gt (tgt := 105) (pc' := 68) (dk_at dkX2_mixInto 35 rfl) rfl rfl (by omega) (by omega) (fun c65 => ?_) (fun c65 => ?_)
    · exact hex z _ _ (by rw [hz, show j = 5 by omega])
    · refine q_iconst (pc' := 69) (dk_at dkX2_mixInto 36 rfl) rfl ?_
      refine q_istore (pc' := 71) (L' := [some (vR s), some (vJ z0), none, some (vJ z), none, some (vI (j : Int)), some (vI 0)]) (dk_at dkX2_mixInto 37 rfl) (by decide) rfl rfl ?_
      refine l_mixB (y := z) hd hV hT hS (by omega) ?_ 4 0 z (by omega) rfl
      intro z2 w2 hz2
      refine q_iinc (pc' := 102) (L' := [some (vR s), some (vJ z0), none, some (vJ z2), none, some (vI ((j : Int) + 1)), some (vI w2)]) (dk_at dkX2_mixInto 53 rfl) (by decide) rfl rfl rfl ?_
      rw [show ((j : Int) + 1) = ((j + 1 : Nat) : Int) by omega]
      refine q_goto (tgt := 62) (dk_at dkX2_mixInto 54 rfl) rfl ?_
      exact ih (j + 1) _ _ (by omega) (by rw [hz2, hz]; rfl)

set_option maxHeartbeats 4000000 in
set_option maxRecDepth 100000 in
theorem k_Shop_mixInto {d n : Nat} {h : PH} {s : Nat} {S : Shp} {z0 : Int} (hd : 1 ≤ d) (hk : Sok S) (hS : isShp n h s S) : CtrJ mX2_mixInto d [vR s, vJ z0] n h (fun x h' => h' = h ∧ x = mixS S z0) := by
  have hV := hk.v
  have hT := hk.t
  have hc8 := hk.c
  have hw2 := hk.w
  have he2 := hk.e
  have ho2 := hk.o
  unfold isShp at hS
  refine q_beginJ (L := [some (vR s), some (vJ z0), none, none, none, none, none]) rfl ?_
  refine q_lload_n (pc' := 1) (dk_at dkX2_mixInto 0 rfl) rfl rfl ?_
  refine q_aload_n (pc' := 2) (dk_at dkX2_mixInto 1 rfl) rfl rfl ?_
  refine r_getf (pc' := 5) fl_RX2_27 (dk_at dkX2_mixInto 2 rfl) hS.obj rfl rfl ?_
  refine q_i2l (pc' := 6) (dk_at dkX2_mixInto 3 rfl) (by omega) rfl ?_
  refine r_cSNJ (pc' := 9) (As := [vJ z0, vJ (S.cnt : Int)]) (S := []) cs_RX2_68 (dk_at dkX2_mixInto 4 rfl) (k_mixed (d := 0)) (by omega) (Nat.zero_le _) (Nat.zero_le _) rfl (Nat.le_of_ble_eq_true rfl) rfl (Nat.le_of_ble_eq_true rfl) rfl (fun xx1 hh2 hphh2 => ?_)
  obtain ⟨qq3, rfl⟩ := hphh2
  rw [qq3]
  refine q_lstore_n (pc' := 10) (L' := [some (vR s), some (vJ z0), none, some (vJ (31 * z0 + (S.cnt : Int))), none, none, none]) (dk_at dkX2_mixInto 5 rfl) (by decide) rfl rfl ?_
  refine q_iconst (pc' := 11) (dk_at dkX2_mixInto 6 rfl) rfl ?_
  refine q_istore (pc' := 13) (L' := [some (vR s), some (vJ z0), none, some (vJ (31 * z0 + (S.cnt : Int))), none, some (vI 0), none]) (dk_at dkX2_mixInto 7 rfl) (by decide) rfl rfl ?_
  refine l_mixC (y := 31 * z0 + (S.cnt : Int)) hd hk.c hV hT hS ?_ S.cnt 0 _ none (by omega) rfl
  intro z1 j1 x6 hz1
  refine q_iconst (pc' := 60) (dk_at dkX2_mixInto 31 rfl) rfl ?_
  refine q_istore (pc' := 62) (L' := [some (vR s), some (vJ z0), none, some (vJ z1), none, some (vI 0), x6]) (dk_at dkX2_mixInto 32 rfl) (by decide) rfl rfl ?_
  refine l_mixD (y := z1) hd hV hT hS ?_ 5 0 _ _ (by omega) rfl
  intro z2 j2 x7 hz2
  refine q_lload_n (pc' := 106) (dk_at dkX2_mixInto 55 rfl) rfl rfl ?_
  refine q_aload_n (pc' := 107) (dk_at dkX2_mixInto 56 rfl) rfl rfl ?_
  refine r_getf (pc' := 110) fl_RX2_36 (dk_at dkX2_mixInto 57 rfl) hS.obj rfl rfl ?_
  refine q_if_eq (tgt := 117) (pc' := 113) (dk_at dkX2_mixInto 58 rfl) rfl rfl (by omega) (fun c110 => ?_) (fun c110 => ?_)
  · refine q_lconst0 (pc' := 118) (dk_at dkX2_mixInto 61 rfl) rfl ?_
    refine r_cSNJ (pc' := 121) (As := [vJ z2, vJ 0]) (S := []) cs_RX2_68 (dk_at dkX2_mixInto 62 rfl) (k_mixed (d := 0)) (by omega) (Nat.zero_le _) (Nat.zero_le _) rfl (Nat.le_of_ble_eq_true rfl) rfl (Nat.le_of_ble_eq_true rfl) rfl (fun xx4 hh5 hphh5 => ?_)
    obtain ⟨qq6, rfl⟩ := hphh5
    rw [qq6]
    refine q_lstore_n (pc' := 122) (L' := [some (vR s), some (vJ z0), none, some (vJ (31 * z2 + 0)), none, some (vI j2), x7]) (dk_at dkX2_mixInto 63 rfl) (by decide) rfl rfl ?_
    refine q_lload_n (pc' := 123) (dk_at dkX2_mixInto 64 rfl) rfl rfl ?_
    refine q_aload_n (pc' := 124) (dk_at dkX2_mixInto 65 rfl) rfl rfl ?_
    refine r_getf (pc' := 127) fl_RX2_19 (dk_at dkX2_mixInto 66 rfl) hS.obj rfl rfl ?_
    refine q_if_eq (tgt := 134) (pc' := 130) (dk_at dkX2_mixInto 67 rfl) rfl rfl (by omega) (fun c127 => ?_) (fun c127 => ?_)
    · refine q_lconst0 (pc' := 135) (dk_at dkX2_mixInto 70 rfl) rfl ?_
      refine r_cSNJ (pc' := 138) (As := [vJ (31 * z2 + 0), vJ 0]) (S := []) cs_RX2_68 (dk_at dkX2_mixInto 71 rfl) (k_mixed (d := 0)) (by omega) (Nat.zero_le _) (Nat.zero_le _) rfl (Nat.le_of_ble_eq_true rfl) rfl (Nat.le_of_ble_eq_true rfl) rfl (fun xx7 hh8 hphh8 => ?_)
      obtain ⟨qq9, rfl⟩ := hphh8
      rw [qq9]
      refine q_lstore_n (pc' := 139) (L' := [some (vR s), some (vJ z0), none, some (vJ (31 * (31 * z2 + 0) + 0)), none, some (vI j2), x7]) (dk_at dkX2_mixInto 72 rfl) (by decide) rfl rfl ?_
      refine q_lload_n (pc' := 140) (dk_at dkX2_mixInto 73 rfl) rfl rfl ?_
      refine q_aload_n (pc' := 141) (dk_at dkX2_mixInto 74 rfl) rfl rfl ?_
      refine r_getf (pc' := 144) fl_RX2_23 (dk_at dkX2_mixInto 75 rfl) hS.obj rfl rfl ?_
      refine q_i2l (pc' := 145) (dk_at dkX2_mixInto 76 rfl) (by omega) rfl ?_
      refine r_cSNJ (pc' := 148) (As := [vJ (31 * (31 * z2 + 0) + 0), vJ S.ob]) (S := []) cs_RX2_68 (dk_at dkX2_mixInto 77 rfl) (k_mixed (d := 0)) (by omega) (Nat.zero_le _) (Nat.zero_le _) rfl (Nat.le_of_ble_eq_true rfl) rfl (Nat.le_of_ble_eq_true rfl) rfl (fun xx10 hh11 hphh11 => ?_)
      obtain ⟨qq12, rfl⟩ := hphh11
      rw [qq12]
      refine r_lret rfl (dk_at dkX2_mixInto 78 rfl) ?_
      refine ⟨rfl, ?_⟩
      unfold mixS
      rw [← hz1, ← hz2]
      omega
    · refine q_lconst1 (pc' := 131) (dk_at dkX2_mixInto 68 rfl) rfl ?_
      refine q_goto (tgt := 135) (dk_at dkX2_mixInto 69 rfl) rfl ?_
      refine r_cSNJ (pc' := 138) (As := [vJ (31 * z2 + 0), vJ 1]) (S := []) cs_RX2_68 (dk_at dkX2_mixInto 71 rfl) (k_mixed (d := 0)) (by omega) (Nat.zero_le _) (Nat.zero_le _) rfl (Nat.le_of_ble_eq_true rfl) rfl (Nat.le_of_ble_eq_true rfl) rfl (fun xx13 hh14 hphh14 => ?_)
      obtain ⟨qq15, rfl⟩ := hphh14
      rw [qq15]
      refine q_lstore_n (pc' := 139) (L' := [some (vR s), some (vJ z0), none, some (vJ (31 * (31 * z2 + 0) + 1)), none, some (vI j2), x7]) (dk_at dkX2_mixInto 72 rfl) (by decide) rfl rfl ?_
      refine q_lload_n (pc' := 140) (dk_at dkX2_mixInto 73 rfl) rfl rfl ?_
      refine q_aload_n (pc' := 141) (dk_at dkX2_mixInto 74 rfl) rfl rfl ?_
      refine r_getf (pc' := 144) fl_RX2_23 (dk_at dkX2_mixInto 75 rfl) hS.obj rfl rfl ?_
      refine q_i2l (pc' := 145) (dk_at dkX2_mixInto 76 rfl) (by omega) rfl ?_
      refine r_cSNJ (pc' := 148) (As := [vJ (31 * (31 * z2 + 0) + 1), vJ S.ob]) (S := []) cs_RX2_68 (dk_at dkX2_mixInto 77 rfl) (k_mixed (d := 0)) (by omega) (Nat.zero_le _) (Nat.zero_le _) rfl (Nat.le_of_ble_eq_true rfl) rfl (Nat.le_of_ble_eq_true rfl) rfl (fun xx16 hh17 hphh17 => ?_)
      obtain ⟨qq18, rfl⟩ := hphh17
      rw [qq18]
      refine r_lret rfl (dk_at dkX2_mixInto 78 rfl) ?_
      refine ⟨rfl, ?_⟩
      unfold mixS
      rw [← hz1, ← hz2]
      omega
  · refine q_lconst1 (pc' := 114) (dk_at dkX2_mixInto 59 rfl) rfl ?_
    refine q_goto (tgt := 118) (dk_at dkX2_mixInto 60 rfl) rfl ?_
    refine r_cSNJ (pc' := 121) (As := [vJ z2, vJ 1]) (S := []) cs_RX2_68 (dk_at dkX2_mixInto 62 rfl) (k_mixed (d := 0)) (by omega) (Nat.zero_le _) (Nat.zero_le _) rfl (Nat.le_of_ble_eq_true rfl) rfl (Nat.le_of_ble_eq_true rfl) rfl (fun xx19 hh20 hphh20 => ?_)
    obtain ⟨qq21, rfl⟩ := hphh20
    rw [qq21]
    refine q_lstore_n (pc' := 122) (L' := [some (vR s), some (vJ z0), none, some (vJ (31 * z2 + 1)), none, some (vI j2), x7]) (dk_at dkX2_mixInto 63 rfl) (by decide) rfl rfl ?_
    refine q_lload_n (pc' := 123) (dk_at dkX2_mixInto 64 rfl) rfl rfl ?_
    refine q_aload_n (pc' := 124) (dk_at dkX2_mixInto 65 rfl) rfl rfl ?_
    refine r_getf (pc' := 127) fl_RX2_19 (dk_at dkX2_mixInto 66 rfl) hS.obj rfl rfl ?_
    refine q_if_eq (tgt := 134) (pc' := 130) (dk_at dkX2_mixInto 67 rfl) rfl rfl (by omega) (fun c127 => ?_) (fun c127 => ?_)
    · refine q_lconst0 (pc' := 135) (dk_at dkX2_mixInto 70 rfl) rfl ?_
      refine r_cSNJ (pc' := 138) (As := [vJ (31 * z2 + 1), vJ 0]) (S := []) cs_RX2_68 (dk_at dkX2_mixInto 71 rfl) (k_mixed (d := 0)) (by omega) (Nat.zero_le _) (Nat.zero_le _) rfl (Nat.le_of_ble_eq_true rfl) rfl (Nat.le_of_ble_eq_true rfl) rfl (fun xx22 hh23 hphh23 => ?_)
      obtain ⟨qq24, rfl⟩ := hphh23
      rw [qq24]
      refine q_lstore_n (pc' := 139) (L' := [some (vR s), some (vJ z0), none, some (vJ (31 * (31 * z2 + 1) + 0)), none, some (vI j2), x7]) (dk_at dkX2_mixInto 72 rfl) (by decide) rfl rfl ?_
      refine q_lload_n (pc' := 140) (dk_at dkX2_mixInto 73 rfl) rfl rfl ?_
      refine q_aload_n (pc' := 141) (dk_at dkX2_mixInto 74 rfl) rfl rfl ?_
      refine r_getf (pc' := 144) fl_RX2_23 (dk_at dkX2_mixInto 75 rfl) hS.obj rfl rfl ?_
      refine q_i2l (pc' := 145) (dk_at dkX2_mixInto 76 rfl) (by omega) rfl ?_
      refine r_cSNJ (pc' := 148) (As := [vJ (31 * (31 * z2 + 1) + 0), vJ S.ob]) (S := []) cs_RX2_68 (dk_at dkX2_mixInto 77 rfl) (k_mixed (d := 0)) (by omega) (Nat.zero_le _) (Nat.zero_le _) rfl (Nat.le_of_ble_eq_true rfl) rfl (Nat.le_of_ble_eq_true rfl) rfl (fun xx25 hh26 hphh26 => ?_)
      obtain ⟨qq27, rfl⟩ := hphh26
      rw [qq27]
      refine r_lret rfl (dk_at dkX2_mixInto 78 rfl) ?_
      refine ⟨rfl, ?_⟩
      unfold mixS
      rw [← hz1, ← hz2]
      omega
    · refine q_lconst1 (pc' := 131) (dk_at dkX2_mixInto 68 rfl) rfl ?_
      refine q_goto (tgt := 135) (dk_at dkX2_mixInto 69 rfl) rfl ?_
      refine r_cSNJ (pc' := 138) (As := [vJ (31 * z2 + 1), vJ 1]) (S := []) cs_RX2_68 (dk_at dkX2_mixInto 71 rfl) (k_mixed (d := 0)) (by omega) (Nat.zero_le _) (Nat.zero_le _) rfl (Nat.le_of_ble_eq_true rfl) rfl (Nat.le_of_ble_eq_true rfl) rfl (fun xx28 hh29 hphh29 => ?_)
      obtain ⟨qq30, rfl⟩ := hphh29
      rw [qq30]
      refine q_lstore_n (pc' := 139) (L' := [some (vR s), some (vJ z0), none, some (vJ (31 * (31 * z2 + 1) + 1)), none, some (vI j2), x7]) (dk_at dkX2_mixInto 72 rfl) (by decide) rfl rfl ?_
      refine q_lload_n (pc' := 140) (dk_at dkX2_mixInto 73 rfl) rfl rfl ?_
      refine q_aload_n (pc' := 141) (dk_at dkX2_mixInto 74 rfl) rfl rfl ?_
      refine r_getf (pc' := 144) fl_RX2_23 (dk_at dkX2_mixInto 75 rfl) hS.obj rfl rfl ?_
      refine q_i2l (pc' := 145) (dk_at dkX2_mixInto 76 rfl) (by omega) rfl ?_
      refine r_cSNJ (pc' := 148) (As := [vJ (31 * (31 * z2 + 1) + 1), vJ S.ob]) (S := []) cs_RX2_68 (dk_at dkX2_mixInto 77 rfl) (k_mixed (d := 0)) (by omega) (Nat.zero_le _) (Nat.zero_le _) rfl (Nat.le_of_ble_eq_true rfl) rfl (Nat.le_of_ble_eq_true rfl) rfl (fun xx31 hh32 hphh32 => ?_)
      obtain ⟨qq33, rfl⟩ := hphh32
      rw [qq33]
      refine r_lret rfl (dk_at dkX2_mixInto 78 rfl) ?_
      refine ⟨rfl, ?_⟩
      unfold mixS
      rw [← hz1, ← hz2]
      omega

def fillz (f : Nat → Int) (x : Int) (i : Nat) : Nat → Int := fun k => if k < i then x else f k
theorem fillz_step {f f1 : Nat → Int} {x : Int} {i : Nat} (h : f1 = fillz f x i) : upz f1 i x = fillz f x (i + 1) := by
  subst h
  funext k
  unfold fillz
  by_cases q : k = i
  · subst q; rw [upz_eq, if_pos (by omega)]
  · rw [upz_ne q]
    by_cases q2 : k < i
    · rw [if_pos q2, if_pos (by omega)]
    · rw [if_neg q2, if_neg (by omega)]
def isRow (N n : Nat) (h : PH) (b : Nat) (row : Nat → Int) : Prop := At1 n h b (cI N row)
set_option maxHeartbeats 4000000 in
set_option maxRecDepth 100000 in
theorem l_fill {d n : Nat} {h : PH} {r N : Nat} {f : Nat → Int} {x : Int} (hN : N ≤ 100000) : ∀ (c : Nat) (i : Nat) (f1 : Nat → Int) (h1 : PH), (i + c = N) → (f1 = fillz f x i) → (At1 n h1 r (cI N f1)) → (Fr h h1 r (r + 1)) → QN mJ7_fill_53178 d (FV n (fun h' => At1 n h' r (cI N (fillz f x N)) ∧ Fr h h' r (r + 1))) 5 [some (vR r), some (vI x), some (vI (i : Int)), some (vI (N : Int))] [] n h1 := by
  intro c
  induction c with
  | zero =>
    intro i f1 h1 hc hr hI hF
    refine q_iload_n (pc' := 6) (dk_at dkJ7_fill_53178 5 rfl) rfl rfl ?_
    refine q_iload_n (pc' := 7) (dk_at dkJ7_fill_53178 6 rfl) rfl rfl ?_
    refine q_icmp_ge (tgt := 20) (pc' := 10) (dk_at dkJ7_fill_53178 7 rfl) rfl rfl (by omega) (by omega) (fun c7 => ?_) (fun c7 => ?_)
    · refine r_vret rfl (dk_at dkJ7_fill_53178 14 rfl) ?_
      exact ⟨by rw [show i = N by omega] at hr; rw [← hr]; exact hI, hF⟩
    · exfalso
      omega
  | succ c ih =>
    intro i f1 h1 hc hr hI hF
    refine q_iload_n (pc' := 6) (dk_at dkJ7_fill_53178 5 rfl) rfl rfl ?_
    refine q_iload_n (pc' := 7) (dk_at dkJ7_fill_53178 6 rfl) rfl rfl ?_
    refine q_icmp_ge (tgt := 20) (pc' := 10) (dk_at dkJ7_fill_53178 7 rfl) rfl rfl (by omega) (by omega) (fun c7 => ?_) (fun c7 => ?_)
    · refine r_vret rfl (dk_at dkJ7_fill_53178 14 rfl) ?_
      exact ⟨by rw [show i = N by omega] at hr; rw [← hr]; exact hI, hF⟩
    · refine q_aload_n (pc' := 11) (dk_at dkJ7_fill_53178 8 rfl) rfl rfl ?_
      refine q_iload_n (pc' := 12) (dk_at dkJ7_fill_53178 9 rfl) rfl rfl ?_
      refine q_iload_n (pc' := 13) (dk_at dkJ7_fill_53178 10 rfl) rfl rfl ?_
      refine r_iast (pc' := 14) (dk_at dkJ7_fill_53178 11 rfl) hI i (by omega) (by omega) (by omega) rfl (fun hh1 ehh1 => ?_)
      have hI := At1.put hI ehh1
      have hF := hF.put ehh1 (by omega)
      refine q_iinc (pc' := 17) (L' := [some (vR r), some (vI x), some (vI ((i : Int) + 1)), some (vI (N : Int))]) (dk_at dkJ7_fill_53178 12 rfl) (by decide) rfl rfl rfl ?_
      rw [show ((i : Int) + 1) = ((i + 1 : Nat) : Int) by omega]
      refine q_goto (tgt := 5) (dk_at dkJ7_fill_53178 13 rfl) rfl ?_
      exact ih (i + 1) _ _ (by omega) (fillz_step hr) hI hF

set_option maxHeartbeats 4000000 in
set_option maxRecDepth 100000 in
theorem k_fill0 {d n : Nat} {h : PH} {r N : Nat} {f : Nat → Int} {x : Int} (hN : N ≤ 100000) (hI : At1 n h r (cI N f)) : CtrV mJ7_fill_53178 d [vR r, vI x] n h (fun h' => At1 n h' r (cI N (fillz f x N)) ∧ Fr h h' r (r + 1)) := by
  refine q_beginV (L := [some (vR r), some (vI x), none, none]) rfl ?_
  refine q_iconst (pc' := 1) (dk_at dkJ7_fill_53178 0 rfl) rfl ?_
  refine q_istore_n (pc' := 2) (L' := [some (vR r), some (vI x), some (vI 0), none]) (dk_at dkJ7_fill_53178 1 rfl) (by decide) rfl rfl ?_
  refine q_aload_n (pc' := 3) (dk_at dkJ7_fill_53178 2 rfl) rfl rfl ?_
  refine r_alen (pc' := 4) (dk_at dkJ7_fill_53178 3 rfl) hI rfl ?_
  refine q_istore_n (pc' := 5) (L' := [some (vR r), some (vI x), some (vI 0), some (vI (N : Int))]) (dk_at dkJ7_fill_53178 4 rfl) (by decide) rfl rfl ?_
  exact l_fill hN N 0 f h (by omega) (by funext k; unfold fillz; rw [if_neg (by omega)]) hI Fr.rf
