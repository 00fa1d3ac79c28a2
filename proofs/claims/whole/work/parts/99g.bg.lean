/-! THE LAW'S BEGINNING -/
theorem isBM.gw {n n' : Nat} {h h' : PH} {b : Nat} {sv tl : Int} {tx : Nat → Int} (H : isBM n h b sv tx tl) (hn : n ≤ n') (he : ∀ k, b ≤ k → k < b + 149 → h' k = h k) : isBM n' h' b sv tx tl := ⟨H.1.gw hn (he _ (by omega) (by omega)), H.2.gw hn (he _ (by omega) (by omega))⟩
theorem BMI.gw {n n' : Nat} {h h' : PH} {b : Nat} {σ : CS} (H : BMI n h b σ) (hn : n ≤ n') (he : ∀ k, b ≤ k → k < b + 149 → h' k = h k) : BMI n' h' b σ := by
  obtain ⟨h1, h2, ⟨q, hq, hA, hx⟩, r1, r2, r3, r4⟩ := H
  refine ⟨h1.gw hn he, h2.gw hn (fun k k1 k2 => he k (by omega) (by omega)), ⟨q, hq, hA.gw hn (he _ (by omega) (by omega)), fun i hi => ?_⟩, r1.gw hn (fun k k1 k2 => he k (by omega) (by omega)), r2.gw hn (fun k k1 k2 => he k (by omega) (by omega)), r3.gw hn (fun k k1 k2 => he k (by omega) (by omega)), r4.gw hn (fun k k1 k2 => he k (by omega) (by omega))⟩
  have := hq.1 i hi
  exact (hx i hi).gw hn (fun k k1 k2 => he k (by omega) (by omega))
theorem MOI.gw {n n' : Nat} {h h' : PH} {m : Nat} {th : Int} {σ : CS} (H : MOI n h m th σ) (hn : n ≤ n') (he : ∀ k, m ≤ k → k < m + 19 → h' k = h k) : MOI n' h' m th σ := by
  obtain ⟨A, sd, sq, op, ss, es, bo, su, se, tx1, ba, le, fr, un, sF, sR, sT, ad, l0, bm, nf, ne, nc, H1, H2⟩ := H
  refine ⟨A, sd, sq, op, ss, es, bo, su, se, tx1, ba, le, fr, un, sF, sR, sT, ad, l0, bm, nf, ne, nc, ?_, H2⟩
  obtain ⟨c0, c1, c2, c3, c4, c5, c6, c7, c8, c9, c10, c11, c12, c13, c14, c15, c16, c17, c18⟩ := H1
  exact ⟨c0.gw hn (he _ (by omega) (by omega)), c1.gw hn (he _ (by omega) (by omega)), c2.gw hn (he _ (by omega) (by omega)), c3.gw hn (he _ (by omega) (by omega)), c4.gw hn (he _ (by omega) (by omega)), c5.gw hn (he _ (by omega) (by omega)), c6.gw hn (he _ (by omega) (by omega)), c7.gw hn (he _ (by omega) (by omega)), c8.gw hn (he _ (by omega) (by omega)), c9.gw hn (he _ (by omega) (by omega)), c10.gw hn (he _ (by omega) (by omega)), c11.gw hn (he _ (by omega) (by omega)), c12.gw hn (he _ (by omega) (by omega)), c13.gw hn (he _ (by omega) (by omega)), c14.gw hn (he _ (by omega) (by omega)), c15.gw hn (he _ (by omega) (by omega)), c16.gw hn (he _ (by omega) (by omega)), c17.gw hn (he _ (by omega) (by omega)), c18.gw hn (he _ (by omega) (by omega))⟩
theorem ca_begin {Z : SX} {F : FT} {h0 : PH} (hZ : Z.2.1 ≤ 3072) (fin : ∀ (k u i : Nat) (h : PH), k ≤ 601024 → u ≤ 7293034 → QQ Z F k u 1501 (Lh i) [] h) : QL Z mL_law 50 601024 7293034 F 0 0 0 [none, none, none, none, none, none, none, none] [] true 0 h0 := by
  refine rl_new (n' := 1) (pc' := 3) nw_RL_8 (dk_at dkL_law 0 rfl) (by decide) (by decide) rfl rfl ?_
  intro h1 e1
  refine ql_dup (pc' := 4) (fun B => rfl) (dk_at dkL_law 1 rfl) rfl ?_
  refine ql_callI (pc' := 7) ci_RL_75 (dk_at dkL_law 2 rfl) (k_init5 (d := 45) (b := 0) (h := h1) (by rw [e1, hp_eq]) (by decide)) (by decide) (by decide) (by decide) (by decide) (by decide) rfl ?_
  rintro r n' h2 ⟨rfl, rfl, hB, hb⟩
  refine ql_astore_n (pc' := 8) (L' := [none, some (vR 0), none, none, none, none, none, none]) (by decide) (dk_at dkL_law 3 rfl) (by decide) rfl rfl ?_
  refine rl_new (n' := 150) (pc' := 11) nw_RL_76 (dk_at dkL_law 4 rfl) (by decide) (by decide) rfl rfl ?_
  intro h3 e3
  refine ql_dup (pc' := 12) (fun B => rfl) (dk_at dkL_law 5 rfl) rfl ?_
  refine ql_callI (pc' := 15) ci_RL_78 (dk_at dkL_law 6 rfl) (k_init6 (d := 45) (b := 149) (h := h3) (by rw [e3]; exact hp_eq _ _ _) (by decide)) (by decide) (by decide) (by decide) (by decide) (by decide) rfl ?_
  rintro r n' h4 ⟨rfl, rfl, hM, hb4⟩
  refine ql_astore_n (pc' := 16) (L' := [none, some (vR 0), some (vR 149), none, none, none, none, none]) (by decide) (dk_at dkL_law 7 rfl) (by decide) rfl rfl ?_
  refine ql_iconst (pc' := 17) (dk_at dkL_law 8 rfl) rfl ?_
  refine rl_newJ (n' := 169) (pc' := 19) 1 rfl (dk_at dkL_law 9 rfl) (by decide) (by decide) (by decide) rfl rfl ?_
  intro h5 e5
  refine ql_astore_n (pc' := 20) (L' := [none, some (vR 0), some (vR 149), some (vR 168), none, none, none, none]) (by decide) (dk_at dkL_law 10 rfl) (by decide) rfl rfl ?_
  refine ql_iconst (pc' := 21) (dk_at dkL_law 11 rfl) rfl ?_
  refine ql_istore (pc' := 23) (L' := Lh 0) (by decide) (dk_at dkL_law 12 rfl) (by decide) rfl rfl ?_
  refine ql_open ?_
  refine ca_loop hZ fin 512 _ _ 0 h5 (by omega) (by omega) (by decide) (by decide) ⟨cs0, 0, fun _ => 0, ?_, cs0_ok, ?_, ⟨by omega, by rw [e5]; exact hp_eq _ _ _⟩⟩
  · refine hB.gw (by omega) (fun k k1 k2 => ?_)
    rw [e5, hp_ne (by omega), hb4 k (by omega), e3, hp_ne (by omega)]
  · refine hM.gw (by omega) (fun k k1 k2 => ?_)
    rw [e5, hp_ne (by omega)]
