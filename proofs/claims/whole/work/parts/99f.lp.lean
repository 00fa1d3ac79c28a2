/-! THE LAW: its loop and its beginning -/
theorem ca_case {Z : SX} {F : FT} {k u i : Nat} {h : PH} (hZ : Z.2.1 ≤ 3072) (hi : i + 6 ≤ Z.2.1) (hk : k + 1 ≤ 601024) (hu : u + 6 ≤ 7293034) (hL : LwI h) (nx : Nx Z F k u i) : QQ Z F k u 33 (Lh i) [] h := by
  refine ql_op (i := i) (pc' := 40) rfl (by omega) (by omega) (dk_at dkL_law 19 rfl) (dk_at dkL_law 20 rfl) (dk_at dkL_law 21 rfl) (dk_at dkL_law 22 rfl) (dk_at dkL_law 23 rfl) rfl ?_
  intro z hz
  by_cases z28 : 28 ≤ z
  · refine ql_tableOut (tgt := 1495) (dk_at dkL_law 24 rfl) (by omega) (by omega) (by decide) ?_
    exact nx.go (by omega) (by omega) hL
  · rcases (show z = 0 ∨ z = 1 ∨ z = 2 ∨ z = 3 ∨ z = 4 ∨ z = 5 ∨ z = 6 ∨ z = 7 ∨ z = 8 ∨ z = 9 ∨ z = 10 ∨ z = 11 ∨ z = 12 ∨ z = 13 ∨ z = 14 ∨ z = 15 ∨ z = 16 ∨ z = 17 ∨ z = 18 ∨ z = 19 ∨ z = 20 ∨ z = 21 ∨ z = 22 ∨ z = 23 ∨ z = 24 ∨ z = 25 ∨ z = 26 ∨ z = 27 by omega) with rfl | rfl | rfl | rfl | rfl | rfl | rfl | rfl | rfl | rfl | rfl | rfl | rfl | rfl | rfl | rfl | rfl | rfl | rfl | rfl | rfl | rfl | rfl | rfl | rfl | rfl | rfl | rfl
    · exact ql_tableIn (tgt := 168) (dk_at dkL_law 24 rfl) (by decide) (by decide) (by decide) rfl (by decide) (ca_addJob hZ hi hk hu hL nx)
    · exact ql_tableIn (tgt := 272) (dk_at dkL_law 24 rfl) (by decide) (by decide) (by decide) rfl (by decide) (ca_removeJob hZ hi hk hu hL nx)
    · exact ql_tableIn (tgt := 328) (dk_at dkL_law 24 rfl) (by decide) (by decide) (by decide) rfl (by decide) (ca_setJob hZ hi hk hu hL nx)
    · exact ql_tableIn (tgt := 408) (dk_at dkL_law 24 rfl) (by decide) (by decide) (by decide) rfl (by decide) (ca_job hZ hi hk hu hL nx)
    · exact ql_tableIn (tgt := 476) (dk_at dkL_law 24 rfl) (by decide) (by decide) (by decide) rfl (by decide) (ca_jobs hZ hi hk hu hL nx)
    · exact ql_tableIn (tgt := 489) (dk_at dkL_law 24 rfl) (by decide) (by decide) (by decide) rfl (by decide) (ca_setSetup hZ hi hk hu hL nx)
    · exact ql_tableIn (tgt := 569) (dk_at dkL_law 24 rfl) (by decide) (by decide) (by decide) rfl (by decide) (ca_setMode hZ hi hk hu hL nx)
    · exact ql_tableIn (tgt := 638) (dk_at dkL_law 24 rfl) (by decide) (by decide) (by decide) rfl (by decide) (ca_setObjective hZ hi hk hu hL nx)
    · exact ql_tableIn (tgt := 694) (dk_at dkL_law 24 rfl) (by decide) (by decide) (by decide) rfl (by decide) (ca_append hZ hi hk hu hL nx)
    · exact ql_tableIn (tgt := 750) (dk_at dkL_law 24 rfl) (by decide) (by decide) (by decide) rfl (by decide) (ca_clearText hZ hi hk hu hL nx)
    · exact ql_tableIn (tgt := 763) (dk_at dkL_law 24 rfl) (by decide) (by decide) (by decide) rfl (by decide) (ca_parse hZ hi hk hu hL nx)
    · exact ql_tableIn (tgt := 776) (dk_at dkL_law 24 rfl) (by decide) (by decide) (by decide) rfl (by decide) (ca_keepRule hZ hi hk hu hL nx)
    · exact ql_tableIn (tgt := 831) (dk_at dkL_law 24 rfl) (by decide) (by decide) (by decide) rfl (by decide) (ca_keepBest hZ hi hk hu hL nx)
    · exact ql_tableIn (tgt := 845) (dk_at dkL_law 24 rfl) (by decide) (by decide) (by decide) rfl (by decide) (ca_improve hZ hi hk hu hL nx)
    · exact ql_tableIn (tgt := 901) (dk_at dkL_law 24 rfl) (by decide) (by decide) (by decide) rfl (by decide) (ca_batches hZ hi hk hu hL nx)
    · exact ql_tableIn (tgt := 914) (dk_at dkL_law 24 rfl) (by decide) (by decide) (by decide) rfl (by decide) (ca_batch hZ hi hk hu hL nx)
    · exact ql_tableIn (tgt := 982) (dk_at dkL_law 24 rfl) (by decide) (by decide) (by decide) rfl (by decide) (ca_jobAt hZ hi hk hu hL nx)
    · exact ql_tableIn (tgt := 1050) (dk_at dkL_law 24 rfl) (by decide) (by decide) (by decide) rfl (by decide) (ca_planned hZ hi hk hu hL nx)
    · exact ql_tableIn (tgt := 1118) (dk_at dkL_law 24 rfl) (by decide) (by decide) (by decide) rfl (by decide) (ca_cost hZ hi hk hu hL nx)
    · exact ql_tableIn (tgt := 1132) (dk_at dkL_law 24 rfl) (by decide) (by decide) (by decide) rfl (by decide) (ca_total hZ hi hk hu hL nx)
    · exact ql_tableIn (tgt := 1188) (dk_at dkL_law 24 rfl) (by decide) (by decide) (by decide) rfl (by decide) (ca_bestCost hZ hi hk hu hL nx)
    · exact ql_tableIn (tgt := 1202) (dk_at dkL_law 24 rfl) (by decide) (by decide) (by decide) rfl (by decide) (ca_ruleCost hZ hi hk hu hL nx)
    · exact ql_tableIn (tgt := 1257) (dk_at dkL_law 24 rfl) (by decide) (by decide) (by decide) rfl (by decide) (ca_bestWithout hZ hi hk hu hL nx)
    · exact ql_tableIn (tgt := 1312) (dk_at dkL_law 24 rfl) (by decide) (by decide) (by decide) rfl (by decide) (ca_bestWithFirst hZ hi hk hu hL nx)
    · exact ql_tableIn (tgt := 1367) (dk_at dkL_law 24 rfl) (by decide) (by decide) (by decide) rfl (by decide) (ca_latestRelease hZ hi hk hu hL nx)
    · exact ql_tableIn (tgt := 1423) (dk_at dkL_law 24 rfl) (by decide) (by decide) (by decide) rfl (by decide) (ca_setupPrice hZ hi hk hu hL nx)
    · exact ql_tableIn (tgt := 1437) (dk_at dkL_law 24 rfl) (by decide) (by decide) (by decide) rfl (by decide) (ca_undo hZ hi hk hu hL nx)
    · exact ql_tableIn (tgt := 1481) (dk_at dkL_law 24 rfl) (by decide) (by decide) (by decide) rfl (by decide) (ca_digest hZ hi hk hu hL nx)
theorem ca_loop {Z : SX} {F : FT} (hZ : Z.2.1 ≤ 3072) (fin : ∀ (k u i : Nat) (h : PH), k ≤ 601024 → u ≤ 7293034 → QQ Z F k u 1501 (Lh i) [] h) : ∀ (c k u i : Nat) (h : PH), Z.2.1 < i + 6 * c + 6 → i ≤ 4000 → k + c ≤ 1000 → u + 6 * c ≤ 1300000 → LwI h → QQ Z F k u 23 (Lh i) [] h := by
  intro c
  induction c with
  | zero =>
    intro k u i h hc hi hk hu hL
    refine ql_iload (pc' := 25) (dk_at dkL_law 13 rfl) rfl rfl ?_
    refine ql_len (pc' := 27) (dk_at dkL_law 14 rfl) (dk_at dkL_law 15 rfl) rfl ?_
    refine ql_bipush (pc' := 29) (dk_at dkL_law 16 rfl) (by decide +kernel) rfl ?_
    refine ql_isub (pc' := 30) (dk_at dkL_law 17 rfl) rfl ?_
    refine ql_icmp_gt (tgt := 1501) (pc' := 33) (dk_at dkL_law 18 rfl) (by decide) rfl (by omega) (by omega) (fun _ => fin _ _ _ _ (by omega) (by omega)) (fun z => ?_)
    exfalso
    omega
  | succ c ih =>
    intro k u i h hc hi hk hu hL
    refine ql_iload (pc' := 25) (dk_at dkL_law 13 rfl) rfl rfl ?_
    refine ql_len (pc' := 27) (dk_at dkL_law 14 rfl) (dk_at dkL_law 15 rfl) rfl ?_
    refine ql_bipush (pc' := 29) (dk_at dkL_law 16 rfl) (by decide +kernel) rfl ?_
    refine ql_isub (pc' := 30) (dk_at dkL_law 17 rfl) rfl ?_
    refine ql_icmp_gt (tgt := 1501) (pc' := 33) (dk_at dkL_law 18 rfl) (by decide) rfl (by omega) (by omega) (fun _ => fin _ _ _ _ (by omega) (by omega)) (fun z => ?_)
    refine ca_case hZ (by omega) (by omega) (by omega) hL ?_
    intro k' u' h' k1 u1 hL'
    refine ql_iinc (x := (i : Int)) (pc' := 1498) (L' := Lh (i + 6)) (by decide) (dk_at dkL_law_7 32 rfl) (by decide) rfl (by show st1 _ _ _ = _; rw [show (i : Int) + 6 = ((i + 6 : Nat) : Int) by omega]; rfl) rfl ?_
    refine ql_goto (tgt := 23) (dk_at dkL_law_7 33 rfl) (by decide) ?_
    exact ih k' u' (i + 6) h' (by omega) (by omega) (by omega) (by omega) hL'
