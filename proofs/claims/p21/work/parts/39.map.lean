theorem ink_2y {pn i j : Nat} (hp : pn < 1000) (h : ¬ nI (16 * pn) ≤ nI (100 * shN (4 * (j % 4) + i % 4))) : inkK 2 pn i j = true := by
  show decide (100 * shN (4 * (j % 4) + i % 4) < 16 * pn) = true
  rw [decide_eq_true_eq]
  have hs := sh_le (4 * (j % 4) + i % 4) (by omega)
  exact Nat.not_le.mp fun q => h (nI_le q (by omega))
theorem ink_2n {pn i j : Nat} (hp : pn < 1000) (h : nI (16 * pn) ≤ nI (100 * shN (4 * (j % 4) + i % 4))) : inkK 2 pn i j = false := by
  show decide (100 * shN (4 * (j % 4) + i % 4) < 16 * pn) = false
  rw [decide_eq_false_iff_not]
  have hs := sh_le (4 * (j % 4) + i % 4) (by omega)
  exact fun q => absurd h (nI_ge q (by omega))

theorem tt_ok : ∀ a, a < 4 → ∀ e, e < 4 → (((((nI a ^^^ nI e) &&& 1) * 8) + (nI ((e % 2) * 4))) + ((((nI a ^^^ nI e) >>> ((1 : Int32) &&& 31)) &&& 1) * 2)) + (nI ((e / 2) % 2)) = nI (shN (4 * e + a)) := by decide +kernel

set_option maxRecDepth 100000 in
set_option maxHeartbeats 4000000 in
theorem lt_c00 {x : JX} {b L : Nat} {xs : Nat → Int32} (C : CB x RL cL_law) (M : LM x b) (X : LX x b L xs) (hn9 : x_n x = 21) (ad : Nat → Nat) (ga ma kq nq : Nat) (hkq : kq ≤ 600000) (hnq : nq ≤ 7302250) (hga : ∀ i, i < 37 → ga ≠ ad i) (hma : ∀ i, i < 37 → ma ≠ ad i) (hgm : ga ≠ ma) (B : Nat → Nat) (hb : ∀ j, B j < 128) (S : Hp) (i bx bY bw bh pn : Nat) (D : Nat → Int32) (P : Nat → Nat → Bool) (h1 : bx < 64) (h2 : bY < 64) (h3 : 1 ≤ bw ∧ bw ≤ 32) (h4 : 1 ≤ bh ∧ bh ≤ 32) (h5 : 1 ≤ pn ∧ pn ≤ 64) (m_ma : ma ∈ hL S) (k_ma : Kd S ma 14) (l_ma : Ln S ma 4096) (hD : aI S ma = D) (hMP : MP D P) (K : ∀ f : Nat → Int32, MP f (boxP 0 pn false bx bY bw bh P) → J x kq nq (rI S ma f) [(0, .ref b), (1, .ref (ad 0)), (2, .ref ga), (3, .ref ma), (4, .int (nI (i + 1))), (5, .int (nI (2 * i)))] 456 []) : J x kq nq S [(0, .ref b), (1, .ref (ad 0)), (2, .ref ga), (3, .ref ma), (4, .int (nI (i + 1))), (5, .int (nI (2 * i))), (8, .int (nI bx)), (9, .int (nI bY)), (10, .int (nI bw)), (11, .int (nI bh)), (12, .int 0), (13, .int (nI pn)), (14, .int 0)] 279 [] := by
  obtain ⟨J1, hJ1⟩ : ∃ J1 : Nat, J1 ≤ bY + bh ∧ J1 ≤ 64 ∧ (J1 = bY + bh ∨ J1 = 64) := by
    by_cases h : bY + bh ≤ 64
    · exact ⟨bY + bh, by omega⟩
    · exact ⟨64, by omega⟩
  obtain ⟨I1, hI1⟩ : ∃ I1 : Nat, I1 ≤ bx + bw ∧ I1 ≤ 64 ∧ (I1 = bx + bw ∨ I1 = 64) := by
    by_cases h : bx + bw ≤ 64
    · exact ⟨bx + bw, by omega⟩
    · exact ⟨64, by omega⟩
  refine j_iload C dL_law_279 7 rfl ?_
  refine j_istore (lv' := [(15, .int (nI bY)), (0, .ref b), (1, .ref (ad 0)), (2, .ref ga), (3, .ref ma), (4, .int (nI (i + 1))), (5, .int (nI (2 * i))), (8, .int (nI bx)), (9, .int (nI bY)), (10, .int (nI bw)), (11, .int (nI bh)), (12, .int 0), (13, .int (nI pn)), (14, .int 0)]) C dL_law_281 (by rw [hn9]; decide) rfl ?_
  have loop_2 : ∀ (m9 j : Nat), j + m9 = J1 → (bY ≤ j) → J x (kq) (nq) (rI S ma (mpF D 0 pn false bx bY bw bh j bx)) [(15, .int (nI j)), (0, .ref b), (1, .ref (ad 0)), (2, .ref ga), (3, .ref ma), (4, .int (nI (i + 1))), (5, .int (nI (2 * i))), (8, .int (nI bx)), (9, .int (nI bY)), (10, .int (nI bw)), (11, .int (nI bh)), (12, .int 0), (13, .int (nI pn)), (14, .int 0)] 283 [] := by
    intro m9
    induction m9 with
    | zero =>
      intro j  hi_3 hj0
      refine j_iload C dL_law_283 0 rfl ?_
      refine j_iload C dL_law_285 8 rfl ?_
      refine j_iload C dL_law_287 10 rfl ?_
      refine j_iadd (v := nI (bY + bh)) C dL_law_289 (nI_add bY bh) ?_
      refine j_ic_ge (tgt := 456) C dL_law_290 (by decide) (fun c_290 => ?_) (fun c_290 => ?_)
      · skip
        refine J.sub [1, 2, 3, 4, 5, 6] (lv' := [(0, .ref b), (1, .ref (ad 0)), (2, .ref ga), (3, .ref ma), (4, .int (nI (i + 1))), (5, .int (nI (2 * i)))]) (by rfl) ?_
        exact K (mpF D 0 pn false bx bY bw bh j bx) (mp_end hMP 0 pn false (by omega))
      · skip
        refine j_iload C dL_law_293 0 rfl ?_
        refine j_bipush (v := 64) C dL_law_295 (by decide) ?_
        refine j_ic_ge (tgt := 456) C dL_law_297 (by decide) (fun c_297 => ?_) (fun c_297 => absurd (nI_le (a := 64) (by have h9 : ¬ bY + bh ≤ j := fun q => c_290 (nI_le q (by omega)); omega) (by omega)) c_297)
        show J _ _ _ _ _ 456 _
        refine J.sub [1, 2, 3, 4, 5, 6] (lv' := [(0, .ref b), (1, .ref (ad 0)), (2, .ref ga), (3, .ref ma), (4, .int (nI (i + 1))), (5, .int (nI (2 * i)))]) (by rfl) ?_
        exact K (mpF D 0 pn false bx bY bw bh j bx) (mp_end hMP 0 pn false (by omega))
    | succ m9 ih_1 =>
      intro j  hi_3 hj0
      refine j_iload C dL_law_283 0 rfl ?_
      refine j_iload C dL_law_285 8 rfl ?_
      refine j_iload C dL_law_287 10 rfl ?_
      refine j_iadd (v := nI (bY + bh)) C dL_law_289 (nI_add bY bh) ?_
      refine j_ic_ge (tgt := 456) C dL_law_290 (by decide) (fun c_290 => absurd c_290 (nI_ge (by omega) (by omega))) (fun c_290 => ?_)
      refine j_iload C dL_law_293 0 rfl ?_
      refine j_bipush (v := 64) C dL_law_295 (by decide) ?_
      refine j_ic_ge (tgt := 456) C dL_law_297 (by decide) (fun c_297 => absurd c_297 (nI_ge (b := 64) (by omega) (by decide))) (fun c_297 => ?_)
      refine j_iload C dL_law_300 7 rfl ?_
      show J _ _ _ _ _ 302 _
      refine j_istore (lv' := [(16, .int (nI bx)), (15, .int (nI j)), (0, .ref b), (1, .ref (ad 0)), (2, .ref ga), (3, .ref ma), (4, .int (nI (i + 1))), (5, .int (nI (2 * i))), (8, .int (nI bx)), (9, .int (nI bY)), (10, .int (nI bw)), (11, .int (nI bh)), (12, .int 0), (13, .int (nI pn)), (14, .int 0)]) C dL_law_302 (by rw [hn9]; decide) rfl ?_
      have loop_5 : ∀ (m9 ii : Nat), ii + m9 = I1 → (bx ≤ ii) → J x (kq) (nq) (rI (rI S ma (mpF D 0 pn false bx bY bw bh j bx)) ma (mpF D 0 pn false bx bY bw bh j ii)) [(16, .int (nI ii)), (15, .int (nI j)), (0, .ref b), (1, .ref (ad 0)), (2, .ref ga), (3, .ref ma), (4, .int (nI (i + 1))), (5, .int (nI (2 * i))), (8, .int (nI bx)), (9, .int (nI bY)), (10, .int (nI bw)), (11, .int (nI bh)), (12, .int 0), (13, .int (nI pn)), (14, .int 0)] 304 [] := by
        intro m9
        induction m9 with
        | zero =>
          intro ii  hi_6 hi0
          refine j_iload C dL_law_304 0 rfl ?_
          refine j_iload C dL_law_306 8 rfl ?_
          refine j_iload C dL_law_308 10 rfl ?_
          refine j_iadd (v := nI (bx + bw)) C dL_law_310 (nI_add bx bw) ?_
          refine j_ic_ge (tgt := 450) C dL_law_311 (by decide) (fun c_311 => ?_) (fun c_311 => ?_)
          · skip
            refine j_iinc (q := 1) (v := nI (j + 1)) (lv' := [(15, .int (nI (j + 1))), (16, .int (nI ii)), (0, .ref b), (1, .ref (ad 0)), (2, .ref ga), (3, .ref ma), (4, .int (nI (i + 1))), (5, .int (nI (2 * i))), (8, .int (nI bx)), (9, .int (nI bY)), (10, .int (nI bw)), (11, .int (nI bh)), (12, .int 0), (13, .int (nI pn)), (14, .int 0)]) C dL_law_450 rfl (nI_add j 1) (by rw [hn9]; decide) rfl ?_
            refine j_goto (tgt := 283) C dL_law_453 (by decide) ?_
            refine J.sub [0, 2, 3, 4, 5, 6, 7, 8, 9, 10, 11, 12, 13, 14] (lv' := [(15, .int (nI (j + 1))), (0, .ref b), (1, .ref (ad 0)), (2, .ref ga), (3, .ref ma), (4, .int (nI (i + 1))), (5, .int (nI (2 * i))), (8, .int (nI bx)), (9, .int (nI bY)), (10, .int (nI bw)), (11, .int (nI bh)), (12, .int 0), (13, .int (nI pn)), (14, .int 0)]) (by rfl) ?_
            refine J.eq (S' := (rI S ma (mpF D 0 pn false bx bY bw bh (j + 1) bx))) (pg_nest (mp_row D _ _ _ (by omega))) rfl rfl ?_
            exact J.eq rfl rfl rfl (ih_1 (j + 1)  (by omega) (by omega))
          · skip
            refine j_iload C dL_law_314 0 rfl ?_
            refine j_bipush (v := 64) C dL_law_316 (by decide) ?_
            show J _ _ _ _ _ 318 _
            refine j_ic_ge (tgt := 450) C dL_law_318 (by decide) (fun c_318 => ?_) (fun c_318 => absurd (nI_le (a := 64) (by have h9 : ¬ bx + bw ≤ ii := fun q => c_311 (nI_le q (by omega)); omega) (by omega)) c_318)
            refine j_iinc (q := 1) (v := nI (j + 1)) (lv' := [(15, .int (nI (j + 1))), (16, .int (nI ii)), (0, .ref b), (1, .ref (ad 0)), (2, .ref ga), (3, .ref ma), (4, .int (nI (i + 1))), (5, .int (nI (2 * i))), (8, .int (nI bx)), (9, .int (nI bY)), (10, .int (nI bw)), (11, .int (nI bh)), (12, .int 0), (13, .int (nI pn)), (14, .int 0)]) C dL_law_450 rfl (nI_add j 1) (by rw [hn9]; decide) rfl ?_
            refine j_goto (tgt := 283) C dL_law_453 (by decide) ?_
            refine J.sub [0, 2, 3, 4, 5, 6, 7, 8, 9, 10, 11, 12, 13, 14] (lv' := [(15, .int (nI (j + 1))), (0, .ref b), (1, .ref (ad 0)), (2, .ref ga), (3, .ref ma), (4, .int (nI (i + 1))), (5, .int (nI (2 * i))), (8, .int (nI bx)), (9, .int (nI bY)), (10, .int (nI bw)), (11, .int (nI bh)), (12, .int 0), (13, .int (nI pn)), (14, .int 0)]) (by rfl) ?_
            refine J.eq (S' := (rI S ma (mpF D 0 pn false bx bY bw bh (j + 1) bx))) (pg_nest (mp_row D _ _ _ (by omega))) rfl rfl ?_
            exact J.eq rfl rfl rfl (ih_1 (j + 1)  (by omega) (by omega))
        | succ m9 ih_4 =>
          intro ii  hi_6 hi0
          refine j_iload C dL_law_304 0 rfl ?_
          refine j_iload C dL_law_306 8 rfl ?_
          refine j_iload C dL_law_308 10 rfl ?_
          refine j_iadd (v := nI (bx + bw)) C dL_law_310 (nI_add bx bw) ?_
          refine j_ic_ge (tgt := 450) C dL_law_311 (by decide) (fun c_311 => absurd c_311 (nI_ge (by omega) (by omega))) (fun c_311 => ?_)
          refine j_iload C dL_law_314 0 rfl ?_
          show J _ _ _ _ _ 316 _
          refine j_bipush (v := 64) C dL_law_316 (by decide) ?_
          refine j_ic_ge (tgt := 450) C dL_law_318 (by decide) (fun c_318 => absurd c_318 (nI_ge (b := 64) (by omega) (by decide))) (fun c_318 => ?_)
          refine j_iload C dL_law_321 0 rfl ?_
          refine j_iconst (v := 3) C dL_law_323 (by decide) ?_
          refine j_iand (v := nI (ii % 4)) C dL_law_324 (pk_andN (by omega) 2 (by decide)) ?_
          refine j_istore (lv' := [(17, .int (nI (ii % 4))), (16, .int (nI ii)), (15, .int (nI j)), (0, .ref b), (1, .ref (ad 0)), (2, .ref ga), (3, .ref ma), (4, .int (nI (i + 1))), (5, .int (nI (2 * i))), (8, .int (nI bx)), (9, .int (nI bY)), (10, .int (nI bw)), (11, .int (nI bh)), (12, .int 0), (13, .int (nI pn)), (14, .int 0)]) C dL_law_325 (by rw [hn9]; decide) rfl ?_
          refine j_iload C dL_law_327 2 rfl ?_
          refine j_iconst (v := 3) C dL_law_329 (by decide) ?_
          show J _ _ _ _ _ 330 _
          refine j_iand (v := nI (j % 4)) C dL_law_330 (pk_andN (by omega) 2 (by decide)) ?_
          refine j_istore (lv' := [(18, .int (nI (j % 4))), (17, .int (nI (ii % 4))), (16, .int (nI ii)), (15, .int (nI j)), (0, .ref b), (1, .ref (ad 0)), (2, .ref ga), (3, .ref ma), (4, .int (nI (i + 1))), (5, .int (nI (2 * i))), (8, .int (nI bx)), (9, .int (nI bY)), (10, .int (nI bw)), (11, .int (nI bh)), (12, .int 0), (13, .int (nI pn)), (14, .int 0)]) C dL_law_331 (by rw [hn9]; decide) rfl ?_
          refine j_iload C dL_law_333 1 rfl ?_
          refine j_iload C dL_law_335 0 rfl ?_
          refine j_ixor (v := (nI (ii % 4) ^^^ nI (j % 4))) C dL_law_337 rfl ?_
          refine j_iconst (v := 1) C dL_law_338 (by decide) ?_
          refine j_iand C dL_law_339 rfl ?_
          refine j_bipush (v := 8) C dL_law_340 (by decide) ?_
          show J _ _ _ _ _ 342 _
          refine j_imul C dL_law_342 rfl ?_
          refine j_iload C dL_law_343 0 rfl ?_
          refine j_iconst (v := 1) C dL_law_345 (by decide) ?_
          refine j_iand (v := nI ((j % 4) % 2)) C dL_law_346 (pk_andN (by omega) 1 (by decide)) ?_
          refine j_iconst (v := 4) C dL_law_347 (by decide) ?_
          refine j_imul (v := nI (((j % 4) % 2) * 4)) C dL_law_348 (pk_mul ((j % 4) % 2) 4) ?_
          refine j_iadd C dL_law_349 rfl ?_
          refine j_iload C dL_law_350 1 rfl ?_
          show J _ _ _ _ _ 352 _
          refine j_iload C dL_law_352 0 rfl ?_
          refine j_ixor (v := (nI (ii % 4) ^^^ nI (j % 4))) C dL_law_354 rfl ?_
          refine j_iconst (v := 1) C dL_law_355 (by decide) ?_
          refine j_ishr C dL_law_356 rfl ?_
          refine j_iconst (v := 1) C dL_law_357 (by decide) ?_
          refine j_iand C dL_law_358 rfl ?_
          refine j_iconst (v := 2) C dL_law_359 (by decide) ?_
          refine j_imul C dL_law_360 rfl ?_
          show J _ _ _ _ _ 361 _
          refine j_iadd C dL_law_361 rfl ?_
          refine j_iload C dL_law_362 0 rfl ?_
          refine j_iconst (v := 1) C dL_law_364 (by decide) ?_
          refine j_ishr (v := nI ((j % 4) / 2)) C dL_law_365 (pk_shrN (by omega) _ 1 (by decide)) ?_
          refine j_iconst (v := 1) C dL_law_366 (by decide) ?_
          refine j_iand (v := nI (((j % 4) / 2) % 2)) C dL_law_367 (pk_andN (by omega) 1 (by decide)) ?_
          refine j_iadd C dL_law_368 rfl ?_
          refine J.eq (st' := .int (nI (shN (4 * (j % 4) + ii % 4))) :: []) rfl rfl (congrArg (fun z9 => Value.int z9 :: []) (tt_ok _ (Nat.mod_lt _ (by decide)) _ (Nat.mod_lt _ (by decide)))) ?_
          refine j_istore (lv' := [(19, .int (nI (shN (4 * (j % 4) + ii % 4)))), (18, .int (nI (j % 4))), (17, .int (nI (ii % 4))), (16, .int (nI ii)), (15, .int (nI j)), (0, .ref b), (1, .ref (ad 0)), (2, .ref ga), (3, .ref ma), (4, .int (nI (i + 1))), (5, .int (nI (2 * i))), (8, .int (nI bx)), (9, .int (nI bY)), (10, .int (nI bw)), (11, .int (nI bh)), (12, .int 0), (13, .int (nI pn)), (14, .int 0)]) C dL_law_369 (by rw [hn9]; decide) rfl ?_
          show J _ _ _ _ _ 371 _
          refine j_iload C dL_law_371 15 rfl ?_
          refine j_if_eq (tgt := 395) C dL_law_373 (by decide) (fun c9 => ?_) (fun c9 => absurd (by decide) c9)
          refine j_iconst (v := 1) C dL_law_395 (by decide) ?_
          refine j_goto (tgt := 400) C dL_law_396 (by decide) ?_
          refine j_istore (lv' := [(20, .int 1), (19, .int (nI (shN (4 * (j % 4) + ii % 4)))), (18, .int (nI (j % 4))), (17, .int (nI (ii % 4))), (16, .int (nI ii)), (15, .int (nI j)), (0, .ref b), (1, .ref (ad 0)), (2, .ref ga), (3, .ref ma), (4, .int (nI (i + 1))), (5, .int (nI (2 * i))), (8, .int (nI bx)), (9, .int (nI bY)), (10, .int (nI bw)), (11, .int (nI bh)), (12, .int 0), (13, .int (nI pn)), (14, .int 0)]) C dL_law_400 (by rw [hn9]; decide) rfl ?_
          refine j_iload C dL_law_402 0 rfl ?_
          refine j_if_eq (tgt := 421) C dL_law_404 (by decide) (fun c9 => absurd c9 (by decide)) (fun c9 => ?_)
          refine j_aload_n C dL_law_407 rfl 9 rfl ?_
          show J _ _ _ _ _ 408 _
          refine j_bipush (v := 64) C dL_law_408 (by decide) ?_
          refine j_iload C dL_law_410 5 rfl ?_
          refine j_imul (v := nI (64 * j)) C dL_law_412 (pk_mul 64 j) ?_
          refine j_iload C dL_law_413 4 rfl ?_
          refine j_iadd (v := nI ((64 * j) + ii)) C dL_law_415 (nI_add (64 * j) ii) ?_
          refine j_iconst (v := 1) C dL_law_416 (by decide) ?_
          refine j_iast (j := ((64 * j) + ii)) C dL_law_417 m_ma k_ma (inr_of (n := 4096) l_ma (vp_in_nI (by omega) (by omega))) (nI_clamp (by omega)) ?_
          refine j_goto (tgt := 444) C dL_law_418 (by decide) ?_
          show J _ _ _ _ _ 444 _
          refine j_iinc (q := 4) (v := nI (ii + 1)) (lv' := [(16, .int (nI (ii + 1))), (20, .int 1), (19, .int (nI (shN (4 * (j % 4) + ii % 4)))), (18, .int (nI (j % 4))), (17, .int (nI (ii % 4))), (15, .int (nI j)), (0, .ref b), (1, .ref (ad 0)), (2, .ref ga), (3, .ref ma), (4, .int (nI (i + 1))), (5, .int (nI (2 * i))), (8, .int (nI bx)), (9, .int (nI bY)), (10, .int (nI bw)), (11, .int (nI bh)), (12, .int 0), (13, .int (nI pn)), (14, .int 0)]) C dL_law_444 rfl (nI_add ii 1) (by rw [hn9]; decide) rfl ?_
          refine j_goto (tgt := 304) C dL_law_447 (by decide) ?_
          refine J.sub [0, 5, 6, 7, 8, 9, 10, 11, 12, 13, 14, 15, 16, 17, 18] (lv' := [(16, .int (nI (ii + 1))), (15, .int (nI j)), (0, .ref b), (1, .ref (ad 0)), (2, .ref ga), (3, .ref ma), (4, .int (nI (i + 1))), (5, .int (nI (2 * i))), (8, .int (nI bx)), (9, .int (nI bY)), (10, .int (nI bw)), (11, .int (nI bh)), (12, .int 0), (13, .int (nI pn)), (14, .int 0)]) (by rfl) ?_
          refine J.eq (S' := (rI (rI S ma (mpF D 0 pn false bx bY bw bh j bx)) ma (mpF D 0 pn false bx bY bw bh j (ii + 1)))) (rI_step (fun q9 => by rw [← mp_s D 0 pn false (bx := bx) (bY := bY) (bw := bw) (bh := bh) (j := j) (i := ii) (by omega) (by omega) (by omega) (by omega) (by omega) q9]; rw [show (if inkK 0 pn ii j = true then (1 : Int32) else if (false || decide (0 = 1)) = true then 0 else D q9) = 1 from (by rw [(show inkK 0 pn ii j = true from rfl)]; rfl)])) rfl rfl ?_
          exact J.eq rfl rfl rfl (ih_4 (ii + 1)  (by omega) (by omega))
      refine J.eq (S' := (rI (rI S ma (mpF D 0 pn false bx bY bw bh j bx)) ma (mpF D 0 pn false bx bY bw bh j bx))) (rI_id (fun q9 => rd_rIs.symm)) rfl rfl ?_
      refine J.sub [0, 1, 2, 3, 4, 5, 6, 7, 8, 9, 10, 11, 12, 13, 14] (lv' := [(16, .int (nI bx)), (15, .int (nI j)), (0, .ref b), (1, .ref (ad 0)), (2, .ref ga), (3, .ref ma), (4, .int (nI (i + 1))), (5, .int (nI (2 * i))), (8, .int (nI bx)), (9, .int (nI bY)), (10, .int (nI bw)), (11, .int (nI bh)), (12, .int 0), (13, .int (nI pn)), (14, .int 0)]) (by rfl) ?_
      exact J.eq rfl rfl rfl (loop_5 (I1 - bx) bx  (by omega) (Nat.le_refl _))
  refine J.eq (S' := (rI S ma (mpF D 0 pn false bx bY bw bh bY bx))) (rI_id (fun q9 => (mp_0 D _ _ _ _ _ _ _ q9).trans (congrFun hD.symm q9))) rfl rfl ?_
  refine J.sub [0, 1, 2, 3, 4, 5, 6, 7, 8, 9, 10, 11, 12, 13] (lv' := [(15, .int (nI bY)), (0, .ref b), (1, .ref (ad 0)), (2, .ref ga), (3, .ref ma), (4, .int (nI (i + 1))), (5, .int (nI (2 * i))), (8, .int (nI bx)), (9, .int (nI bY)), (10, .int (nI bw)), (11, .int (nI bh)), (12, .int 0), (13, .int (nI pn)), (14, .int 0)]) (by rfl) ?_
  exact J.eq rfl rfl rfl (loop_2 (J1 - bY) bY  (by omega) (Nat.le_refl _))

set_option maxRecDepth 100000 in
set_option maxHeartbeats 4000000 in
theorem lt_c01 {x : JX} {b L : Nat} {xs : Nat → Int32} (C : CB x RL cL_law) (M : LM x b) (X : LX x b L xs) (hn9 : x_n x = 21) (ad : Nat → Nat) (ga ma kq nq : Nat) (hkq : kq ≤ 600000) (hnq : nq ≤ 7302250) (hga : ∀ i, i < 37 → ga ≠ ad i) (hma : ∀ i, i < 37 → ma ≠ ad i) (hgm : ga ≠ ma) (B : Nat → Nat) (hb : ∀ j, B j < 128) (S : Hp) (i bx bY bw bh pn : Nat) (D : Nat → Int32) (P : Nat → Nat → Bool) (h1 : bx < 64) (h2 : bY < 64) (h3 : 1 ≤ bw ∧ bw ≤ 32) (h4 : 1 ≤ bh ∧ bh ≤ 32) (h5 : 1 ≤ pn ∧ pn ≤ 64) (m_ma : ma ∈ hL S) (k_ma : Kd S ma 14) (l_ma : Ln S ma 4096) (hD : aI S ma = D) (hMP : MP D P) (K : ∀ f : Nat → Int32, MP f (boxP 0 pn true bx bY bw bh P) → J x kq nq (rI S ma f) [(0, .ref b), (1, .ref (ad 0)), (2, .ref ga), (3, .ref ma), (4, .int (nI (i + 1))), (5, .int (nI (2 * i)))] 456 []) : J x kq nq S [(0, .ref b), (1, .ref (ad 0)), (2, .ref ga), (3, .ref ma), (4, .int (nI (i + 1))), (5, .int (nI (2 * i))), (8, .int (nI bx)), (9, .int (nI bY)), (10, .int (nI bw)), (11, .int (nI bh)), (12, .int 0), (13, .int (nI pn)), (14, .int 1)] 279 [] := by
  obtain ⟨J1, hJ1⟩ : ∃ J1 : Nat, J1 ≤ bY + bh ∧ J1 ≤ 64 ∧ (J1 = bY + bh ∨ J1 = 64) := by
    by_cases h : bY + bh ≤ 64
    · exact ⟨bY + bh, by omega⟩
    · exact ⟨64, by omega⟩
  obtain ⟨I1, hI1⟩ : ∃ I1 : Nat, I1 ≤ bx + bw ∧ I1 ≤ 64 ∧ (I1 = bx + bw ∨ I1 = 64) := by
    by_cases h : bx + bw ≤ 64
    · exact ⟨bx + bw, by omega⟩
    · exact ⟨64, by omega⟩
  refine j_iload C dL_law_279 7 rfl ?_
  refine j_istore (lv' := [(15, .int (nI bY)), (0, .ref b), (1, .ref (ad 0)), (2, .ref ga), (3, .ref ma), (4, .int (nI (i + 1))), (5, .int (nI (2 * i))), (8, .int (nI bx)), (9, .int (nI bY)), (10, .int (nI bw)), (11, .int (nI bh)), (12, .int 0), (13, .int (nI pn)), (14, .int 1)]) C dL_law_281 (by rw [hn9]; decide) rfl ?_
  have loop_2 : ∀ (m9 j : Nat), j + m9 = J1 → (bY ≤ j) → J x (kq) (nq) (rI S ma (mpF D 0 pn true bx bY bw bh j bx)) [(15, .int (nI j)), (0, .ref b), (1, .ref (ad 0)), (2, .ref ga), (3, .ref ma), (4, .int (nI (i + 1))), (5, .int (nI (2 * i))), (8, .int (nI bx)), (9, .int (nI bY)), (10, .int (nI bw)), (11, .int (nI bh)), (12, .int 0), (13, .int (nI pn)), (14, .int 1)] 283 [] := by
    intro m9
    induction m9 with
    | zero =>
      intro j  hi_3 hj0
      refine j_iload C dL_law_283 0 rfl ?_
      refine j_iload C dL_law_285 8 rfl ?_
      refine j_iload C dL_law_287 10 rfl ?_
      refine j_iadd (v := nI (bY + bh)) C dL_law_289 (nI_add bY bh) ?_
      refine j_ic_ge (tgt := 456) C dL_law_290 (by decide) (fun c_290 => ?_) (fun c_290 => ?_)
      · skip
        refine J.sub [1, 2, 3, 4, 5, 6] (lv' := [(0, .ref b), (1, .ref (ad 0)), (2, .ref ga), (3, .ref ma), (4, .int (nI (i + 1))), (5, .int (nI (2 * i)))]) (by rfl) ?_
        exact K (mpF D 0 pn true bx bY bw bh j bx) (mp_end hMP 0 pn true (by omega))
      · skip
        refine j_iload C dL_law_293 0 rfl ?_
        refine j_bipush (v := 64) C dL_law_295 (by decide) ?_
        refine j_ic_ge (tgt := 456) C dL_law_297 (by decide) (fun c_297 => ?_) (fun c_297 => absurd (nI_le (a := 64) (by have h9 : ¬ bY + bh ≤ j := fun q => c_290 (nI_le q (by omega)); omega) (by omega)) c_297)
        show J _ _ _ _ _ 456 _
        refine J.sub [1, 2, 3, 4, 5, 6] (lv' := [(0, .ref b), (1, .ref (ad 0)), (2, .ref ga), (3, .ref ma), (4, .int (nI (i + 1))), (5, .int (nI (2 * i)))]) (by rfl) ?_
        exact K (mpF D 0 pn true bx bY bw bh j bx) (mp_end hMP 0 pn true (by omega))
    | succ m9 ih_1 =>
      intro j  hi_3 hj0
      refine j_iload C dL_law_283 0 rfl ?_
      refine j_iload C dL_law_285 8 rfl ?_
      refine j_iload C dL_law_287 10 rfl ?_
      refine j_iadd (v := nI (bY + bh)) C dL_law_289 (nI_add bY bh) ?_
      refine j_ic_ge (tgt := 456) C dL_law_290 (by decide) (fun c_290 => absurd c_290 (nI_ge (by omega) (by omega))) (fun c_290 => ?_)
      refine j_iload C dL_law_293 0 rfl ?_
      refine j_bipush (v := 64) C dL_law_295 (by decide) ?_
      refine j_ic_ge (tgt := 456) C dL_law_297 (by decide) (fun c_297 => absurd c_297 (nI_ge (b := 64) (by omega) (by decide))) (fun c_297 => ?_)
      refine j_iload C dL_law_300 7 rfl ?_
      show J _ _ _ _ _ 302 _
      refine j_istore (lv' := [(16, .int (nI bx)), (15, .int (nI j)), (0, .ref b), (1, .ref (ad 0)), (2, .ref ga), (3, .ref ma), (4, .int (nI (i + 1))), (5, .int (nI (2 * i))), (8, .int (nI bx)), (9, .int (nI bY)), (10, .int (nI bw)), (11, .int (nI bh)), (12, .int 0), (13, .int (nI pn)), (14, .int 1)]) C dL_law_302 (by rw [hn9]; decide) rfl ?_
      have loop_5 : ∀ (m9 ii : Nat), ii + m9 = I1 → (bx ≤ ii) → J x (kq) (nq) (rI (rI S ma (mpF D 0 pn true bx bY bw bh j bx)) ma (mpF D 0 pn true bx bY bw bh j ii)) [(16, .int (nI ii)), (15, .int (nI j)), (0, .ref b), (1, .ref (ad 0)), (2, .ref ga), (3, .ref ma), (4, .int (nI (i + 1))), (5, .int (nI (2 * i))), (8, .int (nI bx)), (9, .int (nI bY)), (10, .int (nI bw)), (11, .int (nI bh)), (12, .int 0), (13, .int (nI pn)), (14, .int 1)] 304 [] := by
        intro m9
        induction m9 with
        | zero =>
          intro ii  hi_6 hi0
          refine j_iload C dL_law_304 0 rfl ?_
          refine j_iload C dL_law_306 8 rfl ?_
          refine j_iload C dL_law_308 10 rfl ?_
          refine j_iadd (v := nI (bx + bw)) C dL_law_310 (nI_add bx bw) ?_
          refine j_ic_ge (tgt := 450) C dL_law_311 (by decide) (fun c_311 => ?_) (fun c_311 => ?_)
          · skip
            refine j_iinc (q := 1) (v := nI (j + 1)) (lv' := [(15, .int (nI (j + 1))), (16, .int (nI ii)), (0, .ref b), (1, .ref (ad 0)), (2, .ref ga), (3, .ref ma), (4, .int (nI (i + 1))), (5, .int (nI (2 * i))), (8, .int (nI bx)), (9, .int (nI bY)), (10, .int (nI bw)), (11, .int (nI bh)), (12, .int 0), (13, .int (nI pn)), (14, .int 1)]) C dL_law_450 rfl (nI_add j 1) (by rw [hn9]; decide) rfl ?_
            refine j_goto (tgt := 283) C dL_law_453 (by decide) ?_
            refine J.sub [0, 2, 3, 4, 5, 6, 7, 8, 9, 10, 11, 12, 13, 14] (lv' := [(15, .int (nI (j + 1))), (0, .ref b), (1, .ref (ad 0)), (2, .ref ga), (3, .ref ma), (4, .int (nI (i + 1))), (5, .int (nI (2 * i))), (8, .int (nI bx)), (9, .int (nI bY)), (10, .int (nI bw)), (11, .int (nI bh)), (12, .int 0), (13, .int (nI pn)), (14, .int 1)]) (by rfl) ?_
            refine J.eq (S' := (rI S ma (mpF D 0 pn true bx bY bw bh (j + 1) bx))) (pg_nest (mp_row D _ _ _ (by omega))) rfl rfl ?_
            exact J.eq rfl rfl rfl (ih_1 (j + 1)  (by omega) (by omega))
          · skip
            refine j_iload C dL_law_314 0 rfl ?_
            refine j_bipush (v := 64) C dL_law_316 (by decide) ?_
            show J _ _ _ _ _ 318 _
            refine j_ic_ge (tgt := 450) C dL_law_318 (by decide) (fun c_318 => ?_) (fun c_318 => absurd (nI_le (a := 64) (by have h9 : ¬ bx + bw ≤ ii := fun q => c_311 (nI_le q (by omega)); omega) (by omega)) c_318)
            refine j_iinc (q := 1) (v := nI (j + 1)) (lv' := [(15, .int (nI (j + 1))), (16, .int (nI ii)), (0, .ref b), (1, .ref (ad 0)), (2, .ref ga), (3, .ref ma), (4, .int (nI (i + 1))), (5, .int (nI (2 * i))), (8, .int (nI bx)), (9, .int (nI bY)), (10, .int (nI bw)), (11, .int (nI bh)), (12, .int 0), (13, .int (nI pn)), (14, .int 1)]) C dL_law_450 rfl (nI_add j 1) (by rw [hn9]; decide) rfl ?_
            refine j_goto (tgt := 283) C dL_law_453 (by decide) ?_
            refine J.sub [0, 2, 3, 4, 5, 6, 7, 8, 9, 10, 11, 12, 13, 14] (lv' := [(15, .int (nI (j + 1))), (0, .ref b), (1, .ref (ad 0)), (2, .ref ga), (3, .ref ma), (4, .int (nI (i + 1))), (5, .int (nI (2 * i))), (8, .int (nI bx)), (9, .int (nI bY)), (10, .int (nI bw)), (11, .int (nI bh)), (12, .int 0), (13, .int (nI pn)), (14, .int 1)]) (by rfl) ?_
            refine J.eq (S' := (rI S ma (mpF D 0 pn true bx bY bw bh (j + 1) bx))) (pg_nest (mp_row D _ _ _ (by omega))) rfl rfl ?_
            exact J.eq rfl rfl rfl (ih_1 (j + 1)  (by omega) (by omega))
        | succ m9 ih_4 =>
          intro ii  hi_6 hi0
          refine j_iload C dL_law_304 0 rfl ?_
          refine j_iload C dL_law_306 8 rfl ?_
          refine j_iload C dL_law_308 10 rfl ?_
          refine j_iadd (v := nI (bx + bw)) C dL_law_310 (nI_add bx bw) ?_
          refine j_ic_ge (tgt := 450) C dL_law_311 (by decide) (fun c_311 => absurd c_311 (nI_ge (by omega) (by omega))) (fun c_311 => ?_)
          refine j_iload C dL_law_314 0 rfl ?_
          show J _ _ _ _ _ 316 _
          refine j_bipush (v := 64) C dL_law_316 (by decide) ?_
          refine j_ic_ge (tgt := 450) C dL_law_318 (by decide) (fun c_318 => absurd c_318 (nI_ge (b := 64) (by omega) (by decide))) (fun c_318 => ?_)
          refine j_iload C dL_law_321 0 rfl ?_
          refine j_iconst (v := 3) C dL_law_323 (by decide) ?_
          refine j_iand (v := nI (ii % 4)) C dL_law_324 (pk_andN (by omega) 2 (by decide)) ?_
          refine j_istore (lv' := [(17, .int (nI (ii % 4))), (16, .int (nI ii)), (15, .int (nI j)), (0, .ref b), (1, .ref (ad 0)), (2, .ref ga), (3, .ref ma), (4, .int (nI (i + 1))), (5, .int (nI (2 * i))), (8, .int (nI bx)), (9, .int (nI bY)), (10, .int (nI bw)), (11, .int (nI bh)), (12, .int 0), (13, .int (nI pn)), (14, .int 1)]) C dL_law_325 (by rw [hn9]; decide) rfl ?_
          refine j_iload C dL_law_327 2 rfl ?_
          refine j_iconst (v := 3) C dL_law_329 (by decide) ?_
          show J _ _ _ _ _ 330 _
          refine j_iand (v := nI (j % 4)) C dL_law_330 (pk_andN (by omega) 2 (by decide)) ?_
          refine j_istore (lv' := [(18, .int (nI (j % 4))), (17, .int (nI (ii % 4))), (16, .int (nI ii)), (15, .int (nI j)), (0, .ref b), (1, .ref (ad 0)), (2, .ref ga), (3, .ref ma), (4, .int (nI (i + 1))), (5, .int (nI (2 * i))), (8, .int (nI bx)), (9, .int (nI bY)), (10, .int (nI bw)), (11, .int (nI bh)), (12, .int 0), (13, .int (nI pn)), (14, .int 1)]) C dL_law_331 (by rw [hn9]; decide) rfl ?_
          refine j_iload C dL_law_333 1 rfl ?_
          refine j_iload C dL_law_335 0 rfl ?_
          refine j_ixor (v := (nI (ii % 4) ^^^ nI (j % 4))) C dL_law_337 rfl ?_
          refine j_iconst (v := 1) C dL_law_338 (by decide) ?_
          refine j_iand C dL_law_339 rfl ?_
          refine j_bipush (v := 8) C dL_law_340 (by decide) ?_
          show J _ _ _ _ _ 342 _
          refine j_imul C dL_law_342 rfl ?_
          refine j_iload C dL_law_343 0 rfl ?_
          refine j_iconst (v := 1) C dL_law_345 (by decide) ?_
          refine j_iand (v := nI ((j % 4) % 2)) C dL_law_346 (pk_andN (by omega) 1 (by decide)) ?_
          refine j_iconst (v := 4) C dL_law_347 (by decide) ?_
          refine j_imul (v := nI (((j % 4) % 2) * 4)) C dL_law_348 (pk_mul ((j % 4) % 2) 4) ?_
          refine j_iadd C dL_law_349 rfl ?_
          refine j_iload C dL_law_350 1 rfl ?_
          show J _ _ _ _ _ 352 _
          refine j_iload C dL_law_352 0 rfl ?_
          refine j_ixor (v := (nI (ii % 4) ^^^ nI (j % 4))) C dL_law_354 rfl ?_
          refine j_iconst (v := 1) C dL_law_355 (by decide) ?_
          refine j_ishr C dL_law_356 rfl ?_
          refine j_iconst (v := 1) C dL_law_357 (by decide) ?_
          refine j_iand C dL_law_358 rfl ?_
          refine j_iconst (v := 2) C dL_law_359 (by decide) ?_
          refine j_imul C dL_law_360 rfl ?_
          show J _ _ _ _ _ 361 _
          refine j_iadd C dL_law_361 rfl ?_
          refine j_iload C dL_law_362 0 rfl ?_
          refine j_iconst (v := 1) C dL_law_364 (by decide) ?_
          refine j_ishr (v := nI ((j % 4) / 2)) C dL_law_365 (pk_shrN (by omega) _ 1 (by decide)) ?_
          refine j_iconst (v := 1) C dL_law_366 (by decide) ?_
          refine j_iand (v := nI (((j % 4) / 2) % 2)) C dL_law_367 (pk_andN (by omega) 1 (by decide)) ?_
          refine j_iadd C dL_law_368 rfl ?_
          refine J.eq (st' := .int (nI (shN (4 * (j % 4) + ii % 4))) :: []) rfl rfl (congrArg (fun z9 => Value.int z9 :: []) (tt_ok _ (Nat.mod_lt _ (by decide)) _ (Nat.mod_lt _ (by decide)))) ?_
          refine j_istore (lv' := [(19, .int (nI (shN (4 * (j % 4) + ii % 4)))), (18, .int (nI (j % 4))), (17, .int (nI (ii % 4))), (16, .int (nI ii)), (15, .int (nI j)), (0, .ref b), (1, .ref (ad 0)), (2, .ref ga), (3, .ref ma), (4, .int (nI (i + 1))), (5, .int (nI (2 * i))), (8, .int (nI bx)), (9, .int (nI bY)), (10, .int (nI bw)), (11, .int (nI bh)), (12, .int 0), (13, .int (nI pn)), (14, .int 1)]) C dL_law_369 (by rw [hn9]; decide) rfl ?_
          show J _ _ _ _ _ 371 _
          refine j_iload C dL_law_371 15 rfl ?_
          refine j_if_eq (tgt := 395) C dL_law_373 (by decide) (fun c9 => ?_) (fun c9 => absurd (by decide) c9)
          refine j_iconst (v := 1) C dL_law_395 (by decide) ?_
          refine j_goto (tgt := 400) C dL_law_396 (by decide) ?_
          refine j_istore (lv' := [(20, .int 1), (19, .int (nI (shN (4 * (j % 4) + ii % 4)))), (18, .int (nI (j % 4))), (17, .int (nI (ii % 4))), (16, .int (nI ii)), (15, .int (nI j)), (0, .ref b), (1, .ref (ad 0)), (2, .ref ga), (3, .ref ma), (4, .int (nI (i + 1))), (5, .int (nI (2 * i))), (8, .int (nI bx)), (9, .int (nI bY)), (10, .int (nI bw)), (11, .int (nI bh)), (12, .int 0), (13, .int (nI pn)), (14, .int 1)]) C dL_law_400 (by rw [hn9]; decide) rfl ?_
          refine j_iload C dL_law_402 0 rfl ?_
          refine j_if_eq (tgt := 421) C dL_law_404 (by decide) (fun c9 => absurd c9 (by decide)) (fun c9 => ?_)
          refine j_aload_n C dL_law_407 rfl 9 rfl ?_
          show J _ _ _ _ _ 408 _
          refine j_bipush (v := 64) C dL_law_408 (by decide) ?_
          refine j_iload C dL_law_410 5 rfl ?_
          refine j_imul (v := nI (64 * j)) C dL_law_412 (pk_mul 64 j) ?_
          refine j_iload C dL_law_413 4 rfl ?_
          refine j_iadd (v := nI ((64 * j) + ii)) C dL_law_415 (nI_add (64 * j) ii) ?_
          refine j_iconst (v := 1) C dL_law_416 (by decide) ?_
          refine j_iast (j := ((64 * j) + ii)) C dL_law_417 m_ma k_ma (inr_of (n := 4096) l_ma (vp_in_nI (by omega) (by omega))) (nI_clamp (by omega)) ?_
          refine j_goto (tgt := 444) C dL_law_418 (by decide) ?_
          show J _ _ _ _ _ 444 _
          refine j_iinc (q := 4) (v := nI (ii + 1)) (lv' := [(16, .int (nI (ii + 1))), (20, .int 1), (19, .int (nI (shN (4 * (j % 4) + ii % 4)))), (18, .int (nI (j % 4))), (17, .int (nI (ii % 4))), (15, .int (nI j)), (0, .ref b), (1, .ref (ad 0)), (2, .ref ga), (3, .ref ma), (4, .int (nI (i + 1))), (5, .int (nI (2 * i))), (8, .int (nI bx)), (9, .int (nI bY)), (10, .int (nI bw)), (11, .int (nI bh)), (12, .int 0), (13, .int (nI pn)), (14, .int 1)]) C dL_law_444 rfl (nI_add ii 1) (by rw [hn9]; decide) rfl ?_
          refine j_goto (tgt := 304) C dL_law_447 (by decide) ?_
          refine J.sub [0, 5, 6, 7, 8, 9, 10, 11, 12, 13, 14, 15, 16, 17, 18] (lv' := [(16, .int (nI (ii + 1))), (15, .int (nI j)), (0, .ref b), (1, .ref (ad 0)), (2, .ref ga), (3, .ref ma), (4, .int (nI (i + 1))), (5, .int (nI (2 * i))), (8, .int (nI bx)), (9, .int (nI bY)), (10, .int (nI bw)), (11, .int (nI bh)), (12, .int 0), (13, .int (nI pn)), (14, .int 1)]) (by rfl) ?_
          refine J.eq (S' := (rI (rI S ma (mpF D 0 pn true bx bY bw bh j bx)) ma (mpF D 0 pn true bx bY bw bh j (ii + 1)))) (rI_step (fun q9 => by rw [← mp_s D 0 pn true (bx := bx) (bY := bY) (bw := bw) (bh := bh) (j := j) (i := ii) (by omega) (by omega) (by omega) (by omega) (by omega) q9]; rw [show (if inkK 0 pn ii j = true then (1 : Int32) else if (true || decide (0 = 1)) = true then 0 else D q9) = 1 from (by rw [(show inkK 0 pn ii j = true from rfl)]; rfl)])) rfl rfl ?_
          exact J.eq rfl rfl rfl (ih_4 (ii + 1)  (by omega) (by omega))
      refine J.eq (S' := (rI (rI S ma (mpF D 0 pn true bx bY bw bh j bx)) ma (mpF D 0 pn true bx bY bw bh j bx))) (rI_id (fun q9 => rd_rIs.symm)) rfl rfl ?_
      refine J.sub [0, 1, 2, 3, 4, 5, 6, 7, 8, 9, 10, 11, 12, 13, 14] (lv' := [(16, .int (nI bx)), (15, .int (nI j)), (0, .ref b), (1, .ref (ad 0)), (2, .ref ga), (3, .ref ma), (4, .int (nI (i + 1))), (5, .int (nI (2 * i))), (8, .int (nI bx)), (9, .int (nI bY)), (10, .int (nI bw)), (11, .int (nI bh)), (12, .int 0), (13, .int (nI pn)), (14, .int 1)]) (by rfl) ?_
      exact J.eq rfl rfl rfl (loop_5 (I1 - bx) bx  (by omega) (Nat.le_refl _))
  refine J.eq (S' := (rI S ma (mpF D 0 pn true bx bY bw bh bY bx))) (rI_id (fun q9 => (mp_0 D _ _ _ _ _ _ _ q9).trans (congrFun hD.symm q9))) rfl rfl ?_
  refine J.sub [0, 1, 2, 3, 4, 5, 6, 7, 8, 9, 10, 11, 12, 13] (lv' := [(15, .int (nI bY)), (0, .ref b), (1, .ref (ad 0)), (2, .ref ga), (3, .ref ma), (4, .int (nI (i + 1))), (5, .int (nI (2 * i))), (8, .int (nI bx)), (9, .int (nI bY)), (10, .int (nI bw)), (11, .int (nI bh)), (12, .int 0), (13, .int (nI pn)), (14, .int 1)]) (by rfl) ?_
  exact J.eq rfl rfl rfl (loop_2 (J1 - bY) bY  (by omega) (Nat.le_refl _))

set_option maxRecDepth 100000 in
set_option maxHeartbeats 4000000 in
theorem lt_c10 {x : JX} {b L : Nat} {xs : Nat → Int32} (C : CB x RL cL_law) (M : LM x b) (X : LX x b L xs) (hn9 : x_n x = 21) (ad : Nat → Nat) (ga ma kq nq : Nat) (hkq : kq ≤ 600000) (hnq : nq ≤ 7302250) (hga : ∀ i, i < 37 → ga ≠ ad i) (hma : ∀ i, i < 37 → ma ≠ ad i) (hgm : ga ≠ ma) (B : Nat → Nat) (hb : ∀ j, B j < 128) (S : Hp) (i bx bY bw bh pn : Nat) (D : Nat → Int32) (P : Nat → Nat → Bool) (h1 : bx < 64) (h2 : bY < 64) (h3 : 1 ≤ bw ∧ bw ≤ 32) (h4 : 1 ≤ bh ∧ bh ≤ 32) (h5 : 1 ≤ pn ∧ pn ≤ 64) (m_ma : ma ∈ hL S) (k_ma : Kd S ma 14) (l_ma : Ln S ma 4096) (hD : aI S ma = D) (hMP : MP D P) (K : ∀ f : Nat → Int32, MP f (boxP 1 pn false bx bY bw bh P) → J x kq nq (rI S ma f) [(0, .ref b), (1, .ref (ad 0)), (2, .ref ga), (3, .ref ma), (4, .int (nI (i + 1))), (5, .int (nI (2 * i)))] 456 []) : J x kq nq S [(0, .ref b), (1, .ref (ad 0)), (2, .ref ga), (3, .ref ma), (4, .int (nI (i + 1))), (5, .int (nI (2 * i))), (8, .int (nI bx)), (9, .int (nI bY)), (10, .int (nI bw)), (11, .int (nI bh)), (12, .int 1), (13, .int (nI pn)), (14, .int 0)] 279 [] := by
  obtain ⟨J1, hJ1⟩ : ∃ J1 : Nat, J1 ≤ bY + bh ∧ J1 ≤ 64 ∧ (J1 = bY + bh ∨ J1 = 64) := by
    by_cases h : bY + bh ≤ 64
    · exact ⟨bY + bh, by omega⟩
    · exact ⟨64, by omega⟩
  obtain ⟨I1, hI1⟩ : ∃ I1 : Nat, I1 ≤ bx + bw ∧ I1 ≤ 64 ∧ (I1 = bx + bw ∨ I1 = 64) := by
    by_cases h : bx + bw ≤ 64
    · exact ⟨bx + bw, by omega⟩
    · exact ⟨64, by omega⟩
  refine j_iload C dL_law_279 7 rfl ?_
  refine j_istore (lv' := [(15, .int (nI bY)), (0, .ref b), (1, .ref (ad 0)), (2, .ref ga), (3, .ref ma), (4, .int (nI (i + 1))), (5, .int (nI (2 * i))), (8, .int (nI bx)), (9, .int (nI bY)), (10, .int (nI bw)), (11, .int (nI bh)), (12, .int 1), (13, .int (nI pn)), (14, .int 0)]) C dL_law_281 (by rw [hn9]; decide) rfl ?_
  have loop_2 : ∀ (m9 j : Nat), j + m9 = J1 → (bY ≤ j) → J x (kq) (nq) (rI S ma (mpF D 1 pn false bx bY bw bh j bx)) [(15, .int (nI j)), (0, .ref b), (1, .ref (ad 0)), (2, .ref ga), (3, .ref ma), (4, .int (nI (i + 1))), (5, .int (nI (2 * i))), (8, .int (nI bx)), (9, .int (nI bY)), (10, .int (nI bw)), (11, .int (nI bh)), (12, .int 1), (13, .int (nI pn)), (14, .int 0)] 283 [] := by
    intro m9
    induction m9 with
    | zero =>
      intro j  hi_3 hj0
      refine j_iload C dL_law_283 0 rfl ?_
      refine j_iload C dL_law_285 8 rfl ?_
      refine j_iload C dL_law_287 10 rfl ?_
      refine j_iadd (v := nI (bY + bh)) C dL_law_289 (nI_add bY bh) ?_
      refine j_ic_ge (tgt := 456) C dL_law_290 (by decide) (fun c_290 => ?_) (fun c_290 => ?_)
      · skip
        refine J.sub [1, 2, 3, 4, 5, 6] (lv' := [(0, .ref b), (1, .ref (ad 0)), (2, .ref ga), (3, .ref ma), (4, .int (nI (i + 1))), (5, .int (nI (2 * i)))]) (by rfl) ?_
        exact K (mpF D 1 pn false bx bY bw bh j bx) (mp_end hMP 1 pn false (by omega))
      · skip
        refine j_iload C dL_law_293 0 rfl ?_
        refine j_bipush (v := 64) C dL_law_295 (by decide) ?_
        refine j_ic_ge (tgt := 456) C dL_law_297 (by decide) (fun c_297 => ?_) (fun c_297 => absurd (nI_le (a := 64) (by have h9 : ¬ bY + bh ≤ j := fun q => c_290 (nI_le q (by omega)); omega) (by omega)) c_297)
        show J _ _ _ _ _ 456 _
        refine J.sub [1, 2, 3, 4, 5, 6] (lv' := [(0, .ref b), (1, .ref (ad 0)), (2, .ref ga), (3, .ref ma), (4, .int (nI (i + 1))), (5, .int (nI (2 * i)))]) (by rfl) ?_
        exact K (mpF D 1 pn false bx bY bw bh j bx) (mp_end hMP 1 pn false (by omega))
    | succ m9 ih_1 =>
      intro j  hi_3 hj0
      refine j_iload C dL_law_283 0 rfl ?_
      refine j_iload C dL_law_285 8 rfl ?_
      refine j_iload C dL_law_287 10 rfl ?_
      refine j_iadd (v := nI (bY + bh)) C dL_law_289 (nI_add bY bh) ?_
      refine j_ic_ge (tgt := 456) C dL_law_290 (by decide) (fun c_290 => absurd c_290 (nI_ge (by omega) (by omega))) (fun c_290 => ?_)
      refine j_iload C dL_law_293 0 rfl ?_
      refine j_bipush (v := 64) C dL_law_295 (by decide) ?_
      refine j_ic_ge (tgt := 456) C dL_law_297 (by decide) (fun c_297 => absurd c_297 (nI_ge (b := 64) (by omega) (by decide))) (fun c_297 => ?_)
      refine j_iload C dL_law_300 7 rfl ?_
      show J _ _ _ _ _ 302 _
      refine j_istore (lv' := [(16, .int (nI bx)), (15, .int (nI j)), (0, .ref b), (1, .ref (ad 0)), (2, .ref ga), (3, .ref ma), (4, .int (nI (i + 1))), (5, .int (nI (2 * i))), (8, .int (nI bx)), (9, .int (nI bY)), (10, .int (nI bw)), (11, .int (nI bh)), (12, .int 1), (13, .int (nI pn)), (14, .int 0)]) C dL_law_302 (by rw [hn9]; decide) rfl ?_
      have loop_5 : ∀ (m9 ii : Nat), ii + m9 = I1 → (bx ≤ ii) → J x (kq) (nq) (rI (rI S ma (mpF D 1 pn false bx bY bw bh j bx)) ma (mpF D 1 pn false bx bY bw bh j ii)) [(16, .int (nI ii)), (15, .int (nI j)), (0, .ref b), (1, .ref (ad 0)), (2, .ref ga), (3, .ref ma), (4, .int (nI (i + 1))), (5, .int (nI (2 * i))), (8, .int (nI bx)), (9, .int (nI bY)), (10, .int (nI bw)), (11, .int (nI bh)), (12, .int 1), (13, .int (nI pn)), (14, .int 0)] 304 [] := by
        intro m9
        induction m9 with
        | zero =>
          intro ii  hi_6 hi0
          refine j_iload C dL_law_304 0 rfl ?_
          refine j_iload C dL_law_306 8 rfl ?_
          refine j_iload C dL_law_308 10 rfl ?_
          refine j_iadd (v := nI (bx + bw)) C dL_law_310 (nI_add bx bw) ?_
          refine j_ic_ge (tgt := 450) C dL_law_311 (by decide) (fun c_311 => ?_) (fun c_311 => ?_)
          · skip
            refine j_iinc (q := 1) (v := nI (j + 1)) (lv' := [(15, .int (nI (j + 1))), (16, .int (nI ii)), (0, .ref b), (1, .ref (ad 0)), (2, .ref ga), (3, .ref ma), (4, .int (nI (i + 1))), (5, .int (nI (2 * i))), (8, .int (nI bx)), (9, .int (nI bY)), (10, .int (nI bw)), (11, .int (nI bh)), (12, .int 1), (13, .int (nI pn)), (14, .int 0)]) C dL_law_450 rfl (nI_add j 1) (by rw [hn9]; decide) rfl ?_
            refine j_goto (tgt := 283) C dL_law_453 (by decide) ?_
            refine J.sub [0, 2, 3, 4, 5, 6, 7, 8, 9, 10, 11, 12, 13, 14] (lv' := [(15, .int (nI (j + 1))), (0, .ref b), (1, .ref (ad 0)), (2, .ref ga), (3, .ref ma), (4, .int (nI (i + 1))), (5, .int (nI (2 * i))), (8, .int (nI bx)), (9, .int (nI bY)), (10, .int (nI bw)), (11, .int (nI bh)), (12, .int 1), (13, .int (nI pn)), (14, .int 0)]) (by rfl) ?_
            refine J.eq (S' := (rI S ma (mpF D 1 pn false bx bY bw bh (j + 1) bx))) (pg_nest (mp_row D _ _ _ (by omega))) rfl rfl ?_
            exact J.eq rfl rfl rfl (ih_1 (j + 1)  (by omega) (by omega))
          · skip
            refine j_iload C dL_law_314 0 rfl ?_
            refine j_bipush (v := 64) C dL_law_316 (by decide) ?_
            show J _ _ _ _ _ 318 _
            refine j_ic_ge (tgt := 450) C dL_law_318 (by decide) (fun c_318 => ?_) (fun c_318 => absurd (nI_le (a := 64) (by have h9 : ¬ bx + bw ≤ ii := fun q => c_311 (nI_le q (by omega)); omega) (by omega)) c_318)
            refine j_iinc (q := 1) (v := nI (j + 1)) (lv' := [(15, .int (nI (j + 1))), (16, .int (nI ii)), (0, .ref b), (1, .ref (ad 0)), (2, .ref ga), (3, .ref ma), (4, .int (nI (i + 1))), (5, .int (nI (2 * i))), (8, .int (nI bx)), (9, .int (nI bY)), (10, .int (nI bw)), (11, .int (nI bh)), (12, .int 1), (13, .int (nI pn)), (14, .int 0)]) C dL_law_450 rfl (nI_add j 1) (by rw [hn9]; decide) rfl ?_
            refine j_goto (tgt := 283) C dL_law_453 (by decide) ?_
            refine J.sub [0, 2, 3, 4, 5, 6, 7, 8, 9, 10, 11, 12, 13, 14] (lv' := [(15, .int (nI (j + 1))), (0, .ref b), (1, .ref (ad 0)), (2, .ref ga), (3, .ref ma), (4, .int (nI (i + 1))), (5, .int (nI (2 * i))), (8, .int (nI bx)), (9, .int (nI bY)), (10, .int (nI bw)), (11, .int (nI bh)), (12, .int 1), (13, .int (nI pn)), (14, .int 0)]) (by rfl) ?_
            refine J.eq (S' := (rI S ma (mpF D 1 pn false bx bY bw bh (j + 1) bx))) (pg_nest (mp_row D _ _ _ (by omega))) rfl rfl ?_
            exact J.eq rfl rfl rfl (ih_1 (j + 1)  (by omega) (by omega))
        | succ m9 ih_4 =>
          intro ii  hi_6 hi0
          refine j_iload C dL_law_304 0 rfl ?_
          refine j_iload C dL_law_306 8 rfl ?_
          refine j_iload C dL_law_308 10 rfl ?_
          refine j_iadd (v := nI (bx + bw)) C dL_law_310 (nI_add bx bw) ?_
          refine j_ic_ge (tgt := 450) C dL_law_311 (by decide) (fun c_311 => absurd c_311 (nI_ge (by omega) (by omega))) (fun c_311 => ?_)
          refine j_iload C dL_law_314 0 rfl ?_
          show J _ _ _ _ _ 316 _
          refine j_bipush (v := 64) C dL_law_316 (by decide) ?_
          refine j_ic_ge (tgt := 450) C dL_law_318 (by decide) (fun c_318 => absurd c_318 (nI_ge (b := 64) (by omega) (by decide))) (fun c_318 => ?_)
          refine j_iload C dL_law_321 0 rfl ?_
          refine j_iconst (v := 3) C dL_law_323 (by decide) ?_
          refine j_iand (v := nI (ii % 4)) C dL_law_324 (pk_andN (by omega) 2 (by decide)) ?_
          refine j_istore (lv' := [(17, .int (nI (ii % 4))), (16, .int (nI ii)), (15, .int (nI j)), (0, .ref b), (1, .ref (ad 0)), (2, .ref ga), (3, .ref ma), (4, .int (nI (i + 1))), (5, .int (nI (2 * i))), (8, .int (nI bx)), (9, .int (nI bY)), (10, .int (nI bw)), (11, .int (nI bh)), (12, .int 1), (13, .int (nI pn)), (14, .int 0)]) C dL_law_325 (by rw [hn9]; decide) rfl ?_
          refine j_iload C dL_law_327 2 rfl ?_
          refine j_iconst (v := 3) C dL_law_329 (by decide) ?_
          show J _ _ _ _ _ 330 _
          refine j_iand (v := nI (j % 4)) C dL_law_330 (pk_andN (by omega) 2 (by decide)) ?_
          refine j_istore (lv' := [(18, .int (nI (j % 4))), (17, .int (nI (ii % 4))), (16, .int (nI ii)), (15, .int (nI j)), (0, .ref b), (1, .ref (ad 0)), (2, .ref ga), (3, .ref ma), (4, .int (nI (i + 1))), (5, .int (nI (2 * i))), (8, .int (nI bx)), (9, .int (nI bY)), (10, .int (nI bw)), (11, .int (nI bh)), (12, .int 1), (13, .int (nI pn)), (14, .int 0)]) C dL_law_331 (by rw [hn9]; decide) rfl ?_
          refine j_iload C dL_law_333 1 rfl ?_
          refine j_iload C dL_law_335 0 rfl ?_
          refine j_ixor (v := (nI (ii % 4) ^^^ nI (j % 4))) C dL_law_337 rfl ?_
          refine j_iconst (v := 1) C dL_law_338 (by decide) ?_
          refine j_iand C dL_law_339 rfl ?_
          refine j_bipush (v := 8) C dL_law_340 (by decide) ?_
          show J _ _ _ _ _ 342 _
          refine j_imul C dL_law_342 rfl ?_
          refine j_iload C dL_law_343 0 rfl ?_
          refine j_iconst (v := 1) C dL_law_345 (by decide) ?_
          refine j_iand (v := nI ((j % 4) % 2)) C dL_law_346 (pk_andN (by omega) 1 (by decide)) ?_
          refine j_iconst (v := 4) C dL_law_347 (by decide) ?_
          refine j_imul (v := nI (((j % 4) % 2) * 4)) C dL_law_348 (pk_mul ((j % 4) % 2) 4) ?_
          refine j_iadd C dL_law_349 rfl ?_
          refine j_iload C dL_law_350 1 rfl ?_
          show J _ _ _ _ _ 352 _
          refine j_iload C dL_law_352 0 rfl ?_
          refine j_ixor (v := (nI (ii % 4) ^^^ nI (j % 4))) C dL_law_354 rfl ?_
          refine j_iconst (v := 1) C dL_law_355 (by decide) ?_
          refine j_ishr C dL_law_356 rfl ?_
          refine j_iconst (v := 1) C dL_law_357 (by decide) ?_
          refine j_iand C dL_law_358 rfl ?_
          refine j_iconst (v := 2) C dL_law_359 (by decide) ?_
          refine j_imul C dL_law_360 rfl ?_
          show J _ _ _ _ _ 361 _
          refine j_iadd C dL_law_361 rfl ?_
          refine j_iload C dL_law_362 0 rfl ?_
          refine j_iconst (v := 1) C dL_law_364 (by decide) ?_
          refine j_ishr (v := nI ((j % 4) / 2)) C dL_law_365 (pk_shrN (by omega) _ 1 (by decide)) ?_
          refine j_iconst (v := 1) C dL_law_366 (by decide) ?_
          refine j_iand (v := nI (((j % 4) / 2) % 2)) C dL_law_367 (pk_andN (by omega) 1 (by decide)) ?_
          refine j_iadd C dL_law_368 rfl ?_
          refine J.eq (st' := .int (nI (shN (4 * (j % 4) + ii % 4))) :: []) rfl rfl (congrArg (fun z9 => Value.int z9 :: []) (tt_ok _ (Nat.mod_lt _ (by decide)) _ (Nat.mod_lt _ (by decide)))) ?_
          refine j_istore (lv' := [(19, .int (nI (shN (4 * (j % 4) + ii % 4)))), (18, .int (nI (j % 4))), (17, .int (nI (ii % 4))), (16, .int (nI ii)), (15, .int (nI j)), (0, .ref b), (1, .ref (ad 0)), (2, .ref ga), (3, .ref ma), (4, .int (nI (i + 1))), (5, .int (nI (2 * i))), (8, .int (nI bx)), (9, .int (nI bY)), (10, .int (nI bw)), (11, .int (nI bh)), (12, .int 1), (13, .int (nI pn)), (14, .int 0)]) C dL_law_369 (by rw [hn9]; decide) rfl ?_
          show J _ _ _ _ _ 371 _
          refine j_iload C dL_law_371 15 rfl ?_
          refine j_if_eq (tgt := 395) C dL_law_373 (by decide) (fun c9 => absurd c9 (by decide)) (fun c9 => ?_)
          refine j_iload C dL_law_376 15 rfl ?_
          refine j_iconst (v := 2) C dL_law_378 (by decide) ?_
          refine j_ic_ne (tgt := 399) C dL_law_379 (by decide) (fun c9 => ?_) (fun c9 => absurd c9 (by decide))
          refine j_iconst (v := 0) C dL_law_399 (by decide) ?_
          refine j_istore (lv' := [(20, .int 0), (19, .int (nI (shN (4 * (j % 4) + ii % 4)))), (18, .int (nI (j % 4))), (17, .int (nI (ii % 4))), (16, .int (nI ii)), (15, .int (nI j)), (0, .ref b), (1, .ref (ad 0)), (2, .ref ga), (3, .ref ma), (4, .int (nI (i + 1))), (5, .int (nI (2 * i))), (8, .int (nI bx)), (9, .int (nI bY)), (10, .int (nI bw)), (11, .int (nI bh)), (12, .int 1), (13, .int (nI pn)), (14, .int 0)]) C dL_law_400 (by rw [hn9]; decide) rfl ?_
          refine j_iload C dL_law_402 0 rfl ?_
          show J _ _ _ _ _ 404 _
          refine j_if_eq (tgt := 421) C dL_law_404 (by decide) (fun c9 => ?_) (fun c9 => absurd (by decide) c9)
          refine j_iload C dL_law_421 16 rfl ?_
          refine j_iconst (v := 1) C dL_law_423 (by decide) ?_
          refine j_ic_eq (tgt := 433) C dL_law_424 (by decide) (fun c9 => ?_) (fun c9 => absurd (by decide) c9)
          refine j_aload_n C dL_law_433 rfl 9 rfl ?_
          refine j_bipush (v := 64) C dL_law_434 (by decide) ?_
          refine j_iload C dL_law_436 5 rfl ?_
          refine j_imul (v := nI (64 * j)) C dL_law_438 (pk_mul 64 j) ?_
          show J _ _ _ _ _ 439 _
          refine j_iload C dL_law_439 4 rfl ?_
          refine j_iadd (v := nI ((64 * j) + ii)) C dL_law_441 (nI_add (64 * j) ii) ?_
          refine j_iconst (v := 0) C dL_law_442 (by decide) ?_
          refine j_iast (j := ((64 * j) + ii)) C dL_law_443 m_ma k_ma (inr_of (n := 4096) l_ma (vp_in_nI (by omega) (by omega))) (nI_clamp (by omega)) ?_
          refine j_iinc (q := 4) (v := nI (ii + 1)) (lv' := [(16, .int (nI (ii + 1))), (20, .int 0), (19, .int (nI (shN (4 * (j % 4) + ii % 4)))), (18, .int (nI (j % 4))), (17, .int (nI (ii % 4))), (15, .int (nI j)), (0, .ref b), (1, .ref (ad 0)), (2, .ref ga), (3, .ref ma), (4, .int (nI (i + 1))), (5, .int (nI (2 * i))), (8, .int (nI bx)), (9, .int (nI bY)), (10, .int (nI bw)), (11, .int (nI bh)), (12, .int 1), (13, .int (nI pn)), (14, .int 0)]) C dL_law_444 rfl (nI_add ii 1) (by rw [hn9]; decide) rfl ?_
          refine j_goto (tgt := 304) C dL_law_447 (by decide) ?_
          refine J.sub [0, 5, 6, 7, 8, 9, 10, 11, 12, 13, 14, 15, 16, 17, 18] (lv' := [(16, .int (nI (ii + 1))), (15, .int (nI j)), (0, .ref b), (1, .ref (ad 0)), (2, .ref ga), (3, .ref ma), (4, .int (nI (i + 1))), (5, .int (nI (2 * i))), (8, .int (nI bx)), (9, .int (nI bY)), (10, .int (nI bw)), (11, .int (nI bh)), (12, .int 1), (13, .int (nI pn)), (14, .int 0)]) (by rfl) ?_
          refine J.eq (S' := (rI (rI S ma (mpF D 1 pn false bx bY bw bh j bx)) ma (mpF D 1 pn false bx bY bw bh j (ii + 1)))) (rI_step (fun q9 => by rw [← mp_s D 1 pn false (bx := bx) (bY := bY) (bw := bw) (bh := bh) (j := j) (i := ii) (by omega) (by omega) (by omega) (by omega) (by omega) q9]; rw [show (if inkK 1 pn ii j = true then (1 : Int32) else if (false || decide (1 = 1)) = true then 0 else D q9) = 0 from (by rw [(show inkK 1 pn ii j = false from rfl)]; rfl)])) rfl rfl ?_
          exact J.eq rfl rfl rfl (ih_4 (ii + 1)  (by omega) (by omega))
      refine J.eq (S' := (rI (rI S ma (mpF D 1 pn false bx bY bw bh j bx)) ma (mpF D 1 pn false bx bY bw bh j bx))) (rI_id (fun q9 => rd_rIs.symm)) rfl rfl ?_
      refine J.sub [0, 1, 2, 3, 4, 5, 6, 7, 8, 9, 10, 11, 12, 13, 14] (lv' := [(16, .int (nI bx)), (15, .int (nI j)), (0, .ref b), (1, .ref (ad 0)), (2, .ref ga), (3, .ref ma), (4, .int (nI (i + 1))), (5, .int (nI (2 * i))), (8, .int (nI bx)), (9, .int (nI bY)), (10, .int (nI bw)), (11, .int (nI bh)), (12, .int 1), (13, .int (nI pn)), (14, .int 0)]) (by rfl) ?_
      exact J.eq rfl rfl rfl (loop_5 (I1 - bx) bx  (by omega) (Nat.le_refl _))
  refine J.eq (S' := (rI S ma (mpF D 1 pn false bx bY bw bh bY bx))) (rI_id (fun q9 => (mp_0 D _ _ _ _ _ _ _ q9).trans (congrFun hD.symm q9))) rfl rfl ?_
  refine J.sub [0, 1, 2, 3, 4, 5, 6, 7, 8, 9, 10, 11, 12, 13] (lv' := [(15, .int (nI bY)), (0, .ref b), (1, .ref (ad 0)), (2, .ref ga), (3, .ref ma), (4, .int (nI (i + 1))), (5, .int (nI (2 * i))), (8, .int (nI bx)), (9, .int (nI bY)), (10, .int (nI bw)), (11, .int (nI bh)), (12, .int 1), (13, .int (nI pn)), (14, .int 0)]) (by rfl) ?_
  exact J.eq rfl rfl rfl (loop_2 (J1 - bY) bY  (by omega) (Nat.le_refl _))

set_option maxRecDepth 100000 in
set_option maxHeartbeats 4000000 in
theorem lt_c11 {x : JX} {b L : Nat} {xs : Nat → Int32} (C : CB x RL cL_law) (M : LM x b) (X : LX x b L xs) (hn9 : x_n x = 21) (ad : Nat → Nat) (ga ma kq nq : Nat) (hkq : kq ≤ 600000) (hnq : nq ≤ 7302250) (hga : ∀ i, i < 37 → ga ≠ ad i) (hma : ∀ i, i < 37 → ma ≠ ad i) (hgm : ga ≠ ma) (B : Nat → Nat) (hb : ∀ j, B j < 128) (S : Hp) (i bx bY bw bh pn : Nat) (D : Nat → Int32) (P : Nat → Nat → Bool) (h1 : bx < 64) (h2 : bY < 64) (h3 : 1 ≤ bw ∧ bw ≤ 32) (h4 : 1 ≤ bh ∧ bh ≤ 32) (h5 : 1 ≤ pn ∧ pn ≤ 64) (m_ma : ma ∈ hL S) (k_ma : Kd S ma 14) (l_ma : Ln S ma 4096) (hD : aI S ma = D) (hMP : MP D P) (K : ∀ f : Nat → Int32, MP f (boxP 1 pn true bx bY bw bh P) → J x kq nq (rI S ma f) [(0, .ref b), (1, .ref (ad 0)), (2, .ref ga), (3, .ref ma), (4, .int (nI (i + 1))), (5, .int (nI (2 * i)))] 456 []) : J x kq nq S [(0, .ref b), (1, .ref (ad 0)), (2, .ref ga), (3, .ref ma), (4, .int (nI (i + 1))), (5, .int (nI (2 * i))), (8, .int (nI bx)), (9, .int (nI bY)), (10, .int (nI bw)), (11, .int (nI bh)), (12, .int 1), (13, .int (nI pn)), (14, .int 1)] 279 [] := by
  obtain ⟨J1, hJ1⟩ : ∃ J1 : Nat, J1 ≤ bY + bh ∧ J1 ≤ 64 ∧ (J1 = bY + bh ∨ J1 = 64) := by
    by_cases h : bY + bh ≤ 64
    · exact ⟨bY + bh, by omega⟩
    · exact ⟨64, by omega⟩
  obtain ⟨I1, hI1⟩ : ∃ I1 : Nat, I1 ≤ bx + bw ∧ I1 ≤ 64 ∧ (I1 = bx + bw ∨ I1 = 64) := by
    by_cases h : bx + bw ≤ 64
    · exact ⟨bx + bw, by omega⟩
    · exact ⟨64, by omega⟩
  refine j_iload C dL_law_279 7 rfl ?_
  refine j_istore (lv' := [(15, .int (nI bY)), (0, .ref b), (1, .ref (ad 0)), (2, .ref ga), (3, .ref ma), (4, .int (nI (i + 1))), (5, .int (nI (2 * i))), (8, .int (nI bx)), (9, .int (nI bY)), (10, .int (nI bw)), (11, .int (nI bh)), (12, .int 1), (13, .int (nI pn)), (14, .int 1)]) C dL_law_281 (by rw [hn9]; decide) rfl ?_
  have loop_2 : ∀ (m9 j : Nat), j + m9 = J1 → (bY ≤ j) → J x (kq) (nq) (rI S ma (mpF D 1 pn true bx bY bw bh j bx)) [(15, .int (nI j)), (0, .ref b), (1, .ref (ad 0)), (2, .ref ga), (3, .ref ma), (4, .int (nI (i + 1))), (5, .int (nI (2 * i))), (8, .int (nI bx)), (9, .int (nI bY)), (10, .int (nI bw)), (11, .int (nI bh)), (12, .int 1), (13, .int (nI pn)), (14, .int 1)] 283 [] := by
    intro m9
    induction m9 with
    | zero =>
      intro j  hi_3 hj0
      refine j_iload C dL_law_283 0 rfl ?_
      refine j_iload C dL_law_285 8 rfl ?_
      refine j_iload C dL_law_287 10 rfl ?_
      refine j_iadd (v := nI (bY + bh)) C dL_law_289 (nI_add bY bh) ?_
      refine j_ic_ge (tgt := 456) C dL_law_290 (by decide) (fun c_290 => ?_) (fun c_290 => ?_)
      · skip
        refine J.sub [1, 2, 3, 4, 5, 6] (lv' := [(0, .ref b), (1, .ref (ad 0)), (2, .ref ga), (3, .ref ma), (4, .int (nI (i + 1))), (5, .int (nI (2 * i)))]) (by rfl) ?_
        exact K (mpF D 1 pn true bx bY bw bh j bx) (mp_end hMP 1 pn true (by omega))
      · skip
        refine j_iload C dL_law_293 0 rfl ?_
        refine j_bipush (v := 64) C dL_law_295 (by decide) ?_
        refine j_ic_ge (tgt := 456) C dL_law_297 (by decide) (fun c_297 => ?_) (fun c_297 => absurd (nI_le (a := 64) (by have h9 : ¬ bY + bh ≤ j := fun q => c_290 (nI_le q (by omega)); omega) (by omega)) c_297)
        show J _ _ _ _ _ 456 _
        refine J.sub [1, 2, 3, 4, 5, 6] (lv' := [(0, .ref b), (1, .ref (ad 0)), (2, .ref ga), (3, .ref ma), (4, .int (nI (i + 1))), (5, .int (nI (2 * i)))]) (by rfl) ?_
        exact K (mpF D 1 pn true bx bY bw bh j bx) (mp_end hMP 1 pn true (by omega))
    | succ m9 ih_1 =>
      intro j  hi_3 hj0
      refine j_iload C dL_law_283 0 rfl ?_
      refine j_iload C dL_law_285 8 rfl ?_
      refine j_iload C dL_law_287 10 rfl ?_
      refine j_iadd (v := nI (bY + bh)) C dL_law_289 (nI_add bY bh) ?_
      refine j_ic_ge (tgt := 456) C dL_law_290 (by decide) (fun c_290 => absurd c_290 (nI_ge (by omega) (by omega))) (fun c_290 => ?_)
      refine j_iload C dL_law_293 0 rfl ?_
      refine j_bipush (v := 64) C dL_law_295 (by decide) ?_
      refine j_ic_ge (tgt := 456) C dL_law_297 (by decide) (fun c_297 => absurd c_297 (nI_ge (b := 64) (by omega) (by decide))) (fun c_297 => ?_)
      refine j_iload C dL_law_300 7 rfl ?_
      show J _ _ _ _ _ 302 _
      refine j_istore (lv' := [(16, .int (nI bx)), (15, .int (nI j)), (0, .ref b), (1, .ref (ad 0)), (2, .ref ga), (3, .ref ma), (4, .int (nI (i + 1))), (5, .int (nI (2 * i))), (8, .int (nI bx)), (9, .int (nI bY)), (10, .int (nI bw)), (11, .int (nI bh)), (12, .int 1), (13, .int (nI pn)), (14, .int 1)]) C dL_law_302 (by rw [hn9]; decide) rfl ?_
      have loop_5 : ∀ (m9 ii : Nat), ii + m9 = I1 → (bx ≤ ii) → J x (kq) (nq) (rI (rI S ma (mpF D 1 pn true bx bY bw bh j bx)) ma (mpF D 1 pn true bx bY bw bh j ii)) [(16, .int (nI ii)), (15, .int (nI j)), (0, .ref b), (1, .ref (ad 0)), (2, .ref ga), (3, .ref ma), (4, .int (nI (i + 1))), (5, .int (nI (2 * i))), (8, .int (nI bx)), (9, .int (nI bY)), (10, .int (nI bw)), (11, .int (nI bh)), (12, .int 1), (13, .int (nI pn)), (14, .int 1)] 304 [] := by
        intro m9
        induction m9 with
        | zero =>
          intro ii  hi_6 hi0
          refine j_iload C dL_law_304 0 rfl ?_
          refine j_iload C dL_law_306 8 rfl ?_
          refine j_iload C dL_law_308 10 rfl ?_
          refine j_iadd (v := nI (bx + bw)) C dL_law_310 (nI_add bx bw) ?_
          refine j_ic_ge (tgt := 450) C dL_law_311 (by decide) (fun c_311 => ?_) (fun c_311 => ?_)
          · skip
            refine j_iinc (q := 1) (v := nI (j + 1)) (lv' := [(15, .int (nI (j + 1))), (16, .int (nI ii)), (0, .ref b), (1, .ref (ad 0)), (2, .ref ga), (3, .ref ma), (4, .int (nI (i + 1))), (5, .int (nI (2 * i))), (8, .int (nI bx)), (9, .int (nI bY)), (10, .int (nI bw)), (11, .int (nI bh)), (12, .int 1), (13, .int (nI pn)), (14, .int 1)]) C dL_law_450 rfl (nI_add j 1) (by rw [hn9]; decide) rfl ?_
            refine j_goto (tgt := 283) C dL_law_453 (by decide) ?_
            refine J.sub [0, 2, 3, 4, 5, 6, 7, 8, 9, 10, 11, 12, 13, 14] (lv' := [(15, .int (nI (j + 1))), (0, .ref b), (1, .ref (ad 0)), (2, .ref ga), (3, .ref ma), (4, .int (nI (i + 1))), (5, .int (nI (2 * i))), (8, .int (nI bx)), (9, .int (nI bY)), (10, .int (nI bw)), (11, .int (nI bh)), (12, .int 1), (13, .int (nI pn)), (14, .int 1)]) (by rfl) ?_
            refine J.eq (S' := (rI S ma (mpF D 1 pn true bx bY bw bh (j + 1) bx))) (pg_nest (mp_row D _ _ _ (by omega))) rfl rfl ?_
            exact J.eq rfl rfl rfl (ih_1 (j + 1)  (by omega) (by omega))
          · skip
            refine j_iload C dL_law_314 0 rfl ?_
            refine j_bipush (v := 64) C dL_law_316 (by decide) ?_
            show J _ _ _ _ _ 318 _
            refine j_ic_ge (tgt := 450) C dL_law_318 (by decide) (fun c_318 => ?_) (fun c_318 => absurd (nI_le (a := 64) (by have h9 : ¬ bx + bw ≤ ii := fun q => c_311 (nI_le q (by omega)); omega) (by omega)) c_318)
            refine j_iinc (q := 1) (v := nI (j + 1)) (lv' := [(15, .int (nI (j + 1))), (16, .int (nI ii)), (0, .ref b), (1, .ref (ad 0)), (2, .ref ga), (3, .ref ma), (4, .int (nI (i + 1))), (5, .int (nI (2 * i))), (8, .int (nI bx)), (9, .int (nI bY)), (10, .int (nI bw)), (11, .int (nI bh)), (12, .int 1), (13, .int (nI pn)), (14, .int 1)]) C dL_law_450 rfl (nI_add j 1) (by rw [hn9]; decide) rfl ?_
            refine j_goto (tgt := 283) C dL_law_453 (by decide) ?_
            refine J.sub [0, 2, 3, 4, 5, 6, 7, 8, 9, 10, 11, 12, 13, 14] (lv' := [(15, .int (nI (j + 1))), (0, .ref b), (1, .ref (ad 0)), (2, .ref ga), (3, .ref ma), (4, .int (nI (i + 1))), (5, .int (nI (2 * i))), (8, .int (nI bx)), (9, .int (nI bY)), (10, .int (nI bw)), (11, .int (nI bh)), (12, .int 1), (13, .int (nI pn)), (14, .int 1)]) (by rfl) ?_
            refine J.eq (S' := (rI S ma (mpF D 1 pn true bx bY bw bh (j + 1) bx))) (pg_nest (mp_row D _ _ _ (by omega))) rfl rfl ?_
            exact J.eq rfl rfl rfl (ih_1 (j + 1)  (by omega) (by omega))
        | succ m9 ih_4 =>
          intro ii  hi_6 hi0
          refine j_iload C dL_law_304 0 rfl ?_
          refine j_iload C dL_law_306 8 rfl ?_
          refine j_iload C dL_law_308 10 rfl ?_
          refine j_iadd (v := nI (bx + bw)) C dL_law_310 (nI_add bx bw) ?_
          refine j_ic_ge (tgt := 450) C dL_law_311 (by decide) (fun c_311 => absurd c_311 (nI_ge (by omega) (by omega))) (fun c_311 => ?_)
          refine j_iload C dL_law_314 0 rfl ?_
          show J _ _ _ _ _ 316 _
          refine j_bipush (v := 64) C dL_law_316 (by decide) ?_
          refine j_ic_ge (tgt := 450) C dL_law_318 (by decide) (fun c_318 => absurd c_318 (nI_ge (b := 64) (by omega) (by decide))) (fun c_318 => ?_)
          refine j_iload C dL_law_321 0 rfl ?_
          refine j_iconst (v := 3) C dL_law_323 (by decide) ?_
          refine j_iand (v := nI (ii % 4)) C dL_law_324 (pk_andN (by omega) 2 (by decide)) ?_
          refine j_istore (lv' := [(17, .int (nI (ii % 4))), (16, .int (nI ii)), (15, .int (nI j)), (0, .ref b), (1, .ref (ad 0)), (2, .ref ga), (3, .ref ma), (4, .int (nI (i + 1))), (5, .int (nI (2 * i))), (8, .int (nI bx)), (9, .int (nI bY)), (10, .int (nI bw)), (11, .int (nI bh)), (12, .int 1), (13, .int (nI pn)), (14, .int 1)]) C dL_law_325 (by rw [hn9]; decide) rfl ?_
          refine j_iload C dL_law_327 2 rfl ?_
          refine j_iconst (v := 3) C dL_law_329 (by decide) ?_
          show J _ _ _ _ _ 330 _
          refine j_iand (v := nI (j % 4)) C dL_law_330 (pk_andN (by omega) 2 (by decide)) ?_
          refine j_istore (lv' := [(18, .int (nI (j % 4))), (17, .int (nI (ii % 4))), (16, .int (nI ii)), (15, .int (nI j)), (0, .ref b), (1, .ref (ad 0)), (2, .ref ga), (3, .ref ma), (4, .int (nI (i + 1))), (5, .int (nI (2 * i))), (8, .int (nI bx)), (9, .int (nI bY)), (10, .int (nI bw)), (11, .int (nI bh)), (12, .int 1), (13, .int (nI pn)), (14, .int 1)]) C dL_law_331 (by rw [hn9]; decide) rfl ?_
          refine j_iload C dL_law_333 1 rfl ?_
          refine j_iload C dL_law_335 0 rfl ?_
          refine j_ixor (v := (nI (ii % 4) ^^^ nI (j % 4))) C dL_law_337 rfl ?_
          refine j_iconst (v := 1) C dL_law_338 (by decide) ?_
          refine j_iand C dL_law_339 rfl ?_
          refine j_bipush (v := 8) C dL_law_340 (by decide) ?_
          show J _ _ _ _ _ 342 _
          refine j_imul C dL_law_342 rfl ?_
          refine j_iload C dL_law_343 0 rfl ?_
          refine j_iconst (v := 1) C dL_law_345 (by decide) ?_
          refine j_iand (v := nI ((j % 4) % 2)) C dL_law_346 (pk_andN (by omega) 1 (by decide)) ?_
          refine j_iconst (v := 4) C dL_law_347 (by decide) ?_
          refine j_imul (v := nI (((j % 4) % 2) * 4)) C dL_law_348 (pk_mul ((j % 4) % 2) 4) ?_
          refine j_iadd C dL_law_349 rfl ?_
          refine j_iload C dL_law_350 1 rfl ?_
          show J _ _ _ _ _ 352 _
          refine j_iload C dL_law_352 0 rfl ?_
          refine j_ixor (v := (nI (ii % 4) ^^^ nI (j % 4))) C dL_law_354 rfl ?_
          refine j_iconst (v := 1) C dL_law_355 (by decide) ?_
          refine j_ishr C dL_law_356 rfl ?_
          refine j_iconst (v := 1) C dL_law_357 (by decide) ?_
          refine j_iand C dL_law_358 rfl ?_
          refine j_iconst (v := 2) C dL_law_359 (by decide) ?_
          refine j_imul C dL_law_360 rfl ?_
          show J _ _ _ _ _ 361 _
          refine j_iadd C dL_law_361 rfl ?_
          refine j_iload C dL_law_362 0 rfl ?_
          refine j_iconst (v := 1) C dL_law_364 (by decide) ?_
          refine j_ishr (v := nI ((j % 4) / 2)) C dL_law_365 (pk_shrN (by omega) _ 1 (by decide)) ?_
          refine j_iconst (v := 1) C dL_law_366 (by decide) ?_
          refine j_iand (v := nI (((j % 4) / 2) % 2)) C dL_law_367 (pk_andN (by omega) 1 (by decide)) ?_
          refine j_iadd C dL_law_368 rfl ?_
          refine J.eq (st' := .int (nI (shN (4 * (j % 4) + ii % 4))) :: []) rfl rfl (congrArg (fun z9 => Value.int z9 :: []) (tt_ok _ (Nat.mod_lt _ (by decide)) _ (Nat.mod_lt _ (by decide)))) ?_
          refine j_istore (lv' := [(19, .int (nI (shN (4 * (j % 4) + ii % 4)))), (18, .int (nI (j % 4))), (17, .int (nI (ii % 4))), (16, .int (nI ii)), (15, .int (nI j)), (0, .ref b), (1, .ref (ad 0)), (2, .ref ga), (3, .ref ma), (4, .int (nI (i + 1))), (5, .int (nI (2 * i))), (8, .int (nI bx)), (9, .int (nI bY)), (10, .int (nI bw)), (11, .int (nI bh)), (12, .int 1), (13, .int (nI pn)), (14, .int 1)]) C dL_law_369 (by rw [hn9]; decide) rfl ?_
          show J _ _ _ _ _ 371 _
          refine j_iload C dL_law_371 15 rfl ?_
          refine j_if_eq (tgt := 395) C dL_law_373 (by decide) (fun c9 => absurd c9 (by decide)) (fun c9 => ?_)
          refine j_iload C dL_law_376 15 rfl ?_
          refine j_iconst (v := 2) C dL_law_378 (by decide) ?_
          refine j_ic_ne (tgt := 399) C dL_law_379 (by decide) (fun c9 => ?_) (fun c9 => absurd c9 (by decide))
          refine j_iconst (v := 0) C dL_law_399 (by decide) ?_
          refine j_istore (lv' := [(20, .int 0), (19, .int (nI (shN (4 * (j % 4) + ii % 4)))), (18, .int (nI (j % 4))), (17, .int (nI (ii % 4))), (16, .int (nI ii)), (15, .int (nI j)), (0, .ref b), (1, .ref (ad 0)), (2, .ref ga), (3, .ref ma), (4, .int (nI (i + 1))), (5, .int (nI (2 * i))), (8, .int (nI bx)), (9, .int (nI bY)), (10, .int (nI bw)), (11, .int (nI bh)), (12, .int 1), (13, .int (nI pn)), (14, .int 1)]) C dL_law_400 (by rw [hn9]; decide) rfl ?_
          refine j_iload C dL_law_402 0 rfl ?_
          show J _ _ _ _ _ 404 _
          refine j_if_eq (tgt := 421) C dL_law_404 (by decide) (fun c9 => ?_) (fun c9 => absurd (by decide) c9)
          refine j_iload C dL_law_421 16 rfl ?_
          refine j_iconst (v := 1) C dL_law_423 (by decide) ?_
          refine j_ic_eq (tgt := 433) C dL_law_424 (by decide) (fun c9 => ?_) (fun c9 => absurd (by decide) c9)
          refine j_aload_n C dL_law_433 rfl 9 rfl ?_
          refine j_bipush (v := 64) C dL_law_434 (by decide) ?_
          refine j_iload C dL_law_436 5 rfl ?_
          refine j_imul (v := nI (64 * j)) C dL_law_438 (pk_mul 64 j) ?_
          show J _ _ _ _ _ 439 _
          refine j_iload C dL_law_439 4 rfl ?_
          refine j_iadd (v := nI ((64 * j) + ii)) C dL_law_441 (nI_add (64 * j) ii) ?_
          refine j_iconst (v := 0) C dL_law_442 (by decide) ?_
          refine j_iast (j := ((64 * j) + ii)) C dL_law_443 m_ma k_ma (inr_of (n := 4096) l_ma (vp_in_nI (by omega) (by omega))) (nI_clamp (by omega)) ?_
          refine j_iinc (q := 4) (v := nI (ii + 1)) (lv' := [(16, .int (nI (ii + 1))), (20, .int 0), (19, .int (nI (shN (4 * (j % 4) + ii % 4)))), (18, .int (nI (j % 4))), (17, .int (nI (ii % 4))), (15, .int (nI j)), (0, .ref b), (1, .ref (ad 0)), (2, .ref ga), (3, .ref ma), (4, .int (nI (i + 1))), (5, .int (nI (2 * i))), (8, .int (nI bx)), (9, .int (nI bY)), (10, .int (nI bw)), (11, .int (nI bh)), (12, .int 1), (13, .int (nI pn)), (14, .int 1)]) C dL_law_444 rfl (nI_add ii 1) (by rw [hn9]; decide) rfl ?_
          refine j_goto (tgt := 304) C dL_law_447 (by decide) ?_
          refine J.sub [0, 5, 6, 7, 8, 9, 10, 11, 12, 13, 14, 15, 16, 17, 18] (lv' := [(16, .int (nI (ii + 1))), (15, .int (nI j)), (0, .ref b), (1, .ref (ad 0)), (2, .ref ga), (3, .ref ma), (4, .int (nI (i + 1))), (5, .int (nI (2 * i))), (8, .int (nI bx)), (9, .int (nI bY)), (10, .int (nI bw)), (11, .int (nI bh)), (12, .int 1), (13, .int (nI pn)), (14, .int 1)]) (by rfl) ?_
          refine J.eq (S' := (rI (rI S ma (mpF D 1 pn true bx bY bw bh j bx)) ma (mpF D 1 pn true bx bY bw bh j (ii + 1)))) (rI_step (fun q9 => by rw [← mp_s D 1 pn true (bx := bx) (bY := bY) (bw := bw) (bh := bh) (j := j) (i := ii) (by omega) (by omega) (by omega) (by omega) (by omega) q9]; rw [show (if inkK 1 pn ii j = true then (1 : Int32) else if (true || decide (1 = 1)) = true then 0 else D q9) = 0 from (by rw [(show inkK 1 pn ii j = false from rfl)]; rfl)])) rfl rfl ?_
          exact J.eq rfl rfl rfl (ih_4 (ii + 1)  (by omega) (by omega))
      refine J.eq (S' := (rI (rI S ma (mpF D 1 pn true bx bY bw bh j bx)) ma (mpF D 1 pn true bx bY bw bh j bx))) (rI_id (fun q9 => rd_rIs.symm)) rfl rfl ?_
      refine J.sub [0, 1, 2, 3, 4, 5, 6, 7, 8, 9, 10, 11, 12, 13, 14] (lv' := [(16, .int (nI bx)), (15, .int (nI j)), (0, .ref b), (1, .ref (ad 0)), (2, .ref ga), (3, .ref ma), (4, .int (nI (i + 1))), (5, .int (nI (2 * i))), (8, .int (nI bx)), (9, .int (nI bY)), (10, .int (nI bw)), (11, .int (nI bh)), (12, .int 1), (13, .int (nI pn)), (14, .int 1)]) (by rfl) ?_
      exact J.eq rfl rfl rfl (loop_5 (I1 - bx) bx  (by omega) (Nat.le_refl _))
  refine J.eq (S' := (rI S ma (mpF D 1 pn true bx bY bw bh bY bx))) (rI_id (fun q9 => (mp_0 D _ _ _ _ _ _ _ q9).trans (congrFun hD.symm q9))) rfl rfl ?_
  refine J.sub [0, 1, 2, 3, 4, 5, 6, 7, 8, 9, 10, 11, 12, 13] (lv' := [(15, .int (nI bY)), (0, .ref b), (1, .ref (ad 0)), (2, .ref ga), (3, .ref ma), (4, .int (nI (i + 1))), (5, .int (nI (2 * i))), (8, .int (nI bx)), (9, .int (nI bY)), (10, .int (nI bw)), (11, .int (nI bh)), (12, .int 1), (13, .int (nI pn)), (14, .int 1)]) (by rfl) ?_
  exact J.eq rfl rfl rfl (loop_2 (J1 - bY) bY  (by omega) (Nat.le_refl _))

set_option maxRecDepth 100000 in
set_option maxHeartbeats 4000000 in
theorem lt_c20 {x : JX} {b L : Nat} {xs : Nat → Int32} (C : CB x RL cL_law) (M : LM x b) (X : LX x b L xs) (hn9 : x_n x = 21) (ad : Nat → Nat) (ga ma kq nq : Nat) (hkq : kq ≤ 600000) (hnq : nq ≤ 7302250) (hga : ∀ i, i < 37 → ga ≠ ad i) (hma : ∀ i, i < 37 → ma ≠ ad i) (hgm : ga ≠ ma) (B : Nat → Nat) (hb : ∀ j, B j < 128) (S : Hp) (i bx bY bw bh pn : Nat) (D : Nat → Int32) (P : Nat → Nat → Bool) (h1 : bx < 64) (h2 : bY < 64) (h3 : 1 ≤ bw ∧ bw ≤ 32) (h4 : 1 ≤ bh ∧ bh ≤ 32) (h5 : 1 ≤ pn ∧ pn ≤ 64) (m_ma : ma ∈ hL S) (k_ma : Kd S ma 14) (l_ma : Ln S ma 4096) (hD : aI S ma = D) (hMP : MP D P) (K : ∀ f : Nat → Int32, MP f (boxP 2 pn false bx bY bw bh P) → J x kq nq (rI S ma f) [(0, .ref b), (1, .ref (ad 0)), (2, .ref ga), (3, .ref ma), (4, .int (nI (i + 1))), (5, .int (nI (2 * i)))] 456 []) : J x kq nq S [(0, .ref b), (1, .ref (ad 0)), (2, .ref ga), (3, .ref ma), (4, .int (nI (i + 1))), (5, .int (nI (2 * i))), (8, .int (nI bx)), (9, .int (nI bY)), (10, .int (nI bw)), (11, .int (nI bh)), (12, .int 2), (13, .int (nI pn)), (14, .int 0)] 279 [] := by
  obtain ⟨J1, hJ1⟩ : ∃ J1 : Nat, J1 ≤ bY + bh ∧ J1 ≤ 64 ∧ (J1 = bY + bh ∨ J1 = 64) := by
    by_cases h : bY + bh ≤ 64
    · exact ⟨bY + bh, by omega⟩
    · exact ⟨64, by omega⟩
  obtain ⟨I1, hI1⟩ : ∃ I1 : Nat, I1 ≤ bx + bw ∧ I1 ≤ 64 ∧ (I1 = bx + bw ∨ I1 = 64) := by
    by_cases h : bx + bw ≤ 64
    · exact ⟨bx + bw, by omega⟩
    · exact ⟨64, by omega⟩
  refine j_iload C dL_law_279 7 rfl ?_
  refine j_istore (lv' := [(15, .int (nI bY)), (0, .ref b), (1, .ref (ad 0)), (2, .ref ga), (3, .ref ma), (4, .int (nI (i + 1))), (5, .int (nI (2 * i))), (8, .int (nI bx)), (9, .int (nI bY)), (10, .int (nI bw)), (11, .int (nI bh)), (12, .int 2), (13, .int (nI pn)), (14, .int 0)]) C dL_law_281 (by rw [hn9]; decide) rfl ?_
  have loop_2 : ∀ (m9 j : Nat), j + m9 = J1 → (bY ≤ j) → J x (kq) (nq) (rI S ma (mpF D 2 pn false bx bY bw bh j bx)) [(15, .int (nI j)), (0, .ref b), (1, .ref (ad 0)), (2, .ref ga), (3, .ref ma), (4, .int (nI (i + 1))), (5, .int (nI (2 * i))), (8, .int (nI bx)), (9, .int (nI bY)), (10, .int (nI bw)), (11, .int (nI bh)), (12, .int 2), (13, .int (nI pn)), (14, .int 0)] 283 [] := by
    intro m9
    induction m9 with
    | zero =>
      intro j  hi_3 hj0
      refine j_iload C dL_law_283 0 rfl ?_
      refine j_iload C dL_law_285 8 rfl ?_
      refine j_iload C dL_law_287 10 rfl ?_
      refine j_iadd (v := nI (bY + bh)) C dL_law_289 (nI_add bY bh) ?_
      refine j_ic_ge (tgt := 456) C dL_law_290 (by decide) (fun c_290 => ?_) (fun c_290 => ?_)
      · skip
        refine J.sub [1, 2, 3, 4, 5, 6] (lv' := [(0, .ref b), (1, .ref (ad 0)), (2, .ref ga), (3, .ref ma), (4, .int (nI (i + 1))), (5, .int (nI (2 * i)))]) (by rfl) ?_
        exact K (mpF D 2 pn false bx bY bw bh j bx) (mp_end hMP 2 pn false (by omega))
      · skip
        refine j_iload C dL_law_293 0 rfl ?_
        refine j_bipush (v := 64) C dL_law_295 (by decide) ?_
        refine j_ic_ge (tgt := 456) C dL_law_297 (by decide) (fun c_297 => ?_) (fun c_297 => absurd (nI_le (a := 64) (by have h9 : ¬ bY + bh ≤ j := fun q => c_290 (nI_le q (by omega)); omega) (by omega)) c_297)
        show J _ _ _ _ _ 456 _
        refine J.sub [1, 2, 3, 4, 5, 6] (lv' := [(0, .ref b), (1, .ref (ad 0)), (2, .ref ga), (3, .ref ma), (4, .int (nI (i + 1))), (5, .int (nI (2 * i)))]) (by rfl) ?_
        exact K (mpF D 2 pn false bx bY bw bh j bx) (mp_end hMP 2 pn false (by omega))
    | succ m9 ih_1 =>
      intro j  hi_3 hj0
      refine j_iload C dL_law_283 0 rfl ?_
      refine j_iload C dL_law_285 8 rfl ?_
      refine j_iload C dL_law_287 10 rfl ?_
      refine j_iadd (v := nI (bY + bh)) C dL_law_289 (nI_add bY bh) ?_
      refine j_ic_ge (tgt := 456) C dL_law_290 (by decide) (fun c_290 => absurd c_290 (nI_ge (by omega) (by omega))) (fun c_290 => ?_)
      refine j_iload C dL_law_293 0 rfl ?_
      refine j_bipush (v := 64) C dL_law_295 (by decide) ?_
      refine j_ic_ge (tgt := 456) C dL_law_297 (by decide) (fun c_297 => absurd c_297 (nI_ge (b := 64) (by omega) (by decide))) (fun c_297 => ?_)
      refine j_iload C dL_law_300 7 rfl ?_
      show J _ _ _ _ _ 302 _
      refine j_istore (lv' := [(16, .int (nI bx)), (15, .int (nI j)), (0, .ref b), (1, .ref (ad 0)), (2, .ref ga), (3, .ref ma), (4, .int (nI (i + 1))), (5, .int (nI (2 * i))), (8, .int (nI bx)), (9, .int (nI bY)), (10, .int (nI bw)), (11, .int (nI bh)), (12, .int 2), (13, .int (nI pn)), (14, .int 0)]) C dL_law_302 (by rw [hn9]; decide) rfl ?_
      have loop_5 : ∀ (m9 ii : Nat), ii + m9 = I1 → (bx ≤ ii) → J x (kq) (nq) (rI (rI S ma (mpF D 2 pn false bx bY bw bh j bx)) ma (mpF D 2 pn false bx bY bw bh j ii)) [(16, .int (nI ii)), (15, .int (nI j)), (0, .ref b), (1, .ref (ad 0)), (2, .ref ga), (3, .ref ma), (4, .int (nI (i + 1))), (5, .int (nI (2 * i))), (8, .int (nI bx)), (9, .int (nI bY)), (10, .int (nI bw)), (11, .int (nI bh)), (12, .int 2), (13, .int (nI pn)), (14, .int 0)] 304 [] := by
        intro m9
        induction m9 with
        | zero =>
          intro ii  hi_6 hi0
          refine j_iload C dL_law_304 0 rfl ?_
          refine j_iload C dL_law_306 8 rfl ?_
          refine j_iload C dL_law_308 10 rfl ?_
          refine j_iadd (v := nI (bx + bw)) C dL_law_310 (nI_add bx bw) ?_
          refine j_ic_ge (tgt := 450) C dL_law_311 (by decide) (fun c_311 => ?_) (fun c_311 => ?_)
          · skip
            refine j_iinc (q := 1) (v := nI (j + 1)) (lv' := [(15, .int (nI (j + 1))), (16, .int (nI ii)), (0, .ref b), (1, .ref (ad 0)), (2, .ref ga), (3, .ref ma), (4, .int (nI (i + 1))), (5, .int (nI (2 * i))), (8, .int (nI bx)), (9, .int (nI bY)), (10, .int (nI bw)), (11, .int (nI bh)), (12, .int 2), (13, .int (nI pn)), (14, .int 0)]) C dL_law_450 rfl (nI_add j 1) (by rw [hn9]; decide) rfl ?_
            refine j_goto (tgt := 283) C dL_law_453 (by decide) ?_
            refine J.sub [0, 2, 3, 4, 5, 6, 7, 8, 9, 10, 11, 12, 13, 14] (lv' := [(15, .int (nI (j + 1))), (0, .ref b), (1, .ref (ad 0)), (2, .ref ga), (3, .ref ma), (4, .int (nI (i + 1))), (5, .int (nI (2 * i))), (8, .int (nI bx)), (9, .int (nI bY)), (10, .int (nI bw)), (11, .int (nI bh)), (12, .int 2), (13, .int (nI pn)), (14, .int 0)]) (by rfl) ?_
            refine J.eq (S' := (rI S ma (mpF D 2 pn false bx bY bw bh (j + 1) bx))) (pg_nest (mp_row D _ _ _ (by omega))) rfl rfl ?_
            exact J.eq rfl rfl rfl (ih_1 (j + 1)  (by omega) (by omega))
          · skip
            refine j_iload C dL_law_314 0 rfl ?_
            refine j_bipush (v := 64) C dL_law_316 (by decide) ?_
            show J _ _ _ _ _ 318 _
            refine j_ic_ge (tgt := 450) C dL_law_318 (by decide) (fun c_318 => ?_) (fun c_318 => absurd (nI_le (a := 64) (by have h9 : ¬ bx + bw ≤ ii := fun q => c_311 (nI_le q (by omega)); omega) (by omega)) c_318)
            refine j_iinc (q := 1) (v := nI (j + 1)) (lv' := [(15, .int (nI (j + 1))), (16, .int (nI ii)), (0, .ref b), (1, .ref (ad 0)), (2, .ref ga), (3, .ref ma), (4, .int (nI (i + 1))), (5, .int (nI (2 * i))), (8, .int (nI bx)), (9, .int (nI bY)), (10, .int (nI bw)), (11, .int (nI bh)), (12, .int 2), (13, .int (nI pn)), (14, .int 0)]) C dL_law_450 rfl (nI_add j 1) (by rw [hn9]; decide) rfl ?_
            refine j_goto (tgt := 283) C dL_law_453 (by decide) ?_
            refine J.sub [0, 2, 3, 4, 5, 6, 7, 8, 9, 10, 11, 12, 13, 14] (lv' := [(15, .int (nI (j + 1))), (0, .ref b), (1, .ref (ad 0)), (2, .ref ga), (3, .ref ma), (4, .int (nI (i + 1))), (5, .int (nI (2 * i))), (8, .int (nI bx)), (9, .int (nI bY)), (10, .int (nI bw)), (11, .int (nI bh)), (12, .int 2), (13, .int (nI pn)), (14, .int 0)]) (by rfl) ?_
            refine J.eq (S' := (rI S ma (mpF D 2 pn false bx bY bw bh (j + 1) bx))) (pg_nest (mp_row D _ _ _ (by omega))) rfl rfl ?_
            exact J.eq rfl rfl rfl (ih_1 (j + 1)  (by omega) (by omega))
        | succ m9 ih_4 =>
          intro ii  hi_6 hi0
          refine j_iload C dL_law_304 0 rfl ?_
          refine j_iload C dL_law_306 8 rfl ?_
          refine j_iload C dL_law_308 10 rfl ?_
          refine j_iadd (v := nI (bx + bw)) C dL_law_310 (nI_add bx bw) ?_
          refine j_ic_ge (tgt := 450) C dL_law_311 (by decide) (fun c_311 => absurd c_311 (nI_ge (by omega) (by omega))) (fun c_311 => ?_)
          refine j_iload C dL_law_314 0 rfl ?_
          show J _ _ _ _ _ 316 _
          refine j_bipush (v := 64) C dL_law_316 (by decide) ?_
          refine j_ic_ge (tgt := 450) C dL_law_318 (by decide) (fun c_318 => absurd c_318 (nI_ge (b := 64) (by omega) (by decide))) (fun c_318 => ?_)
          refine j_iload C dL_law_321 0 rfl ?_
          refine j_iconst (v := 3) C dL_law_323 (by decide) ?_
          refine j_iand (v := nI (ii % 4)) C dL_law_324 (pk_andN (by omega) 2 (by decide)) ?_
          refine j_istore (lv' := [(17, .int (nI (ii % 4))), (16, .int (nI ii)), (15, .int (nI j)), (0, .ref b), (1, .ref (ad 0)), (2, .ref ga), (3, .ref ma), (4, .int (nI (i + 1))), (5, .int (nI (2 * i))), (8, .int (nI bx)), (9, .int (nI bY)), (10, .int (nI bw)), (11, .int (nI bh)), (12, .int 2), (13, .int (nI pn)), (14, .int 0)]) C dL_law_325 (by rw [hn9]; decide) rfl ?_
          refine j_iload C dL_law_327 2 rfl ?_
          refine j_iconst (v := 3) C dL_law_329 (by decide) ?_
          show J _ _ _ _ _ 330 _
          refine j_iand (v := nI (j % 4)) C dL_law_330 (pk_andN (by omega) 2 (by decide)) ?_
          refine j_istore (lv' := [(18, .int (nI (j % 4))), (17, .int (nI (ii % 4))), (16, .int (nI ii)), (15, .int (nI j)), (0, .ref b), (1, .ref (ad 0)), (2, .ref ga), (3, .ref ma), (4, .int (nI (i + 1))), (5, .int (nI (2 * i))), (8, .int (nI bx)), (9, .int (nI bY)), (10, .int (nI bw)), (11, .int (nI bh)), (12, .int 2), (13, .int (nI pn)), (14, .int 0)]) C dL_law_331 (by rw [hn9]; decide) rfl ?_
          refine j_iload C dL_law_333 1 rfl ?_
          refine j_iload C dL_law_335 0 rfl ?_
          refine j_ixor (v := (nI (ii % 4) ^^^ nI (j % 4))) C dL_law_337 rfl ?_
          refine j_iconst (v := 1) C dL_law_338 (by decide) ?_
          refine j_iand C dL_law_339 rfl ?_
          refine j_bipush (v := 8) C dL_law_340 (by decide) ?_
          show J _ _ _ _ _ 342 _
          refine j_imul C dL_law_342 rfl ?_
          refine j_iload C dL_law_343 0 rfl ?_
          refine j_iconst (v := 1) C dL_law_345 (by decide) ?_
          refine j_iand (v := nI ((j % 4) % 2)) C dL_law_346 (pk_andN (by omega) 1 (by decide)) ?_
          refine j_iconst (v := 4) C dL_law_347 (by decide) ?_
          refine j_imul (v := nI (((j % 4) % 2) * 4)) C dL_law_348 (pk_mul ((j % 4) % 2) 4) ?_
          refine j_iadd C dL_law_349 rfl ?_
          refine j_iload C dL_law_350 1 rfl ?_
          show J _ _ _ _ _ 352 _
          refine j_iload C dL_law_352 0 rfl ?_
          refine j_ixor (v := (nI (ii % 4) ^^^ nI (j % 4))) C dL_law_354 rfl ?_
          refine j_iconst (v := 1) C dL_law_355 (by decide) ?_
          refine j_ishr C dL_law_356 rfl ?_
          refine j_iconst (v := 1) C dL_law_357 (by decide) ?_
          refine j_iand C dL_law_358 rfl ?_
          refine j_iconst (v := 2) C dL_law_359 (by decide) ?_
          refine j_imul C dL_law_360 rfl ?_
          show J _ _ _ _ _ 361 _
          refine j_iadd C dL_law_361 rfl ?_
          refine j_iload C dL_law_362 0 rfl ?_
          refine j_iconst (v := 1) C dL_law_364 (by decide) ?_
          refine j_ishr (v := nI ((j % 4) / 2)) C dL_law_365 (pk_shrN (by omega) _ 1 (by decide)) ?_
          refine j_iconst (v := 1) C dL_law_366 (by decide) ?_
          refine j_iand (v := nI (((j % 4) / 2) % 2)) C dL_law_367 (pk_andN (by omega) 1 (by decide)) ?_
          refine j_iadd C dL_law_368 rfl ?_
          refine J.eq (st' := .int (nI (shN (4 * (j % 4) + ii % 4))) :: []) rfl rfl (congrArg (fun z9 => Value.int z9 :: []) (tt_ok _ (Nat.mod_lt _ (by decide)) _ (Nat.mod_lt _ (by decide)))) ?_
          refine j_istore (lv' := [(19, .int (nI (shN (4 * (j % 4) + ii % 4)))), (18, .int (nI (j % 4))), (17, .int (nI (ii % 4))), (16, .int (nI ii)), (15, .int (nI j)), (0, .ref b), (1, .ref (ad 0)), (2, .ref ga), (3, .ref ma), (4, .int (nI (i + 1))), (5, .int (nI (2 * i))), (8, .int (nI bx)), (9, .int (nI bY)), (10, .int (nI bw)), (11, .int (nI bh)), (12, .int 2), (13, .int (nI pn)), (14, .int 0)]) C dL_law_369 (by rw [hn9]; decide) rfl ?_
          show J _ _ _ _ _ 371 _
          refine j_iload C dL_law_371 15 rfl ?_
          refine j_if_eq (tgt := 395) C dL_law_373 (by decide) (fun c9 => absurd c9 (by decide)) (fun c9 => ?_)
          refine j_iload C dL_law_376 15 rfl ?_
          refine j_iconst (v := 2) C dL_law_378 (by decide) ?_
          refine j_ic_ne (tgt := 399) C dL_law_379 (by decide) (fun c9 => absurd c9 (by decide)) (fun c9 => ?_)
          refine j_bipush (v := 100) C dL_law_382 (by decide) ?_
          refine j_iload C dL_law_384 0 rfl ?_
          refine j_imul (v := nI (100 * (shN (4 * (j % 4) + ii % 4)))) C dL_law_386 (pk_mul 100 (shN (4 * (j % 4) + ii % 4))) ?_
          show J _ _ _ _ _ 387 _
          refine j_bipush (v := 16) C dL_law_387 (by decide) ?_
          refine j_iload C dL_law_389 16 rfl ?_
          refine j_imul (v := nI (16 * pn)) C dL_law_391 (pk_mul 16 pn) ?_
          refine j_ic_ge (tgt := 399) C dL_law_392 (by decide) (fun c_392 => ?_) (fun c_392 => ?_)
          · skip
            refine j_iconst (v := 0) C dL_law_399 (by decide) ?_
            refine j_istore (lv' := [(20, .int 0), (19, .int (nI (shN (4 * (j % 4) + ii % 4)))), (18, .int (nI (j % 4))), (17, .int (nI (ii % 4))), (16, .int (nI ii)), (15, .int (nI j)), (0, .ref b), (1, .ref (ad 0)), (2, .ref ga), (3, .ref ma), (4, .int (nI (i + 1))), (5, .int (nI (2 * i))), (8, .int (nI bx)), (9, .int (nI bY)), (10, .int (nI bw)), (11, .int (nI bh)), (12, .int 2), (13, .int (nI pn)), (14, .int 0)]) C dL_law_400 (by rw [hn9]; decide) rfl ?_
            refine j_iload C dL_law_402 0 rfl ?_
            refine j_if_eq (tgt := 421) C dL_law_404 (by decide) (fun c9 => ?_) (fun c9 => absurd (by decide) c9)
            refine j_iload C dL_law_421 16 rfl ?_
            show J _ _ _ _ _ 423 _
            refine j_iconst (v := 1) C dL_law_423 (by decide) ?_
            refine j_ic_eq (tgt := 433) C dL_law_424 (by decide) (fun c9 => absurd c9 (by decide)) (fun c9 => ?_)
            refine j_iload C dL_law_427 18 rfl ?_
            refine j_iconst (v := 1) C dL_law_429 (by decide) ?_
            refine j_ic_ne (tgt := 444) C dL_law_430 (by decide) (fun c9 => ?_) (fun c9 => absurd c9 (by decide))
            refine j_iinc (q := 4) (v := nI (ii + 1)) (lv' := [(16, .int (nI (ii + 1))), (20, .int 0), (19, .int (nI (shN (4 * (j % 4) + ii % 4)))), (18, .int (nI (j % 4))), (17, .int (nI (ii % 4))), (15, .int (nI j)), (0, .ref b), (1, .ref (ad 0)), (2, .ref ga), (3, .ref ma), (4, .int (nI (i + 1))), (5, .int (nI (2 * i))), (8, .int (nI bx)), (9, .int (nI bY)), (10, .int (nI bw)), (11, .int (nI bh)), (12, .int 2), (13, .int (nI pn)), (14, .int 0)]) C dL_law_444 rfl (nI_add ii 1) (by rw [hn9]; decide) rfl ?_
            refine j_goto (tgt := 304) C dL_law_447 (by decide) ?_
            refine J.sub [0, 5, 6, 7, 8, 9, 10, 11, 12, 13, 14, 15, 16, 17, 18] (lv' := [(16, .int (nI (ii + 1))), (15, .int (nI j)), (0, .ref b), (1, .ref (ad 0)), (2, .ref ga), (3, .ref ma), (4, .int (nI (i + 1))), (5, .int (nI (2 * i))), (8, .int (nI bx)), (9, .int (nI bY)), (10, .int (nI bw)), (11, .int (nI bh)), (12, .int 2), (13, .int (nI pn)), (14, .int 0)]) (by rfl) ?_
            refine J.eq (S' := (rI (rI S ma (mpF D 2 pn false bx bY bw bh j bx)) ma (mpF D 2 pn false bx bY bw bh j (ii + 1)))) (congrArg (rI _ ma) (mp_k D 2 pn false (by omega) (by omega) (by omega) (by omega) (by omega) (by rw [(ink_2n (by omega) c_392)]; rfl))) rfl rfl ?_
            exact J.eq rfl rfl rfl (ih_4 (ii + 1)  (by omega) (by omega))
          · skip
            refine j_iconst (v := 1) C dL_law_395 (by decide) ?_
            show J _ _ _ _ _ 396 _
            refine j_goto (tgt := 400) C dL_law_396 (by decide) ?_
            refine j_istore (lv' := [(20, .int 1), (19, .int (nI (shN (4 * (j % 4) + ii % 4)))), (18, .int (nI (j % 4))), (17, .int (nI (ii % 4))), (16, .int (nI ii)), (15, .int (nI j)), (0, .ref b), (1, .ref (ad 0)), (2, .ref ga), (3, .ref ma), (4, .int (nI (i + 1))), (5, .int (nI (2 * i))), (8, .int (nI bx)), (9, .int (nI bY)), (10, .int (nI bw)), (11, .int (nI bh)), (12, .int 2), (13, .int (nI pn)), (14, .int 0)]) C dL_law_400 (by rw [hn9]; decide) rfl ?_
            refine j_iload C dL_law_402 0 rfl ?_
            refine j_if_eq (tgt := 421) C dL_law_404 (by decide) (fun c9 => absurd c9 (by decide)) (fun c9 => ?_)
            refine j_aload_n C dL_law_407 rfl 9 rfl ?_
            refine j_bipush (v := 64) C dL_law_408 (by decide) ?_
            refine j_iload C dL_law_410 5 rfl ?_
            refine j_imul (v := nI (64 * j)) C dL_law_412 (pk_mul 64 j) ?_
            show J _ _ _ _ _ 413 _
            refine j_iload C dL_law_413 4 rfl ?_
            refine j_iadd (v := nI ((64 * j) + ii)) C dL_law_415 (nI_add (64 * j) ii) ?_
            refine j_iconst (v := 1) C dL_law_416 (by decide) ?_
            refine j_iast (j := ((64 * j) + ii)) C dL_law_417 m_ma k_ma (inr_of (n := 4096) l_ma (vp_in_nI (by omega) (by omega))) (nI_clamp (by omega)) ?_
            refine j_goto (tgt := 444) C dL_law_418 (by decide) ?_
            refine j_iinc (q := 4) (v := nI (ii + 1)) (lv' := [(16, .int (nI (ii + 1))), (20, .int 1), (19, .int (nI (shN (4 * (j % 4) + ii % 4)))), (18, .int (nI (j % 4))), (17, .int (nI (ii % 4))), (15, .int (nI j)), (0, .ref b), (1, .ref (ad 0)), (2, .ref ga), (3, .ref ma), (4, .int (nI (i + 1))), (5, .int (nI (2 * i))), (8, .int (nI bx)), (9, .int (nI bY)), (10, .int (nI bw)), (11, .int (nI bh)), (12, .int 2), (13, .int (nI pn)), (14, .int 0)]) C dL_law_444 rfl (nI_add ii 1) (by rw [hn9]; decide) rfl ?_
            refine j_goto (tgt := 304) C dL_law_447 (by decide) ?_
            refine J.sub [0, 5, 6, 7, 8, 9, 10, 11, 12, 13, 14, 15, 16, 17, 18] (lv' := [(16, .int (nI (ii + 1))), (15, .int (nI j)), (0, .ref b), (1, .ref (ad 0)), (2, .ref ga), (3, .ref ma), (4, .int (nI (i + 1))), (5, .int (nI (2 * i))), (8, .int (nI bx)), (9, .int (nI bY)), (10, .int (nI bw)), (11, .int (nI bh)), (12, .int 2), (13, .int (nI pn)), (14, .int 0)]) (by rfl) ?_
            refine J.eq (S' := (rI (rI S ma (mpF D 2 pn false bx bY bw bh j bx)) ma (mpF D 2 pn false bx bY bw bh j (ii + 1)))) (rI_step (fun q9 => by rw [← mp_s D 2 pn false (bx := bx) (bY := bY) (bw := bw) (bh := bh) (j := j) (i := ii) (by omega) (by omega) (by omega) (by omega) (by omega) q9]; rw [show (if inkK 2 pn ii j = true then (1 : Int32) else if (false || decide (2 = 1)) = true then 0 else D q9) = 1 from (by rw [(ink_2y (by omega) c_392)]; rfl)])) rfl rfl ?_
            exact J.eq rfl rfl rfl (ih_4 (ii + 1)  (by omega) (by omega))
      refine J.eq (S' := (rI (rI S ma (mpF D 2 pn false bx bY bw bh j bx)) ma (mpF D 2 pn false bx bY bw bh j bx))) (rI_id (fun q9 => rd_rIs.symm)) rfl rfl ?_
      refine J.sub [0, 1, 2, 3, 4, 5, 6, 7, 8, 9, 10, 11, 12, 13, 14] (lv' := [(16, .int (nI bx)), (15, .int (nI j)), (0, .ref b), (1, .ref (ad 0)), (2, .ref ga), (3, .ref ma), (4, .int (nI (i + 1))), (5, .int (nI (2 * i))), (8, .int (nI bx)), (9, .int (nI bY)), (10, .int (nI bw)), (11, .int (nI bh)), (12, .int 2), (13, .int (nI pn)), (14, .int 0)]) (by rfl) ?_
      exact J.eq rfl rfl rfl (loop_5 (I1 - bx) bx  (by omega) (Nat.le_refl _))
  refine J.eq (S' := (rI S ma (mpF D 2 pn false bx bY bw bh bY bx))) (rI_id (fun q9 => (mp_0 D _ _ _ _ _ _ _ q9).trans (congrFun hD.symm q9))) rfl rfl ?_
  refine J.sub [0, 1, 2, 3, 4, 5, 6, 7, 8, 9, 10, 11, 12, 13] (lv' := [(15, .int (nI bY)), (0, .ref b), (1, .ref (ad 0)), (2, .ref ga), (3, .ref ma), (4, .int (nI (i + 1))), (5, .int (nI (2 * i))), (8, .int (nI bx)), (9, .int (nI bY)), (10, .int (nI bw)), (11, .int (nI bh)), (12, .int 2), (13, .int (nI pn)), (14, .int 0)]) (by rfl) ?_
  exact J.eq rfl rfl rfl (loop_2 (J1 - bY) bY  (by omega) (Nat.le_refl _))

set_option maxRecDepth 100000 in
set_option maxHeartbeats 4000000 in
theorem lt_c21 {x : JX} {b L : Nat} {xs : Nat → Int32} (C : CB x RL cL_law) (M : LM x b) (X : LX x b L xs) (hn9 : x_n x = 21) (ad : Nat → Nat) (ga ma kq nq : Nat) (hkq : kq ≤ 600000) (hnq : nq ≤ 7302250) (hga : ∀ i, i < 37 → ga ≠ ad i) (hma : ∀ i, i < 37 → ma ≠ ad i) (hgm : ga ≠ ma) (B : Nat → Nat) (hb : ∀ j, B j < 128) (S : Hp) (i bx bY bw bh pn : Nat) (D : Nat → Int32) (P : Nat → Nat → Bool) (h1 : bx < 64) (h2 : bY < 64) (h3 : 1 ≤ bw ∧ bw ≤ 32) (h4 : 1 ≤ bh ∧ bh ≤ 32) (h5 : 1 ≤ pn ∧ pn ≤ 64) (m_ma : ma ∈ hL S) (k_ma : Kd S ma 14) (l_ma : Ln S ma 4096) (hD : aI S ma = D) (hMP : MP D P) (K : ∀ f : Nat → Int32, MP f (boxP 2 pn true bx bY bw bh P) → J x kq nq (rI S ma f) [(0, .ref b), (1, .ref (ad 0)), (2, .ref ga), (3, .ref ma), (4, .int (nI (i + 1))), (5, .int (nI (2 * i)))] 456 []) : J x kq nq S [(0, .ref b), (1, .ref (ad 0)), (2, .ref ga), (3, .ref ma), (4, .int (nI (i + 1))), (5, .int (nI (2 * i))), (8, .int (nI bx)), (9, .int (nI bY)), (10, .int (nI bw)), (11, .int (nI bh)), (12, .int 2), (13, .int (nI pn)), (14, .int 1)] 279 [] := by
  obtain ⟨J1, hJ1⟩ : ∃ J1 : Nat, J1 ≤ bY + bh ∧ J1 ≤ 64 ∧ (J1 = bY + bh ∨ J1 = 64) := by
    by_cases h : bY + bh ≤ 64
    · exact ⟨bY + bh, by omega⟩
    · exact ⟨64, by omega⟩
  obtain ⟨I1, hI1⟩ : ∃ I1 : Nat, I1 ≤ bx + bw ∧ I1 ≤ 64 ∧ (I1 = bx + bw ∨ I1 = 64) := by
    by_cases h : bx + bw ≤ 64
    · exact ⟨bx + bw, by omega⟩
    · exact ⟨64, by omega⟩
  refine j_iload C dL_law_279 7 rfl ?_
  refine j_istore (lv' := [(15, .int (nI bY)), (0, .ref b), (1, .ref (ad 0)), (2, .ref ga), (3, .ref ma), (4, .int (nI (i + 1))), (5, .int (nI (2 * i))), (8, .int (nI bx)), (9, .int (nI bY)), (10, .int (nI bw)), (11, .int (nI bh)), (12, .int 2), (13, .int (nI pn)), (14, .int 1)]) C dL_law_281 (by rw [hn9]; decide) rfl ?_
  have loop_2 : ∀ (m9 j : Nat), j + m9 = J1 → (bY ≤ j) → J x (kq) (nq) (rI S ma (mpF D 2 pn true bx bY bw bh j bx)) [(15, .int (nI j)), (0, .ref b), (1, .ref (ad 0)), (2, .ref ga), (3, .ref ma), (4, .int (nI (i + 1))), (5, .int (nI (2 * i))), (8, .int (nI bx)), (9, .int (nI bY)), (10, .int (nI bw)), (11, .int (nI bh)), (12, .int 2), (13, .int (nI pn)), (14, .int 1)] 283 [] := by
    intro m9
    induction m9 with
    | zero =>
      intro j  hi_3 hj0
      refine j_iload C dL_law_283 0 rfl ?_
      refine j_iload C dL_law_285 8 rfl ?_
      refine j_iload C dL_law_287 10 rfl ?_
      refine j_iadd (v := nI (bY + bh)) C dL_law_289 (nI_add bY bh) ?_
      refine j_ic_ge (tgt := 456) C dL_law_290 (by decide) (fun c_290 => ?_) (fun c_290 => ?_)
      · skip
        refine J.sub [1, 2, 3, 4, 5, 6] (lv' := [(0, .ref b), (1, .ref (ad 0)), (2, .ref ga), (3, .ref ma), (4, .int (nI (i + 1))), (5, .int (nI (2 * i)))]) (by rfl) ?_
        exact K (mpF D 2 pn true bx bY bw bh j bx) (mp_end hMP 2 pn true (by omega))
      · skip
        refine j_iload C dL_law_293 0 rfl ?_
        refine j_bipush (v := 64) C dL_law_295 (by decide) ?_
        refine j_ic_ge (tgt := 456) C dL_law_297 (by decide) (fun c_297 => ?_) (fun c_297 => absurd (nI_le (a := 64) (by have h9 : ¬ bY + bh ≤ j := fun q => c_290 (nI_le q (by omega)); omega) (by omega)) c_297)
        show J _ _ _ _ _ 456 _
        refine J.sub [1, 2, 3, 4, 5, 6] (lv' := [(0, .ref b), (1, .ref (ad 0)), (2, .ref ga), (3, .ref ma), (4, .int (nI (i + 1))), (5, .int (nI (2 * i)))]) (by rfl) ?_
        exact K (mpF D 2 pn true bx bY bw bh j bx) (mp_end hMP 2 pn true (by omega))
    | succ m9 ih_1 =>
      intro j  hi_3 hj0
      refine j_iload C dL_law_283 0 rfl ?_
      refine j_iload C dL_law_285 8 rfl ?_
      refine j_iload C dL_law_287 10 rfl ?_
      refine j_iadd (v := nI (bY + bh)) C dL_law_289 (nI_add bY bh) ?_
      refine j_ic_ge (tgt := 456) C dL_law_290 (by decide) (fun c_290 => absurd c_290 (nI_ge (by omega) (by omega))) (fun c_290 => ?_)
      refine j_iload C dL_law_293 0 rfl ?_
      refine j_bipush (v := 64) C dL_law_295 (by decide) ?_
      refine j_ic_ge (tgt := 456) C dL_law_297 (by decide) (fun c_297 => absurd c_297 (nI_ge (b := 64) (by omega) (by decide))) (fun c_297 => ?_)
      refine j_iload C dL_law_300 7 rfl ?_
      show J _ _ _ _ _ 302 _
      refine j_istore (lv' := [(16, .int (nI bx)), (15, .int (nI j)), (0, .ref b), (1, .ref (ad 0)), (2, .ref ga), (3, .ref ma), (4, .int (nI (i + 1))), (5, .int (nI (2 * i))), (8, .int (nI bx)), (9, .int (nI bY)), (10, .int (nI bw)), (11, .int (nI bh)), (12, .int 2), (13, .int (nI pn)), (14, .int 1)]) C dL_law_302 (by rw [hn9]; decide) rfl ?_
      have loop_5 : ∀ (m9 ii : Nat), ii + m9 = I1 → (bx ≤ ii) → J x (kq) (nq) (rI (rI S ma (mpF D 2 pn true bx bY bw bh j bx)) ma (mpF D 2 pn true bx bY bw bh j ii)) [(16, .int (nI ii)), (15, .int (nI j)), (0, .ref b), (1, .ref (ad 0)), (2, .ref ga), (3, .ref ma), (4, .int (nI (i + 1))), (5, .int (nI (2 * i))), (8, .int (nI bx)), (9, .int (nI bY)), (10, .int (nI bw)), (11, .int (nI bh)), (12, .int 2), (13, .int (nI pn)), (14, .int 1)] 304 [] := by
        intro m9
        induction m9 with
        | zero =>
          intro ii  hi_6 hi0
          refine j_iload C dL_law_304 0 rfl ?_
          refine j_iload C dL_law_306 8 rfl ?_
          refine j_iload C dL_law_308 10 rfl ?_
          refine j_iadd (v := nI (bx + bw)) C dL_law_310 (nI_add bx bw) ?_
          refine j_ic_ge (tgt := 450) C dL_law_311 (by decide) (fun c_311 => ?_) (fun c_311 => ?_)
          · skip
            refine j_iinc (q := 1) (v := nI (j + 1)) (lv' := [(15, .int (nI (j + 1))), (16, .int (nI ii)), (0, .ref b), (1, .ref (ad 0)), (2, .ref ga), (3, .ref ma), (4, .int (nI (i + 1))), (5, .int (nI (2 * i))), (8, .int (nI bx)), (9, .int (nI bY)), (10, .int (nI bw)), (11, .int (nI bh)), (12, .int 2), (13, .int (nI pn)), (14, .int 1)]) C dL_law_450 rfl (nI_add j 1) (by rw [hn9]; decide) rfl ?_
            refine j_goto (tgt := 283) C dL_law_453 (by decide) ?_
            refine J.sub [0, 2, 3, 4, 5, 6, 7, 8, 9, 10, 11, 12, 13, 14] (lv' := [(15, .int (nI (j + 1))), (0, .ref b), (1, .ref (ad 0)), (2, .ref ga), (3, .ref ma), (4, .int (nI (i + 1))), (5, .int (nI (2 * i))), (8, .int (nI bx)), (9, .int (nI bY)), (10, .int (nI bw)), (11, .int (nI bh)), (12, .int 2), (13, .int (nI pn)), (14, .int 1)]) (by rfl) ?_
            refine J.eq (S' := (rI S ma (mpF D 2 pn true bx bY bw bh (j + 1) bx))) (pg_nest (mp_row D _ _ _ (by omega))) rfl rfl ?_
            exact J.eq rfl rfl rfl (ih_1 (j + 1)  (by omega) (by omega))
          · skip
            refine j_iload C dL_law_314 0 rfl ?_
            refine j_bipush (v := 64) C dL_law_316 (by decide) ?_
            show J _ _ _ _ _ 318 _
            refine j_ic_ge (tgt := 450) C dL_law_318 (by decide) (fun c_318 => ?_) (fun c_318 => absurd (nI_le (a := 64) (by have h9 : ¬ bx + bw ≤ ii := fun q => c_311 (nI_le q (by omega)); omega) (by omega)) c_318)
            refine j_iinc (q := 1) (v := nI (j + 1)) (lv' := [(15, .int (nI (j + 1))), (16, .int (nI ii)), (0, .ref b), (1, .ref (ad 0)), (2, .ref ga), (3, .ref ma), (4, .int (nI (i + 1))), (5, .int (nI (2 * i))), (8, .int (nI bx)), (9, .int (nI bY)), (10, .int (nI bw)), (11, .int (nI bh)), (12, .int 2), (13, .int (nI pn)), (14, .int 1)]) C dL_law_450 rfl (nI_add j 1) (by rw [hn9]; decide) rfl ?_
            refine j_goto (tgt := 283) C dL_law_453 (by decide) ?_
            refine J.sub [0, 2, 3, 4, 5, 6, 7, 8, 9, 10, 11, 12, 13, 14] (lv' := [(15, .int (nI (j + 1))), (0, .ref b), (1, .ref (ad 0)), (2, .ref ga), (3, .ref ma), (4, .int (nI (i + 1))), (5, .int (nI (2 * i))), (8, .int (nI bx)), (9, .int (nI bY)), (10, .int (nI bw)), (11, .int (nI bh)), (12, .int 2), (13, .int (nI pn)), (14, .int 1)]) (by rfl) ?_
            refine J.eq (S' := (rI S ma (mpF D 2 pn true bx bY bw bh (j + 1) bx))) (pg_nest (mp_row D _ _ _ (by omega))) rfl rfl ?_
            exact J.eq rfl rfl rfl (ih_1 (j + 1)  (by omega) (by omega))
        | succ m9 ih_4 =>
          intro ii  hi_6 hi0
          refine j_iload C dL_law_304 0 rfl ?_
          refine j_iload C dL_law_306 8 rfl ?_
          refine j_iload C dL_law_308 10 rfl ?_
          refine j_iadd (v := nI (bx + bw)) C dL_law_310 (nI_add bx bw) ?_
          refine j_ic_ge (tgt := 450) C dL_law_311 (by decide) (fun c_311 => absurd c_311 (nI_ge (by omega) (by omega))) (fun c_311 => ?_)
          refine j_iload C dL_law_314 0 rfl ?_
          show J _ _ _ _ _ 316 _
          refine j_bipush (v := 64) C dL_law_316 (by decide) ?_
          refine j_ic_ge (tgt := 450) C dL_law_318 (by decide) (fun c_318 => absurd c_318 (nI_ge (b := 64) (by omega) (by decide))) (fun c_318 => ?_)
          refine j_iload C dL_law_321 0 rfl ?_
          refine j_iconst (v := 3) C dL_law_323 (by decide) ?_
          refine j_iand (v := nI (ii % 4)) C dL_law_324 (pk_andN (by omega) 2 (by decide)) ?_
          refine j_istore (lv' := [(17, .int (nI (ii % 4))), (16, .int (nI ii)), (15, .int (nI j)), (0, .ref b), (1, .ref (ad 0)), (2, .ref ga), (3, .ref ma), (4, .int (nI (i + 1))), (5, .int (nI (2 * i))), (8, .int (nI bx)), (9, .int (nI bY)), (10, .int (nI bw)), (11, .int (nI bh)), (12, .int 2), (13, .int (nI pn)), (14, .int 1)]) C dL_law_325 (by rw [hn9]; decide) rfl ?_
          refine j_iload C dL_law_327 2 rfl ?_
          refine j_iconst (v := 3) C dL_law_329 (by decide) ?_
          show J _ _ _ _ _ 330 _
          refine j_iand (v := nI (j % 4)) C dL_law_330 (pk_andN (by omega) 2 (by decide)) ?_
          refine j_istore (lv' := [(18, .int (nI (j % 4))), (17, .int (nI (ii % 4))), (16, .int (nI ii)), (15, .int (nI j)), (0, .ref b), (1, .ref (ad 0)), (2, .ref ga), (3, .ref ma), (4, .int (nI (i + 1))), (5, .int (nI (2 * i))), (8, .int (nI bx)), (9, .int (nI bY)), (10, .int (nI bw)), (11, .int (nI bh)), (12, .int 2), (13, .int (nI pn)), (14, .int 1)]) C dL_law_331 (by rw [hn9]; decide) rfl ?_
          refine j_iload C dL_law_333 1 rfl ?_
          refine j_iload C dL_law_335 0 rfl ?_
          refine j_ixor (v := (nI (ii % 4) ^^^ nI (j % 4))) C dL_law_337 rfl ?_
          refine j_iconst (v := 1) C dL_law_338 (by decide) ?_
          refine j_iand C dL_law_339 rfl ?_
          refine j_bipush (v := 8) C dL_law_340 (by decide) ?_
          show J _ _ _ _ _ 342 _
          refine j_imul C dL_law_342 rfl ?_
          refine j_iload C dL_law_343 0 rfl ?_
          refine j_iconst (v := 1) C dL_law_345 (by decide) ?_
          refine j_iand (v := nI ((j % 4) % 2)) C dL_law_346 (pk_andN (by omega) 1 (by decide)) ?_
          refine j_iconst (v := 4) C dL_law_347 (by decide) ?_
          refine j_imul (v := nI (((j % 4) % 2) * 4)) C dL_law_348 (pk_mul ((j % 4) % 2) 4) ?_
          refine j_iadd C dL_law_349 rfl ?_
          refine j_iload C dL_law_350 1 rfl ?_
          show J _ _ _ _ _ 352 _
          refine j_iload C dL_law_352 0 rfl ?_
          refine j_ixor (v := (nI (ii % 4) ^^^ nI (j % 4))) C dL_law_354 rfl ?_
          refine j_iconst (v := 1) C dL_law_355 (by decide) ?_
          refine j_ishr C dL_law_356 rfl ?_
          refine j_iconst (v := 1) C dL_law_357 (by decide) ?_
          refine j_iand C dL_law_358 rfl ?_
          refine j_iconst (v := 2) C dL_law_359 (by decide) ?_
          refine j_imul C dL_law_360 rfl ?_
          show J _ _ _ _ _ 361 _
          refine j_iadd C dL_law_361 rfl ?_
          refine j_iload C dL_law_362 0 rfl ?_
          refine j_iconst (v := 1) C dL_law_364 (by decide) ?_
          refine j_ishr (v := nI ((j % 4) / 2)) C dL_law_365 (pk_shrN (by omega) _ 1 (by decide)) ?_
          refine j_iconst (v := 1) C dL_law_366 (by decide) ?_
          refine j_iand (v := nI (((j % 4) / 2) % 2)) C dL_law_367 (pk_andN (by omega) 1 (by decide)) ?_
          refine j_iadd C dL_law_368 rfl ?_
          refine J.eq (st' := .int (nI (shN (4 * (j % 4) + ii % 4))) :: []) rfl rfl (congrArg (fun z9 => Value.int z9 :: []) (tt_ok _ (Nat.mod_lt _ (by decide)) _ (Nat.mod_lt _ (by decide)))) ?_
          refine j_istore (lv' := [(19, .int (nI (shN (4 * (j % 4) + ii % 4)))), (18, .int (nI (j % 4))), (17, .int (nI (ii % 4))), (16, .int (nI ii)), (15, .int (nI j)), (0, .ref b), (1, .ref (ad 0)), (2, .ref ga), (3, .ref ma), (4, .int (nI (i + 1))), (5, .int (nI (2 * i))), (8, .int (nI bx)), (9, .int (nI bY)), (10, .int (nI bw)), (11, .int (nI bh)), (12, .int 2), (13, .int (nI pn)), (14, .int 1)]) C dL_law_369 (by rw [hn9]; decide) rfl ?_
          show J _ _ _ _ _ 371 _
          refine j_iload C dL_law_371 15 rfl ?_
          refine j_if_eq (tgt := 395) C dL_law_373 (by decide) (fun c9 => absurd c9 (by decide)) (fun c9 => ?_)
          refine j_iload C dL_law_376 15 rfl ?_
          refine j_iconst (v := 2) C dL_law_378 (by decide) ?_
          refine j_ic_ne (tgt := 399) C dL_law_379 (by decide) (fun c9 => absurd c9 (by decide)) (fun c9 => ?_)
          refine j_bipush (v := 100) C dL_law_382 (by decide) ?_
          refine j_iload C dL_law_384 0 rfl ?_
          refine j_imul (v := nI (100 * (shN (4 * (j % 4) + ii % 4)))) C dL_law_386 (pk_mul 100 (shN (4 * (j % 4) + ii % 4))) ?_
          show J _ _ _ _ _ 387 _
          refine j_bipush (v := 16) C dL_law_387 (by decide) ?_
          refine j_iload C dL_law_389 16 rfl ?_
          refine j_imul (v := nI (16 * pn)) C dL_law_391 (pk_mul 16 pn) ?_
          refine j_ic_ge (tgt := 399) C dL_law_392 (by decide) (fun c_392 => ?_) (fun c_392 => ?_)
          · skip
            refine j_iconst (v := 0) C dL_law_399 (by decide) ?_
            refine j_istore (lv' := [(20, .int 0), (19, .int (nI (shN (4 * (j % 4) + ii % 4)))), (18, .int (nI (j % 4))), (17, .int (nI (ii % 4))), (16, .int (nI ii)), (15, .int (nI j)), (0, .ref b), (1, .ref (ad 0)), (2, .ref ga), (3, .ref ma), (4, .int (nI (i + 1))), (5, .int (nI (2 * i))), (8, .int (nI bx)), (9, .int (nI bY)), (10, .int (nI bw)), (11, .int (nI bh)), (12, .int 2), (13, .int (nI pn)), (14, .int 1)]) C dL_law_400 (by rw [hn9]; decide) rfl ?_
            refine j_iload C dL_law_402 0 rfl ?_
            refine j_if_eq (tgt := 421) C dL_law_404 (by decide) (fun c9 => ?_) (fun c9 => absurd (by decide) c9)
            refine j_iload C dL_law_421 16 rfl ?_
            show J _ _ _ _ _ 423 _
            refine j_iconst (v := 1) C dL_law_423 (by decide) ?_
            refine j_ic_eq (tgt := 433) C dL_law_424 (by decide) (fun c9 => absurd c9 (by decide)) (fun c9 => ?_)
            refine j_iload C dL_law_427 18 rfl ?_
            refine j_iconst (v := 1) C dL_law_429 (by decide) ?_
            refine j_ic_ne (tgt := 444) C dL_law_430 (by decide) (fun c9 => absurd c9 (by decide)) (fun c9 => ?_)
            refine j_aload_n C dL_law_433 rfl 9 rfl ?_
            refine j_bipush (v := 64) C dL_law_434 (by decide) ?_
            refine j_iload C dL_law_436 5 rfl ?_
            show J _ _ _ _ _ 438 _
            refine j_imul (v := nI (64 * j)) C dL_law_438 (pk_mul 64 j) ?_
            refine j_iload C dL_law_439 4 rfl ?_
            refine j_iadd (v := nI ((64 * j) + ii)) C dL_law_441 (nI_add (64 * j) ii) ?_
            refine j_iconst (v := 0) C dL_law_442 (by decide) ?_
            refine j_iast (j := ((64 * j) + ii)) C dL_law_443 m_ma k_ma (inr_of (n := 4096) l_ma (vp_in_nI (by omega) (by omega))) (nI_clamp (by omega)) ?_
            refine j_iinc (q := 4) (v := nI (ii + 1)) (lv' := [(16, .int (nI (ii + 1))), (20, .int 0), (19, .int (nI (shN (4 * (j % 4) + ii % 4)))), (18, .int (nI (j % 4))), (17, .int (nI (ii % 4))), (15, .int (nI j)), (0, .ref b), (1, .ref (ad 0)), (2, .ref ga), (3, .ref ma), (4, .int (nI (i + 1))), (5, .int (nI (2 * i))), (8, .int (nI bx)), (9, .int (nI bY)), (10, .int (nI bw)), (11, .int (nI bh)), (12, .int 2), (13, .int (nI pn)), (14, .int 1)]) C dL_law_444 rfl (nI_add ii 1) (by rw [hn9]; decide) rfl ?_
            refine j_goto (tgt := 304) C dL_law_447 (by decide) ?_
            refine J.sub [0, 5, 6, 7, 8, 9, 10, 11, 12, 13, 14, 15, 16, 17, 18] (lv' := [(16, .int (nI (ii + 1))), (15, .int (nI j)), (0, .ref b), (1, .ref (ad 0)), (2, .ref ga), (3, .ref ma), (4, .int (nI (i + 1))), (5, .int (nI (2 * i))), (8, .int (nI bx)), (9, .int (nI bY)), (10, .int (nI bw)), (11, .int (nI bh)), (12, .int 2), (13, .int (nI pn)), (14, .int 1)]) (by rfl) ?_
            refine J.eq (S' := (rI (rI S ma (mpF D 2 pn true bx bY bw bh j bx)) ma (mpF D 2 pn true bx bY bw bh j (ii + 1)))) (rI_step (fun q9 => by rw [← mp_s D 2 pn true (bx := bx) (bY := bY) (bw := bw) (bh := bh) (j := j) (i := ii) (by omega) (by omega) (by omega) (by omega) (by omega) q9]; rw [show (if inkK 2 pn ii j = true then (1 : Int32) else if (true || decide (2 = 1)) = true then 0 else D q9) = 0 from (by rw [(ink_2n (by omega) c_392)]; rfl)])) rfl rfl ?_
            exact J.eq rfl rfl rfl (ih_4 (ii + 1)  (by omega) (by omega))
          · skip
            refine j_iconst (v := 1) C dL_law_395 (by decide) ?_
            show J _ _ _ _ _ 396 _
            refine j_goto (tgt := 400) C dL_law_396 (by decide) ?_
            refine j_istore (lv' := [(20, .int 1), (19, .int (nI (shN (4 * (j % 4) + ii % 4)))), (18, .int (nI (j % 4))), (17, .int (nI (ii % 4))), (16, .int (nI ii)), (15, .int (nI j)), (0, .ref b), (1, .ref (ad 0)), (2, .ref ga), (3, .ref ma), (4, .int (nI (i + 1))), (5, .int (nI (2 * i))), (8, .int (nI bx)), (9, .int (nI bY)), (10, .int (nI bw)), (11, .int (nI bh)), (12, .int 2), (13, .int (nI pn)), (14, .int 1)]) C dL_law_400 (by rw [hn9]; decide) rfl ?_
            refine j_iload C dL_law_402 0 rfl ?_
            refine j_if_eq (tgt := 421) C dL_law_404 (by decide) (fun c9 => absurd c9 (by decide)) (fun c9 => ?_)
            refine j_aload_n C dL_law_407 rfl 9 rfl ?_
            refine j_bipush (v := 64) C dL_law_408 (by decide) ?_
            refine j_iload C dL_law_410 5 rfl ?_
            refine j_imul (v := nI (64 * j)) C dL_law_412 (pk_mul 64 j) ?_
            show J _ _ _ _ _ 413 _
            refine j_iload C dL_law_413 4 rfl ?_
            refine j_iadd (v := nI ((64 * j) + ii)) C dL_law_415 (nI_add (64 * j) ii) ?_
            refine j_iconst (v := 1) C dL_law_416 (by decide) ?_
            refine j_iast (j := ((64 * j) + ii)) C dL_law_417 m_ma k_ma (inr_of (n := 4096) l_ma (vp_in_nI (by omega) (by omega))) (nI_clamp (by omega)) ?_
            refine j_goto (tgt := 444) C dL_law_418 (by decide) ?_
            refine j_iinc (q := 4) (v := nI (ii + 1)) (lv' := [(16, .int (nI (ii + 1))), (20, .int 1), (19, .int (nI (shN (4 * (j % 4) + ii % 4)))), (18, .int (nI (j % 4))), (17, .int (nI (ii % 4))), (15, .int (nI j)), (0, .ref b), (1, .ref (ad 0)), (2, .ref ga), (3, .ref ma), (4, .int (nI (i + 1))), (5, .int (nI (2 * i))), (8, .int (nI bx)), (9, .int (nI bY)), (10, .int (nI bw)), (11, .int (nI bh)), (12, .int 2), (13, .int (nI pn)), (14, .int 1)]) C dL_law_444 rfl (nI_add ii 1) (by rw [hn9]; decide) rfl ?_
            refine j_goto (tgt := 304) C dL_law_447 (by decide) ?_
            refine J.sub [0, 5, 6, 7, 8, 9, 10, 11, 12, 13, 14, 15, 16, 17, 18] (lv' := [(16, .int (nI (ii + 1))), (15, .int (nI j)), (0, .ref b), (1, .ref (ad 0)), (2, .ref ga), (3, .ref ma), (4, .int (nI (i + 1))), (5, .int (nI (2 * i))), (8, .int (nI bx)), (9, .int (nI bY)), (10, .int (nI bw)), (11, .int (nI bh)), (12, .int 2), (13, .int (nI pn)), (14, .int 1)]) (by rfl) ?_
            refine J.eq (S' := (rI (rI S ma (mpF D 2 pn true bx bY bw bh j bx)) ma (mpF D 2 pn true bx bY bw bh j (ii + 1)))) (rI_step (fun q9 => by rw [← mp_s D 2 pn true (bx := bx) (bY := bY) (bw := bw) (bh := bh) (j := j) (i := ii) (by omega) (by omega) (by omega) (by omega) (by omega) q9]; rw [show (if inkK 2 pn ii j = true then (1 : Int32) else if (true || decide (2 = 1)) = true then 0 else D q9) = 1 from (by rw [(ink_2y (by omega) c_392)]; rfl)])) rfl rfl ?_
            exact J.eq rfl rfl rfl (ih_4 (ii + 1)  (by omega) (by omega))
      refine J.eq (S' := (rI (rI S ma (mpF D 2 pn true bx bY bw bh j bx)) ma (mpF D 2 pn true bx bY bw bh j bx))) (rI_id (fun q9 => rd_rIs.symm)) rfl rfl ?_
      refine J.sub [0, 1, 2, 3, 4, 5, 6, 7, 8, 9, 10, 11, 12, 13, 14] (lv' := [(16, .int (nI bx)), (15, .int (nI j)), (0, .ref b), (1, .ref (ad 0)), (2, .ref ga), (3, .ref ma), (4, .int (nI (i + 1))), (5, .int (nI (2 * i))), (8, .int (nI bx)), (9, .int (nI bY)), (10, .int (nI bw)), (11, .int (nI bh)), (12, .int 2), (13, .int (nI pn)), (14, .int 1)]) (by rfl) ?_
      exact J.eq rfl rfl rfl (loop_5 (I1 - bx) bx  (by omega) (Nat.le_refl _))
  refine J.eq (S' := (rI S ma (mpF D 2 pn true bx bY bw bh bY bx))) (rI_id (fun q9 => (mp_0 D _ _ _ _ _ _ _ q9).trans (congrFun hD.symm q9))) rfl rfl ?_
  refine J.sub [0, 1, 2, 3, 4, 5, 6, 7, 8, 9, 10, 11, 12, 13] (lv' := [(15, .int (nI bY)), (0, .ref b), (1, .ref (ad 0)), (2, .ref ga), (3, .ref ma), (4, .int (nI (i + 1))), (5, .int (nI (2 * i))), (8, .int (nI bx)), (9, .int (nI bY)), (10, .int (nI bw)), (11, .int (nI bh)), (12, .int 2), (13, .int (nI pn)), (14, .int 1)]) (by rfl) ?_
  exact J.eq rfl rfl rfl (loop_2 (J1 - bY) bY  (by omega) (Nat.le_refl _))

theorem lt_c {x : JX} {b L : Nat} {xs : Nat → Int32} (C : CB x RL cL_law) (M : LM x b) (X : LX x b L xs) (hn9 : x_n x = 21) (ad : Nat → Nat) (ga ma kq nq : Nat) (hkq : kq ≤ 600000) (hnq : nq ≤ 7302250) (hga : ∀ i, i < 37 → ga ≠ ad i) (hma : ∀ i, i < 37 → ma ≠ ad i) (hgm : ga ≠ ma) (B : Nat → Nat) (hb : ∀ j, B j < 128) (S : Hp) (i : Nat) (b9 : Bx) (hbx : okB b9) (T : Nat) (P : Nat → Nat → Bool) (h9 : LI ad ga ma B T P S) (K : ∀ S' : Hp, LI ad ga ma B T (boxO P b9) S' → J x kq nq S' [(0, .ref b), (1, .ref (ad 0)), (2, .ref ga), (3, .ref ma), (4, .int (nI (i + 1))), (5, .int (nI (2 * i)))] 456 []) : J x kq nq S [(0, .ref b), (1, .ref (ad 0)), (2, .ref ga), (3, .ref ma), (4, .int (nI (i + 1))), (5, .int (nI (2 * i))), (8, .int (nI b9.1)), (9, .int (nI b9.2.1)), (10, .int (nI b9.2.2.2.1)), (11, .int (nI b9.2.2.2.2.1)), (12, .int (nI b9.2.2.2.2.2.2)), (13, .int (nI b9.2.2.2.2.2.1)), (14, .int (cI b9.2.2.1))] 279 [] := by
  obtain ⟨bx, bY, po, bw, bh, pn, kd⟩ := b9
  obtain ⟨h1, h2, h3, h4, h5, h6⟩ := hbx
  have hm := h9.2.2.1
  have hMP := h9.2.2.2.2.2.2.2.2.1
  have K2 : ∀ f : Nat → Int32, MP f (boxP kd pn po bx bY bw bh P) → J x kq nq (rI S ma f) [(0, .ref b), (1, .ref (ad 0)), (2, .ref ga), (3, .ref ma), (4, .int (nI (i + 1))), (5, .int (nI (2 * i)))] 456 [] := fun f hf => K _ (li_rI h9 hma hgm hf)
  have h6' : kd < 3 := h6
  clear h6 K h9
  rcases (show kd = 0 ∨ kd = 1 ∨ kd = 2 by omega) with rfl | rfl | rfl <;> cases po
  · exact lt_c00 C M X hn9 ad ga ma kq nq hkq hnq hga hma hgm B hb S i bx bY bw bh pn _ P h1 h2 h3 h4 h5 hm.1 hm.2.1 hm.2.2 rfl hMP K2
  · exact lt_c01 C M X hn9 ad ga ma kq nq hkq hnq hga hma hgm B hb S i bx bY bw bh pn _ P h1 h2 h3 h4 h5 hm.1 hm.2.1 hm.2.2 rfl hMP K2
  · exact lt_c10 C M X hn9 ad ga ma kq nq hkq hnq hga hma hgm B hb S i bx bY bw bh pn _ P h1 h2 h3 h4 h5 hm.1 hm.2.1 hm.2.2 rfl hMP K2
  · exact lt_c11 C M X hn9 ad ga ma kq nq hkq hnq hga hma hgm B hb S i bx bY bw bh pn _ P h1 h2 h3 h4 h5 hm.1 hm.2.1 hm.2.2 rfl hMP K2
  · exact lt_c20 C M X hn9 ad ga ma kq nq hkq hnq hga hma hgm B hb S i bx bY bw bh pn _ P h1 h2 h3 h4 h5 hm.1 hm.2.1 hm.2.2 rfl hMP K2
  · exact lt_c21 C M X hn9 ad ga ma kq nq hkq hnq hga hma hgm B hb S i bx bY bw bh pn _ P h1 h2 h3 h4 h5 hm.1 hm.2.1 hm.2.2 rfl hMP K2
