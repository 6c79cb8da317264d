theorem Wd.nA {ad : Nat → Nat} {S : Hp} {q k n : Nat} (W : Wd ad S) (hq : q ∉ hL S) : Wd ad (nA S q k n) := W.fm (WI := fun _ _ => False) (WR := fun _ _ => False) (WA := fun _ => False) (Fm.refl.nA k n hq) (fun _ _ h => h) (fun _ _ h => h)
theorem wd_mem {ad : Nat → Nat} {S : Hp} (W : Wd ad S) {i : Nat} (hi : i < 37) : ad i ∈ hL S := by
  obtain ⟨k, hk⟩ : ∃ k, wkL[i]? = some k := ⟨_, List.getElem?_eq_getElem (show i < wkL.length from hi)⟩
  exact (W.1 i k hk).1

set_option maxRecDepth 100000 in
set_option maxHeartbeats 4000000 in
theorem law_go {x : JX} {b L : Nat} {xs : Nat → Int32} (C : CB x RL cL_law) (M : LM x b) (X : LX x b L xs) (hn9 : x_n x = 21) (ad : Nat → Nat) (kq nq : Nat) (hkq : kq + 2 ≤ 600000) (hnq : nq + 5000 ≤ 7302250) (hL9 : L ≤ 260) (S : Hp) (hW : Wd ad S) (h1 : hI S 1101 (ad 0) = 0) (h2 : hI S 1105 (ad 0) = 0) (h3 : hI S 209 (ad 15) = 0) (z_sa : ∀ j, aI S (ad 4) j = 0) (z_fss : ∀ j, aI S (ad 17) j = 0) (z_tss : ∀ j, aI S (ad 21) j = 0) (z_mss : ∀ j, aI S (ad 23) j = 0) : J x kq nq S [(0, .ref b)] 7 [.ref (ad 0)] := by
  refine j_astore_n (lv' := [(1, .ref (ad 0)), (0, .ref b)]) C dL_law_7 rfl (by rw [hn9]; decide) rfl ?_
  refine j_bipush (v := 7) C dL_law_8 (by decide) ?_
  refine j_newI (N := 7) C ka_int (by decide) (by decide) (Nat.le_of_ble_eq_true rfl) (M.cells (by omega)) (M.slots (by omega)) dL_law_10 (fun ga hg => ?_)
  refine j_astore_n (lv' := [(2, .ref ga), (1, .ref (ad 0)), (0, .ref b)]) C dL_law_12 rfl (by rw [hn9]; decide) rfl ?_
  refine j_sipush (v := 4096) C dL_law_13 (by decide) ?_
  refine j_newI (N := 4096) C ka_int (by decide) (by decide) (Nat.le_of_ble_eq_true rfl) (M.cells (by omega)) (M.slots (by omega)) dL_law_16 (fun ma hm => ?_)
  refine j_astore_n (lv' := [(3, .ref ma), (2, .ref ga), (1, .ref (ad 0)), (0, .ref b)]) C dL_law_18 rfl (by rw [hn9]; decide) rfl ?_
  refine j_iconst (v := 0) C dL_law_19 (by decide) ?_
  refine j_istore (lv' := [(4, .int 0), (3, .ref ma), (2, .ref ga), (1, .ref (ad 0)), (0, .ref b)]) C dL_law_20 (by rw [hn9]; decide) rfl ?_
  refine J.sub [4, 3, 2, 1, 0] (lv' := [(0, .ref b), (1, .ref (ad 0)), (2, .ref ga), (3, .ref ma), (4, .int 0)]) (by rfl) ?_
  have hga : ∀ i, i < 37 → ga ≠ ad i := fun i hi e => hg (e ▸ wd_mem hW hi)
  have hW1 : Wd ad (nA S ga 14 7) := hW.nA hg
  have hma : ∀ i, i < 37 → ma ≠ ad i := fun i hi e => hm (e ▸ wd_mem hW1 hi)
  have hmg : ga ∈ hL (nA S ga 14 7) := mem_new
  have hgm : ga ≠ ma := fun e => hm (e ▸ hmg)
  have hW2 : Wd ad (nA (nA S ga 14 7) ma 14 4096) := hW1.nA hm
  have h0 : LI ad ga ma (jobB (boxes xs L)) 0 (fun _ _ => false) (nA (nA S ga 14 7) ma 14 4096) := by
    refine ⟨hW2, ⟨mem_old hmg, kd_nA hm hmg kd_nA', ln_nA hm hmg ln_nA'⟩, ⟨mem_new, kd_nA', ln_nA'⟩, ?_, ?_, ?_, fun j hj => absurd hj (Nat.not_lt_zero j), gs_new ?_ ?_ rfl, fun y x _ _ => rd_nAI', (fun j9 => rd_nAI (k := 14) (n := 4096) hm (mem_old (wd_mem hW (i := 4) (by decide))) (rd_nAI (k := 14) (n := 7) hg (wd_mem hW (i := 4) (by decide)) (z_sa j9))), (fun j9 => rd_nAI (k := 14) (n := 4096) hm (mem_old (wd_mem hW (i := 17) (by decide))) (rd_nAI (k := 14) (n := 7) hg (wd_mem hW (i := 17) (by decide)) (z_fss j9))), (fun j9 => rd_nAI (k := 14) (n := 4096) hm (mem_old (wd_mem hW (i := 21) (by decide))) (rd_nAI (k := 14) (n := 7) hg (wd_mem hW (i := 21) (by decide)) (z_tss j9))), (fun j9 => rd_nAI (k := 14) (n := 4096) hm (mem_old (wd_mem hW (i := 23) (by decide))) (rd_nAI (k := 14) (n := 7) hg (wd_mem hW (i := 23) (by decide)) (z_mss j9)))⟩
    · rw [hI_nA, hI_nA, h1]; rfl
    · rw [hI_nA, hI_nA, h2]
    · rw [hI_nA, hI_nA, h3]
    · exact rd_nAI (k := 14) (n := 4096) hm hmg rd_nAI'
    · exact rd_nAI (k := 14) (n := 4096) hm hmg rd_nAI'
  refine lt_zero C M X hn9 ad ga ma (kq + 1 + 1) (nq + 7 + 4096) (by omega) (by omega) hga hma hgm (jobB (boxes xs L)) (jobB_small (boxes_ok xs L)) _ 0 _ (by decide) (has_l (show Has _ 0 ([27, 38, 108, 48, 65] ++ boxsL (boxes xs L)) from jobB_has _)) h0 fun S1 h10 => ?_
  exact law_loop C M X hn9 ad ga ma (kq + 1 + 1) (nq + 7 + 4096) (by omega) (by omega) hga hma hgm hL9 (NB L) 0 S1 (by omega) h10

theorem nd_inj {l : List Nat} (h : l.Nodup) {a b : Nat} (ha : a < l.length) (hb : b < l.length) (e : l.getD a 0 = l.getD b 0) : a = b := by
  have e1 : l[a] = l[b] := by
    rw [List.getD_eq_getElem?_getD, List.getD_eq_getElem?_getD, List.getElem?_eq_getElem ha, List.getElem?_eq_getElem hb] at e
    exact e
  have hp := List.pairwise_iff_getElem.mp h
  rcases Nat.lt_trichotomy a b with q | q | q
  · exact absurd e1 (hp a b ha hb q)
  · exact q
  · exact absurd e1.symm (hp b a hb ha q)
def posL : List Nat := [0, 1, 2, 3, 4, 5, 11, 6, 7, 8, 9, 10, 12, 13, 14, 15, 16, 17, 18, 19, 20, 21, 24, 25, 22, 23, 26, 27, 28, 29, 30, 31, 32, 33, 34, 36, 35]
theorem pos_lt : ∀ i, i < 37 → posL.getD i 0 < 37 := by decide +kernel
theorem pos_inj : ∀ i, i < 37 → ∀ j, j < 37 → posL.getD i 0 = posL.getD j 0 → i = j := by decide +kernel
def adF (l : List Nat) : Nat → Nat := fun i => l.getD (posL.getD i 0) 0
theorem adF_inj {l : List Nat} (h : l.Nodup) (hl : l.length = 37) : ∀ i j, i < 37 → j < 37 → adF l i = adF l j → i = j := fun i j hi hj e => pos_inj i hi j hj (nd_inj h (by rw [hl]; exact pos_lt i hi) (by rw [hl]; exact pos_lt j hj) e)

set_option maxRecDepth 100000 in
set_option maxHeartbeats 4000000 in
theorem wd_mk {S0 S : Hp} (h : Nat) (hm : h ∈ hL S) (hk : Kd S h 11) (hm0 : h ∈ hL S0) (o_tp : Nat) (o_jb : Nat) (o_so : Nat) (o_sa : Nat) (o_g : Nat) (o_gb : Nat) (o_gw : Nat) (o_gh : Nat) (o_gd : Nat) (o_g0 : Nat) (o_w : Nat) (o_c : Nat) (o_cd : Nat) (o_cl : Nat) (o_f : Nat) (o_fs : Nat) (o_fss : Nat) (o_fn : Nat) (o_fa : Nat) (o_ts : Nat) (o_tss : Nat) (o_bt : Nat) (o_btr : Nat) (o_ms : Nat) (o_mss : Nat) (o_e : Nat) (o_es : Nat) (o_er : Nat) (o_err : Nat) (o_ep : Nat) (o_epr : Nat) (o_e1 : Nat) (o_e2 : Nat) (o_ra : Nat) (o_ls : Nat) (o_r0 : Nat) (m_o_tp : o_tp ∈ hL S) (k_o_tp : Kd S o_tp 13) (l_o_tp : Ln S o_tp 8000) (r_o_tp : hR S 1100 h = some o_tp) (m_o_jb : o_jb ∈ hL S) (k_o_jb : Kd S o_jb 13) (l_o_jb : Ln S o_jb 12000) (r_o_jb : hR S 1102 h = some o_jb) (m_o_so : o_so ∈ hL S) (k_o_so : Kd S o_so 14) (l_o_so : Ln S o_so 6) (r_o_so : hR S 1103 h = some o_so) (m_o_sa : o_sa ∈ hL S) (k_o_sa : Kd S o_sa 14) (l_o_sa : Ln S o_sa 7) (r_o_sa : hR S 1104 h = some o_sa) (m_o_g : o_g ∈ hL S) (k_o_g : Kd S o_g 6) (r_o_g : hR S 1106 h = some o_g) (m_o_gb : o_gb ∈ hL S) (k_o_gb : Kd S o_gb 13) (l_o_gb : Ln S o_gb 60000) (r_o_gb : hR S 600 o_g = some o_gb) (m_o_gw : o_gw ∈ hL S) (k_o_gw : Kd S o_gw 14) (l_o_gw : Ln S o_gw 12) (r_o_gw : hR S 604 o_g = some o_gw) (m_o_gh : o_gh ∈ hL S) (k_o_gh : Kd S o_gh 14) (l_o_gh : Ln S o_gh 12) (r_o_gh : hR S 605 o_g = some o_gh) (m_o_gd : o_gd ∈ hL S) (k_o_gd : Kd S o_gd 21) (l_o_gd : Ln S o_gd 13) (r_o_gd : hR S 606 o_g = some o_gd) (m_o_g0 : o_g0 ∈ hL S) (k_o_g0 : Kd S o_g0 14) (l_o_g0 : Ln S o_g0 16000) (r_o_g0 : aR S o_gd 0 = some o_g0) (m_o_w : o_w ∈ hL S) (k_o_w : Kd S o_w 9) (r_o_w : hR S 1107 h = some o_w) (m_o_c : o_c ∈ hL S) (k_o_c : Kd S o_c 0) (r_o_c : hR S 901 o_w = some o_c) (m_o_cd : o_cd ∈ hL S) (k_o_cd : Kd S o_cd 14) (l_o_cd : Ln S o_cd 20000) (r_o_cd : hR S 0 o_c = some o_cd) (m_o_cl : o_cl ∈ hL S) (k_o_cl : Kd S o_cl 14) (l_o_cl : Ln S o_cl 25) (r_o_cl : hR S 1 o_c = some o_cl) (m_o_f : o_f ∈ hL S) (k_o_f : Kd S o_f 2) (r_o_f : hR S 902 o_w = some o_f) (m_o_fs : o_fs ∈ hL S) (k_o_fs : Kd S o_fs 8) (r_o_fs : hR S 200 o_f = some o_fs) (m_o_fss : o_fss ∈ hL S) (k_o_fss : Kd S o_fss 14) (l_o_fss : Ln S o_fss 16) (r_o_fss : hR S 800 o_fs = some o_fss) (m_o_fn : o_fn ∈ hL S) (k_o_fn : Kd S o_fn 14) (l_o_fn : Ln S o_fn 119) (r_o_fn : hR S 201 o_f = some o_fn) (m_o_fa : o_fa ∈ hL S) (k_o_fa : Kd S o_fa 14) (l_o_fa : Ln S o_fa 8) (r_o_fa : hR S 207 o_f = some o_fa) (m_o_ts : o_ts ∈ hL S) (k_o_ts : Kd S o_ts 8) (r_o_ts : hR S 903 o_w = some o_ts) (m_o_tss : o_tss ∈ hL S) (k_o_tss : Kd S o_tss 14) (l_o_tss : Ln S o_tss 16) (r_o_tss : hR S 800 o_ts = some o_tss) (m_o_bt : o_bt ∈ hL S) (k_o_bt : Kd S o_bt 10) (r_o_bt : hR S 905 o_w = some o_bt) (m_o_btr : o_btr ∈ hL S) (k_o_btr : Kd S o_btr 15) (l_o_btr : Ln S o_btr 16) (r_o_btr : hR S 1003 o_bt = some o_btr) (m_o_ms : o_ms ∈ hL S) (k_o_ms : Kd S o_ms 8) (r_o_ms : hR S 906 o_w = some o_ms) (m_o_mss : o_mss ∈ hL S) (k_o_mss : Kd S o_mss 14) (l_o_mss : Ln S o_mss 16) (r_o_mss : hR S 800 o_ms = some o_mss) (m_o_e : o_e ∈ hL S) (k_o_e : Kd S o_e 1) (r_o_e : hR S 909 o_w = some o_e) (m_o_es : o_es ∈ hL S) (k_o_es : Kd S o_es 7) (r_o_es : hR S 100 o_e = some o_es) (m_o_er : o_er ∈ hL S) (k_o_er : Kd S o_er 4) (r_o_er : hR S 101 o_e = some o_er) (m_o_err : o_err ∈ hL S) (k_o_err : Kd S o_err 14) (l_o_err : Ln S o_err 20) (r_o_err : hR S 407 o_er = some o_err) (m_o_ep : o_ep ∈ hL S) (k_o_ep : Kd S o_ep 10) (r_o_ep : hR S 102 o_e = some o_ep) (m_o_epr : o_epr ∈ hL S) (k_o_epr : Kd S o_epr 15) (l_o_epr : Ln S o_epr 16) (r_o_epr : hR S 1003 o_ep = some o_epr) (m_o_e1 : o_e1 ∈ hL S) (k_o_e1 : Kd S o_e1 14) (l_o_e1 : Ln S o_e1 8) (r_o_e1 : hR S 103 o_e = some o_e1) (m_o_e2 : o_e2 ∈ hL S) (k_o_e2 : Kd S o_e2 14) (l_o_e2 : Ln S o_e2 8) (r_o_e2 : hR S 104 o_e = some o_e2) (m_o_ra : o_ra ∈ hL S) (k_o_ra : Kd S o_ra 19) (l_o_ra : Ln S o_ra 4) (r_o_ra : hR S 912 o_w = some o_ra) (m_o_ls : o_ls ∈ hL S) (k_o_ls : Kd S o_ls 14) (l_o_ls : Ln S o_ls 12) (r_o_ls : hR S 917 o_w = some o_ls) (m_o_r0 : o_r0 ∈ hL S) (k_o_r0 : Kd S o_r0 5) (r_o_r0 : aR S o_ra 0 = some o_r0) (r_900 : hR S 900 o_w = some o_g) (hN : NL S0 [o_tp, o_jb, o_so, o_sa, o_g, o_gb, o_gw, o_gh, o_gd, o_g0, o_w, o_c, o_cd, o_cl, o_f, o_fs, o_fss, o_fn, o_fa, o_ts, o_tss, o_bt, o_btr, o_ms, o_mss, o_e, o_es, o_er, o_err, o_ep, o_epr, o_e1, o_e2, o_ra, o_ls, o_r0] S) : Wd (adF [h, o_tp, o_jb, o_so, o_sa, o_g, o_gb, o_gw, o_gh, o_gd, o_g0, o_w, o_c, o_cd, o_cl, o_f, o_fs, o_fss, o_fn, o_fa, o_ts, o_tss, o_bt, o_btr, o_ms, o_mss, o_e, o_es, o_er, o_err, o_ep, o_epr, o_e1, o_e2, o_ra, o_ls, o_r0]) S := by
  refine ⟨fun i k hk9 => ?_, ?_, ?_, ?_, adF_inj (List.Pairwise.cons (fun a ha e => (hN.2 a ha).1 (e ▸ hm0)) hN.1) rfl⟩
  · exact match i, hk9 with
    | 0, hk9 => by have e9 : 11 = k := Option.some.inj hk9; subst e9; exact ⟨hm, hk⟩
    | 1, hk9 => by have e9 : 13 = k := Option.some.inj hk9; subst e9; exact ⟨m_o_tp, k_o_tp⟩
    | 2, hk9 => by have e9 : 13 = k := Option.some.inj hk9; subst e9; exact ⟨m_o_jb, k_o_jb⟩
    | 3, hk9 => by have e9 : 14 = k := Option.some.inj hk9; subst e9; exact ⟨m_o_so, k_o_so⟩
    | 4, hk9 => by have e9 : 14 = k := Option.some.inj hk9; subst e9; exact ⟨m_o_sa, k_o_sa⟩
    | 5, hk9 => by have e9 : 6 = k := Option.some.inj hk9; subst e9; exact ⟨m_o_g, k_o_g⟩
    | 6, hk9 => by have e9 : 9 = k := Option.some.inj hk9; subst e9; exact ⟨m_o_w, k_o_w⟩
    | 7, hk9 => by have e9 : 13 = k := Option.some.inj hk9; subst e9; exact ⟨m_o_gb, k_o_gb⟩
    | 8, hk9 => by have e9 : 14 = k := Option.some.inj hk9; subst e9; exact ⟨m_o_gw, k_o_gw⟩
    | 9, hk9 => by have e9 : 14 = k := Option.some.inj hk9; subst e9; exact ⟨m_o_gh, k_o_gh⟩
    | 10, hk9 => by have e9 : 21 = k := Option.some.inj hk9; subst e9; exact ⟨m_o_gd, k_o_gd⟩
    | 11, hk9 => by have e9 : 14 = k := Option.some.inj hk9; subst e9; exact ⟨m_o_g0, k_o_g0⟩
    | 12, hk9 => by have e9 : 0 = k := Option.some.inj hk9; subst e9; exact ⟨m_o_c, k_o_c⟩
    | 13, hk9 => by have e9 : 14 = k := Option.some.inj hk9; subst e9; exact ⟨m_o_cd, k_o_cd⟩
    | 14, hk9 => by have e9 : 14 = k := Option.some.inj hk9; subst e9; exact ⟨m_o_cl, k_o_cl⟩
    | 15, hk9 => by have e9 : 2 = k := Option.some.inj hk9; subst e9; exact ⟨m_o_f, k_o_f⟩
    | 16, hk9 => by have e9 : 8 = k := Option.some.inj hk9; subst e9; exact ⟨m_o_fs, k_o_fs⟩
    | 17, hk9 => by have e9 : 14 = k := Option.some.inj hk9; subst e9; exact ⟨m_o_fss, k_o_fss⟩
    | 18, hk9 => by have e9 : 14 = k := Option.some.inj hk9; subst e9; exact ⟨m_o_fn, k_o_fn⟩
    | 19, hk9 => by have e9 : 14 = k := Option.some.inj hk9; subst e9; exact ⟨m_o_fa, k_o_fa⟩
    | 20, hk9 => by have e9 : 8 = k := Option.some.inj hk9; subst e9; exact ⟨m_o_ts, k_o_ts⟩
    | 21, hk9 => by have e9 : 14 = k := Option.some.inj hk9; subst e9; exact ⟨m_o_tss, k_o_tss⟩
    | 22, hk9 => by have e9 : 8 = k := Option.some.inj hk9; subst e9; exact ⟨m_o_ms, k_o_ms⟩
    | 23, hk9 => by have e9 : 14 = k := Option.some.inj hk9; subst e9; exact ⟨m_o_mss, k_o_mss⟩
    | 24, hk9 => by have e9 : 10 = k := Option.some.inj hk9; subst e9; exact ⟨m_o_bt, k_o_bt⟩
    | 25, hk9 => by have e9 : 15 = k := Option.some.inj hk9; subst e9; exact ⟨m_o_btr, k_o_btr⟩
    | 26, hk9 => by have e9 : 1 = k := Option.some.inj hk9; subst e9; exact ⟨m_o_e, k_o_e⟩
    | 27, hk9 => by have e9 : 7 = k := Option.some.inj hk9; subst e9; exact ⟨m_o_es, k_o_es⟩
    | 28, hk9 => by have e9 : 4 = k := Option.some.inj hk9; subst e9; exact ⟨m_o_er, k_o_er⟩
    | 29, hk9 => by have e9 : 14 = k := Option.some.inj hk9; subst e9; exact ⟨m_o_err, k_o_err⟩
    | 30, hk9 => by have e9 : 10 = k := Option.some.inj hk9; subst e9; exact ⟨m_o_ep, k_o_ep⟩
    | 31, hk9 => by have e9 : 15 = k := Option.some.inj hk9; subst e9; exact ⟨m_o_epr, k_o_epr⟩
    | 32, hk9 => by have e9 : 14 = k := Option.some.inj hk9; subst e9; exact ⟨m_o_e1, k_o_e1⟩
    | 33, hk9 => by have e9 : 14 = k := Option.some.inj hk9; subst e9; exact ⟨m_o_e2, k_o_e2⟩
    | 34, hk9 => by have e9 : 19 = k := Option.some.inj hk9; subst e9; exact ⟨m_o_ra, k_o_ra⟩
    | 35, hk9 => by have e9 : 5 = k := Option.some.inj hk9; subst e9; exact ⟨m_o_r0, k_o_r0⟩
    | 36, hk9 => by have e9 : 14 = k := Option.some.inj hk9; subst e9; exact ⟨m_o_ls, k_o_ls⟩
    | i + 37, hk9 => absurd hk9 (by simp [wkL])
  · exact (List.forall_mem_cons.mpr ⟨l_o_tp, (List.forall_mem_cons.mpr ⟨l_o_jb, (List.forall_mem_cons.mpr ⟨l_o_so, (List.forall_mem_cons.mpr ⟨l_o_sa, (List.forall_mem_cons.mpr ⟨l_o_gb, (List.forall_mem_cons.mpr ⟨l_o_gw, (List.forall_mem_cons.mpr ⟨l_o_gh, (List.forall_mem_cons.mpr ⟨l_o_gd, (List.forall_mem_cons.mpr ⟨l_o_g0, (List.forall_mem_cons.mpr ⟨l_o_cd, (List.forall_mem_cons.mpr ⟨l_o_cl, (List.forall_mem_cons.mpr ⟨l_o_fss, (List.forall_mem_cons.mpr ⟨l_o_fn, (List.forall_mem_cons.mpr ⟨l_o_fa, (List.forall_mem_cons.mpr ⟨l_o_tss, (List.forall_mem_cons.mpr ⟨l_o_mss, (List.forall_mem_cons.mpr ⟨l_o_btr, (List.forall_mem_cons.mpr ⟨l_o_err, (List.forall_mem_cons.mpr ⟨l_o_epr, (List.forall_mem_cons.mpr ⟨l_o_e1, (List.forall_mem_cons.mpr ⟨l_o_e2, (List.forall_mem_cons.mpr ⟨l_o_ra, (List.forall_mem_cons.mpr ⟨l_o_ls, (fun _ h9 => absurd h9 List.not_mem_nil)⟩)⟩)⟩)⟩)⟩)⟩)⟩)⟩)⟩)⟩)⟩)⟩)⟩)⟩)⟩)⟩)⟩)⟩)⟩)⟩)⟩)⟩)⟩)
  · exact (List.forall_mem_cons.mpr ⟨r_o_tp, (List.forall_mem_cons.mpr ⟨r_o_jb, (List.forall_mem_cons.mpr ⟨r_o_so, (List.forall_mem_cons.mpr ⟨r_o_sa, (List.forall_mem_cons.mpr ⟨r_o_g, (List.forall_mem_cons.mpr ⟨r_o_w, (List.forall_mem_cons.mpr ⟨r_o_gb, (List.forall_mem_cons.mpr ⟨r_o_gw, (List.forall_mem_cons.mpr ⟨r_o_gh, (List.forall_mem_cons.mpr ⟨r_o_gd, (List.forall_mem_cons.mpr ⟨r_o_c, (List.forall_mem_cons.mpr ⟨r_o_cd, (List.forall_mem_cons.mpr ⟨r_o_cl, (List.forall_mem_cons.mpr ⟨r_o_f, (List.forall_mem_cons.mpr ⟨r_o_fs, (List.forall_mem_cons.mpr ⟨r_o_fss, (List.forall_mem_cons.mpr ⟨r_o_fn, (List.forall_mem_cons.mpr ⟨r_o_fa, (List.forall_mem_cons.mpr ⟨r_o_ts, (List.forall_mem_cons.mpr ⟨r_o_tss, (List.forall_mem_cons.mpr ⟨r_o_ms, (List.forall_mem_cons.mpr ⟨r_o_mss, (List.forall_mem_cons.mpr ⟨r_o_bt, (List.forall_mem_cons.mpr ⟨r_o_btr, (List.forall_mem_cons.mpr ⟨r_o_e, (List.forall_mem_cons.mpr ⟨r_o_es, (List.forall_mem_cons.mpr ⟨r_o_er, (List.forall_mem_cons.mpr ⟨r_o_err, (List.forall_mem_cons.mpr ⟨r_o_ep, (List.forall_mem_cons.mpr ⟨r_o_epr, (List.forall_mem_cons.mpr ⟨r_o_e1, (List.forall_mem_cons.mpr ⟨r_o_e2, (List.forall_mem_cons.mpr ⟨r_o_ra, (List.forall_mem_cons.mpr ⟨r_o_ls, (List.forall_mem_cons.mpr ⟨r_900, (fun _ h9 => absurd h9 List.not_mem_nil)⟩)⟩)⟩)⟩)⟩)⟩)⟩)⟩)⟩)⟩)⟩)⟩)⟩)⟩)⟩)⟩)⟩)⟩)⟩)⟩)⟩)⟩)⟩)⟩)⟩)⟩)⟩)⟩)⟩)⟩)⟩)⟩)⟩)⟩)⟩)
  · exact (List.forall_mem_cons.mpr ⟨r_o_g0, (List.forall_mem_cons.mpr ⟨r_o_r0, (fun _ h9 => absurd h9 List.not_mem_nil)⟩)⟩)
