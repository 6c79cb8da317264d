/-! The entries of a directory. -/
def D1 (c m : Mm) (t f : Nat) : Prop := (gA m 170 t = -1 ∧ gJ c f 129 = -1) ∨ ∃ p v, p < 2 ^ 20 ∧ gA m 170 t = nI p ∧ v < 2 ^ 32 ∧ may t v = true ∧ gJ c f 129 = lN v ∧ gB m 171 t = lN v
def D6 (c m : Mm) : Prop := (gJ c 313 129 = lN 1 ∧ gB m 171 266 = lN 0) ∨ ∃ v, v < 2 ^ 32 ∧ may 266 v = true ∧ gJ c 313 129 = lN v ∧ gB m 171 266 = lN v
def D2 (c m : Mm) (sz t f : Nat) : Prop := (gA m 170 t = -1 ∧ gJ c f 129 = -1) ∨ ∃ p, p + 12 ≤ sz ∧ gA m 170 t = nI p ∧ gJ c f 129 = lN p
def DE (c m : Mm) (sz : Nat) : Prop := D1 c m 256 309 ∧ D1 c m 257 310 ∧ D1 c m 259 311 ∧ D1 c m 262 312 ∧ D1 c m 278 314 ∧ D6 c m ∧ D2 c m sz 273 315 ∧ D2 c m sz 279 316
theorem D1.o {c c' m m' : Mm} {t f : Nat} (h : D1 c m t f) (e1 : gJ c' f 129 = gJ c f 129) (e2 : gA m' 170 t = gA m 170 t) (e3 : gB m' 171 t = gB m 171 t) : D1 c' m' t f := by
  unfold D1; rw [e1, e2, e3]; exact h
theorem D6.o {c c' m m' : Mm} (h : D6 c m) (e1 : gJ c' 313 129 = gJ c 313 129) (e3 : gB m' 171 266 = gB m 171 266) : D6 c' m' := by
  unfold D6; rw [e1, e3]; exact h
theorem D2.o {c c' m m' : Mm} {sz t f : Nat} (h : D2 c m sz t f) (e1 : gJ c' f 129 = gJ c f 129) (e2 : gA m' 170 t = gA m 170 t) : D2 c' m' sz t f := by
  unfold D2; rw [e1, e2]; exact h
theorem ge_A (m : Mm) (t p : Nat) (v : Int64) (u : Nat) : gA (uB (uA m 170 t (nI p)) 171 t v) 170 u = if u = t then nI p else gA m 170 u := by
  show gA (uA m 170 t (nI p)) 170 u = _
  rw [gA_uA]; simp
theorem ge_B (m : Mm) (t p : Nat) (v : Int64) (u : Nat) : gB (uB (uA m 170 t (nI p)) 171 t v) 171 u = if u = t then v else gB m 171 u := by
  rw [gB_uB]; simp; rfl
theorem ge_C (m : Mm) (t p : Nat) (u : Nat) : gA (uA m 170 t (nI p)) 170 u = if u = t then nI p else gA m 170 u := by
  rw [gA_uA]; simp
theorem DE_list {c m : Mm} {sz p : Nat} (h : DE c m sz) (hp : p + 12 ≤ sz) : DE (uJ c 315 129 (lN p)) (uA m 170 273 (nI p)) sz ∧ DE (uJ c 316 129 (lN p)) (uA m 170 279 (nI p)) sz := by
  obtain ⟨h1, h2, h3, h4, h5, h6, h7, h8⟩ := h
  refine ⟨⟨h1.o rfl (by rw [ge_C, if_neg (by decide)]) rfl, h2.o rfl (by rw [ge_C, if_neg (by decide)]) rfl, h3.o rfl (by rw [ge_C, if_neg (by decide)]) rfl, h4.o rfl (by rw [ge_C, if_neg (by decide)]) rfl, h5.o rfl (by rw [ge_C, if_neg (by decide)]) rfl, h6.o rfl rfl, Or.inr ⟨p, hp, by rw [ge_C, if_pos rfl], by rw [gJ_uJ, if_pos ⟨rfl, rfl⟩]⟩, h8.o (by rw [gJ_uJ, if_neg (by decide)]) (by rw [ge_C, if_neg (by decide)])⟩, ⟨h1.o rfl (by rw [ge_C, if_neg (by decide)]) rfl, h2.o rfl (by rw [ge_C, if_neg (by decide)]) rfl, h3.o rfl (by rw [ge_C, if_neg (by decide)]) rfl, h4.o rfl (by rw [ge_C, if_neg (by decide)]) rfl, h5.o rfl (by rw [ge_C, if_neg (by decide)]) rfl, h6.o rfl rfl, h7.o (by rw [gJ_uJ, if_neg (by decide)]) (by rw [ge_C, if_neg (by decide)]), Or.inr ⟨p, hp, by rw [ge_C, if_pos rfl], by rw [gJ_uJ, if_pos ⟨rfl, rfl⟩]⟩⟩⟩
theorem DE_one {c m : Mm} {sz p t v : Nat} (h : DE c m sz) (hp : p < 2 ^ 20) (hv : v < 2 ^ 32) (ho : one t = true) (hm : may t v = true) : DE (told c t v) (uB (uA m 170 t (nI p)) 171 t (lN v)) sz := by
  obtain ⟨h1, h2, h3, h4, h5, h6, h7, h8⟩ := h
  rcases one_in ho with rfl | rfl | rfl | rfl | rfl | rfl | rfl | rfl | rfl
  · exact ⟨Or.inr ⟨p, v, hp, by rw [ge_A, if_pos rfl], hv, hm, by show gJ (uJ c 309 129 (lN v)) 309 129 = _; rw [gJ_uJ, if_pos ⟨rfl, rfl⟩], by rw [ge_B, if_pos rfl]⟩, h2.o (by rfl) (by rw [ge_A, if_neg (by decide)]) (by rw [ge_B, if_neg (by decide)]), h3.o (by rfl) (by rw [ge_A, if_neg (by decide)]) (by rw [ge_B, if_neg (by decide)]), h4.o (by rfl) (by rw [ge_A, if_neg (by decide)]) (by rw [ge_B, if_neg (by decide)]), h5.o (by rfl) (by rw [ge_A, if_neg (by decide)]) (by rw [ge_B, if_neg (by decide)]), h6.o (by rfl) (by rw [ge_B, if_neg (by decide)]), h7.o (by rfl) (by rw [ge_A, if_neg (by decide)]), h8.o (by rfl) (by rw [ge_A, if_neg (by decide)])⟩
  · exact ⟨h1.o (by rfl) (by rw [ge_A, if_neg (by decide)]) (by rw [ge_B, if_neg (by decide)]), Or.inr ⟨p, v, hp, by rw [ge_A, if_pos rfl], hv, hm, by show gJ (uJ c 310 129 (lN v)) 310 129 = _; rw [gJ_uJ, if_pos ⟨rfl, rfl⟩], by rw [ge_B, if_pos rfl]⟩, h3.o (by rfl) (by rw [ge_A, if_neg (by decide)]) (by rw [ge_B, if_neg (by decide)]), h4.o (by rfl) (by rw [ge_A, if_neg (by decide)]) (by rw [ge_B, if_neg (by decide)]), h5.o (by rfl) (by rw [ge_A, if_neg (by decide)]) (by rw [ge_B, if_neg (by decide)]), h6.o (by rfl) (by rw [ge_B, if_neg (by decide)]), h7.o (by rfl) (by rw [ge_A, if_neg (by decide)]), h8.o (by rfl) (by rw [ge_A, if_neg (by decide)])⟩
  · exact ⟨h1.o (by rfl) (by rw [ge_A, if_neg (by decide)]) (by rw [ge_B, if_neg (by decide)]), h2.o (by rfl) (by rw [ge_A, if_neg (by decide)]) (by rw [ge_B, if_neg (by decide)]), h3.o (by rfl) (by rw [ge_A, if_neg (by decide)]) (by rw [ge_B, if_neg (by decide)]), h4.o (by rfl) (by rw [ge_A, if_neg (by decide)]) (by rw [ge_B, if_neg (by decide)]), h5.o (by rfl) (by rw [ge_A, if_neg (by decide)]) (by rw [ge_B, if_neg (by decide)]), h6.o (by rfl) (by rw [ge_B, if_neg (by decide)]), h7.o (by rfl) (by rw [ge_A, if_neg (by decide)]), h8.o (by rfl) (by rw [ge_A, if_neg (by decide)])⟩
  · exact ⟨h1.o (by rfl) (by rw [ge_A, if_neg (by decide)]) (by rw [ge_B, if_neg (by decide)]), h2.o (by rfl) (by rw [ge_A, if_neg (by decide)]) (by rw [ge_B, if_neg (by decide)]), Or.inr ⟨p, v, hp, by rw [ge_A, if_pos rfl], hv, hm, by show gJ (uJ c 311 129 (lN v)) 311 129 = _; rw [gJ_uJ, if_pos ⟨rfl, rfl⟩], by rw [ge_B, if_pos rfl]⟩, h4.o (by rfl) (by rw [ge_A, if_neg (by decide)]) (by rw [ge_B, if_neg (by decide)]), h5.o (by rfl) (by rw [ge_A, if_neg (by decide)]) (by rw [ge_B, if_neg (by decide)]), h6.o (by rfl) (by rw [ge_B, if_neg (by decide)]), h7.o (by rfl) (by rw [ge_A, if_neg (by decide)]), h8.o (by rfl) (by rw [ge_A, if_neg (by decide)])⟩
  · exact ⟨h1.o (by rfl) (by rw [ge_A, if_neg (by decide)]) (by rw [ge_B, if_neg (by decide)]), h2.o (by rfl) (by rw [ge_A, if_neg (by decide)]) (by rw [ge_B, if_neg (by decide)]), h3.o (by rfl) (by rw [ge_A, if_neg (by decide)]) (by rw [ge_B, if_neg (by decide)]), Or.inr ⟨p, v, hp, by rw [ge_A, if_pos rfl], hv, hm, by show gJ (uJ c 312 129 (lN v)) 312 129 = _; rw [gJ_uJ, if_pos ⟨rfl, rfl⟩], by rw [ge_B, if_pos rfl]⟩, h5.o (by rfl) (by rw [ge_A, if_neg (by decide)]) (by rw [ge_B, if_neg (by decide)]), h6.o (by rfl) (by rw [ge_B, if_neg (by decide)]), h7.o (by rfl) (by rw [ge_A, if_neg (by decide)]), h8.o (by rfl) (by rw [ge_A, if_neg (by decide)])⟩
  · exact ⟨h1.o (by rfl) (by rw [ge_A, if_neg (by decide)]) (by rw [ge_B, if_neg (by decide)]), h2.o (by rfl) (by rw [ge_A, if_neg (by decide)]) (by rw [ge_B, if_neg (by decide)]), h3.o (by rfl) (by rw [ge_A, if_neg (by decide)]) (by rw [ge_B, if_neg (by decide)]), h4.o (by rfl) (by rw [ge_A, if_neg (by decide)]) (by rw [ge_B, if_neg (by decide)]), h5.o (by rfl) (by rw [ge_A, if_neg (by decide)]) (by rw [ge_B, if_neg (by decide)]), Or.inr ⟨v, hv, hm, by show gJ (uJ c 313 129 (lN v)) 313 129 = _; rw [gJ_uJ, if_pos ⟨rfl, rfl⟩], by rw [ge_B, if_pos rfl]⟩, h7.o (by rfl) (by rw [ge_A, if_neg (by decide)]), h8.o (by rfl) (by rw [ge_A, if_neg (by decide)])⟩
  · exact ⟨h1.o (by rfl) (by rw [ge_A, if_neg (by decide)]) (by rw [ge_B, if_neg (by decide)]), h2.o (by rfl) (by rw [ge_A, if_neg (by decide)]) (by rw [ge_B, if_neg (by decide)]), h3.o (by rfl) (by rw [ge_A, if_neg (by decide)]) (by rw [ge_B, if_neg (by decide)]), h4.o (by rfl) (by rw [ge_A, if_neg (by decide)]) (by rw [ge_B, if_neg (by decide)]), h5.o (by rfl) (by rw [ge_A, if_neg (by decide)]) (by rw [ge_B, if_neg (by decide)]), h6.o (by rfl) (by rw [ge_B, if_neg (by decide)]), h7.o (by rfl) (by rw [ge_A, if_neg (by decide)]), h8.o (by rfl) (by rw [ge_A, if_neg (by decide)])⟩
  · exact ⟨h1.o (by rfl) (by rw [ge_A, if_neg (by decide)]) (by rw [ge_B, if_neg (by decide)]), h2.o (by rfl) (by rw [ge_A, if_neg (by decide)]) (by rw [ge_B, if_neg (by decide)]), h3.o (by rfl) (by rw [ge_A, if_neg (by decide)]) (by rw [ge_B, if_neg (by decide)]), h4.o (by rfl) (by rw [ge_A, if_neg (by decide)]) (by rw [ge_B, if_neg (by decide)]), Or.inr ⟨p, v, hp, by rw [ge_A, if_pos rfl], hv, hm, by show gJ (uJ c 314 129 (lN v)) 314 129 = _; rw [gJ_uJ, if_pos ⟨rfl, rfl⟩], by rw [ge_B, if_pos rfl]⟩, h6.o (by rfl) (by rw [ge_B, if_neg (by decide)]), h7.o (by rfl) (by rw [ge_A, if_neg (by decide)]), h8.o (by rfl) (by rw [ge_A, if_neg (by decide)])⟩
  · exact ⟨h1.o (by rfl) (by rw [ge_A, if_neg (by decide)]) (by rw [ge_B, if_neg (by decide)]), h2.o (by rfl) (by rw [ge_A, if_neg (by decide)]) (by rw [ge_B, if_neg (by decide)]), h3.o (by rfl) (by rw [ge_A, if_neg (by decide)]) (by rw [ge_B, if_neg (by decide)]), h4.o (by rfl) (by rw [ge_A, if_neg (by decide)]) (by rw [ge_B, if_neg (by decide)]), h5.o (by rfl) (by rw [ge_A, if_neg (by decide)]) (by rw [ge_B, if_neg (by decide)]), h6.o (by rfl) (by rw [ge_B, if_neg (by decide)]), h7.o (by rfl) (by rw [ge_A, if_neg (by decide)]), h8.o (by rfl) (by rw [ge_A, if_neg (by decide)])⟩
section EN
variable {β : Type} {Q : β → Mm → Int32 → Mm → Prop} {K : Int64 → Mm → Option (β × Mm)} {st sz q nn : Nat} {F : Nat → Nat} {lo : Bool} {c0 m0 : Mm} {a4 : Int64}
theorem P2_entries (pc : PicC c0 st sz F) (pm : PicM m0 st sz F) (hlc : gI c0 306 129 = cI lo) (hlm : gI m0 1269 133 = cI (!lo)) (hn40 : nn ≤ 40) (hq : q + 2 + 12 * nn ≤ sz)
    (fin : ∀ c' m' k31, Fr cEnF (fun _ => false) c0 c' → Fr (fun _ _ => false) mEnA m0 m' → gI c' 304 129 = 0 → gI c' 305 129 = gI c0 305 129 → DE c' m' sz → P2 (bd (f_X3_readDirectory_101 (lN q) a4 c') K) (f_X12_directory_b31 k31 (nI q) (nI nn) (nI nn) m') Q)
    (bad : ∀ c' m' p, Fr cEnF (fun _ => false) c0 c' → Fr (fun _ _ => false) mEnA m0 m' → gI c' 304 129 = 4 → gI c' 305 129 = nI p → p ≤ sz → P2 (bd (f_X3_readDirectory_101 (lN q) a4 c') K) (some (0, uI (uI m' 1243 133 4) 1245 133 (nI p))) Q) :
    ∀ n i c m, nn - i < n → i ≤ nn → Fr cEnF (fun _ => false) c0 c → Fr (fun _ _ => false) mEnA m0 m → gI c 304 129 = 0 → gI c 305 129 = gI c0 305 129 → DE c m sz → P2 (bd (f_X3_readDirectory_l66 (n + 1) (lN q) (nI nn) a4 (nI i) c) K) (f_X12_directory_l31 (n + 1) (nI q) (nI nn) (nI i) m) Q := by
  have hsz := pc.2.2.2.1
  have hF := pc.2.2.2.2.2.1
  intro n
  induction n with
  | zero => intro i c m h; omega
  | succ n ih =>
    intro i c m hn hi fc fm g0 g5' E
    have evc : f_X3_readDirectory_l66 (n + 1 + 1) (lN q) (nI nn) a4 (nI i) c = f_X3_readDirectory_b66 (f_X3_readDirectory_l66 (n + 1)) (lN q) (nI nn) a4 (nI i) c := rfl
    have evm : f_X12_directory_l31 (n + 1 + 1) (nI q) (nI nn) (nI i) m = f_X12_directory_b31 (f_X12_directory_l31 (n + 1)) (nI q) (nI nn) (nI i) m := rfl
    rw [evc, evm]
    unfold f_X3_readDirectory_b66
    rcases Nat.lt_or_ge i nn with hlt | hge
    · have ep : lN q + 2 + ((12 : Int32) * nI i).toInt64 = lN (q + 2 + 12 * i) := by
        rw [show (12 : Int32) * nI i = nI (12 * i) from pk_mul 12 i, nI_l (by omega), show lN q + 2 = lN (q + 2) from lN_add q 2, lN_add]
      rw [if_neg (nI_ge hlt (by omega)), if_pos g0, ep, nI_1]
      obtain ⟨p, hp⟩ : ∃ p, p = q + 2 + 12 * i := ⟨_, rfl⟩
      rw [← hp]
      have hpsz : p + 12 ≤ sz := by omega
      have hvb : enV F lo p < 2 ^ 32 := nm_lt hF (lk_le F lo p)
      obtain ⟨c', ec, r1, r2, r3, r4, r5⟩ := c_entry (c := c) (pc.fr fc rfl rfl rfl rfl) (by rw [fc.i rfl]; exact hlc) g0 hpsz
      obtain ⟨s1, s2, s3, s4⟩ := m_entry (m := m) (k31 := f_X12_directory_l31 (n + 1)) (pm.fr fm rfl rfl rfl) (by rw [fm.i rfl]; exact hlm) hlt hn40 p hp hpsz
      rw [ec, bd_eq]
      have e4 : ∀ c' p', gI c' 304 129 = 4 → f_X3_readDirectory_l66 (n + 1) (lN q) (nI nn) a4 p' c' = f_X3_readDirectory_101 (lN q) a4 c' := fun c' p' g => by
        show f_X3_readDirectory_b66 (f_X3_readDirectory_l66 n) _ _ _ _ _ = _
        unfold f_X3_readDirectory_b66
        by_cases z : nI nn ≤ p'
        · rw [if_pos z]
        · rw [if_neg z, if_neg (by rw [g]; decide)]
      by_cases k1 : nm F lo p 2 = 273
      · rw [s1 (Or.inl k1), r1 k1, k1]
        exact ih (i + 1) _ _ (by omega) hlt (fc.uJ _ (by rfl)) (fm.uA _ _ (by rfl)) g0 g5' (DE_list E hpsz).1
      by_cases k2 : nm F lo p 2 = 279
      · rw [s1 (Or.inr k2), r2 k2, k2]
        exact ih (i + 1) _ _ (by omega) hlt (fc.uJ _ (by rfl)) (fm.uA _ _ (by rfl)) g0 g5' (DE_list E hpsz).2
      cases k3 : lkd (nm F lo p 2) with
      | false =>
        rw [s2 k3, r3 k3]
        exact ih (i + 1) _ _ (by omega) hlt fc fm g0 g5' E
      | true =>
        have ho : one (nm F lo p 2) = true := by
          rcases lkd_in k3 with y | y | y
          · exact y
          · exact absurd y k1
          · exact absurd y k2
        by_cases k4 : eOk F lo p
        · rw [s3 ho k4, r4 ho k4]
          exact ih (i + 1) _ _ (by omega) hlt (fc.trans (told_fr c _ _)) ((fm.uA _ _ (by rfl)).uB _ _ (by rfl)) (by rw [told_i]; exact g0) (by rw [told_i]; exact g5') (DE_one E (by omega) hvb ho k4.2.2)
        · obtain ⟨m', t1, t2⟩ := s4 ho k4
          obtain ⟨u1, u2, u3⟩ := r5 ho k4
          rw [t1, e4 c' _ u1]
          exact bad c' m' p (fc.trans u3) (fm.trans t2) u1 u2 (by omega)
    · have e : i = nn := by omega
      subst e
      rw [if_pos (nI_le (Nat.le_refl _) (by omega))]
      exact fin c m _ fc fm g0 g5' E
end EN
