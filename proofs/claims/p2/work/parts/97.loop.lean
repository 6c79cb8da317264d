/-! All directories of a picture file. -/
section LP
variable {β : Type} {Q : β → Mm → Int32 → Mm → Prop} {K : Unit → Mm → Option (β × Mm)} {st sz : Nat} {F : Nat → Nat} {lo : Bool} {c0 m0 : Mm}
theorem P2_rdloop (pc : PicC c0 st sz F) (pm : PicM m0 st sz F) (hl : gI c0 306 129 = cI lo) (hlm : gI m0 1269 133 = cI (!lo)) (rt : RunT c0) (tb : Tab m0)
    (good : ∀ c' m', Fr cRdrF cRdrA c0 c' → Fr mRdrF mRdrA m0 m' → gI c' 304 129 = 0 → Sh c' m' → K3 c0 m0 c' m' → P2 (K () c') (some (1, m')) Q)
    (much : ∀ c' m', Fr cRdrF cRdrA c0 c' → Fr mRdrF mRdrA m0 m' → gI c' 304 129 = 1 → gI c' 603 5 = 1 → gI m' 1233 133 = 1 → K3 c0 m0 c' m' → P2 (K () c') (some (0, m')) Q)
    (bad : ∀ c' m' e p, Fr cRdrF cRdrA c0 c' → Fr mRdrF mRdrA m0 m' → (e = 3 ∨ e = 4 ∨ e = 5) → gI c' 304 129 = nI e → gI c' 305 129 = nI p → gI m' 1243 133 = nI e → gI m' 1245 133 = nI p → p ≤ sz → gI m' 1233 133 = 0 → P2 (K () c') (some (0, m')) Q) :
    ∀ n k a d c m, 12 - k + 1 < n → k ≤ 12 → a < 2 ^ 32 → Fr cRdrF cRdrA c0 c → Fr mRdrF mRdrA m0 m → gI c 304 129 = 0 → Sh c m → K3 c0 m0 c m → SE c m sz k d → P2 (bd (f_X3_read_l60 n (lN a) (nI k) c) K) (f_X12_pictures_l259 n (lN a) m) Q := by
  have hF := pc.2.2.2.2.2.1
  intro n
  induction n with
  | zero => intro k a d c m h; omega
  | succ n ih =>
    intro k a d c m hn hk ha fc fm f0 sh k3 S
    have evc : f_X3_read_l60 (n + 1) (lN a) (nI k) c = f_X3_read_b60 (f_X3_read_l60 n) (lN a) (nI k) c := rfl
    have evm : f_X12_pictures_l259 (n + 1) (lN a) m = f_X12_pictures_b259 (f_X12_pictures_l259 n) (lN a) m := rfl
    rw [evc, evm]
    unfold f_X3_read_b60
    rw [if_neg (show ¬ (12 : Int32) < nI k from nI_nlt (a := 12) (b := k) hk (by omega))]
    by_cases z : a = 0
    · rw [if_pos (show lg_cmp (lN a) 0 = 0 from (cmpZ (by omega) 0 (by omega)).mpr z), bd_eq]
      unfold f_X12_pictures_b259
      rw [if_pos (show lg_cmp (lN a) 0 = 0 from (cmpZ (by omega) 0 (by omega)).mpr z)]
      exact good c m fc fm f0 sh k3
    · rw [if_neg (show ¬ lg_cmp (lN a) 0 = 0 from fun y => z ((cmpZ (by omega) 0 (by omega)).mp y)), if_pos f0, bd_assoc]
      obtain ⟨n', rfl⟩ : ∃ n', n = n' + 1 := ⟨n - 1, by omega⟩
      -- a fault ends the loop
      have stop : ∀ v j c', ¬ gI c' 304 129 = 0 → f_X3_read_l60 (n' + 1) v j c' = some ((), c') := fun v j c' h => by
        show f_X3_read_b60 (f_X3_read_l60 n') _ _ _ = _
        unfold f_X3_read_b60
        rw [if_neg h]
        split
        · rfl
        split <;> rfl
      have hp : ∃ p, gI c 602 5 = nI p ∧ p ≤ 12 := by
        obtain ⟨s, p, _, e1, _, e3, _⟩ := sh
        exact ⟨p, e1, e3⟩
      obtain ⟨p, hp1, hp2⟩ := hp
      have h33 : gI m 1233 133 = 0 := by
        obtain ⟨s, p, hW, _⟩ := sh
        exact hW.2.2.2.2.2.1
      refine P2_readDir (K := fun v T => bd (f_X3_read_l60 (n' + 1) v (nI k + 1) T) K) (p := p) (k := k) (d := d) (st := st) (sz := sz) (F := F) (lo := lo) (pc.fr fc rfl rfl rfl rfl) (pm.fr fm rfl rfl rfl) (by rw [fc.i rfl]; exact hl) (by rw [fm.i rfl]; exact hlm) (rt.fr fc rfl) (tb.fr fm rfl rfl) sh hp1 hp2 f0 S z ha (fun c' m' h1 h2 h3 h4 _ kk h5 h6 => ?_) (fun c' m' v h1 h2 h3 h4 h5 kk => ?_) (fun c' m' v e pl h1 h2 h3 h4 h5 h6 h7 h8 h9 => ?_)
      · rw [nI_1]
        exact ih (k + 1) _ _ c' m' (by omega) (by omega) (nm_lt hF (by omega)) (fc.trans h1) (fm.trans h2) h3 h4 ⟨kk.1.trans k3.1, kk.2.1.trans k3.2.1, kk.2.2.trans k3.2.2⟩ h6
      · show P2 (bd (f_X3_read_l60 (n' + 1) v (nI k + 1) c') K) _ Q
        rw [stop _ _ _ (by rw [h3]; decide), bd_eq]
        exact much c' m' (fc.trans h1) (fm.trans h2) h3 h4 h5 ⟨kk.1.trans k3.1, kk.2.1.trans k3.2.1, kk.2.2.trans k3.2.2⟩
      · show P2 (bd (f_X3_read_l60 (n' + 1) v (nI k + 1) c') K) _ Q
        rw [stop _ _ _ (by rw [h4]; rcases h3 with rfl | rfl | rfl <;> decide), bd_eq]
        exact bad c' m' e pl (fc.trans h1) (fm.trans h2) h3 h4 h5 h6 h7 h8 (by rw [h9]; exact h33)
end LP
