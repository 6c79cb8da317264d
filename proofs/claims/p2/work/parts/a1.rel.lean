/-! Streams: the relation of the two sides. -/
def pbit (m : Mm) (x y : Nat) : Bool := bt (gA m 157 (80 * y + x / 8)) (7 - x % 8)
def phX (g : Nat → Int32) (x y : Nat) : Nat := if g 1 = 0 then x else y
def phY (g : Nat → Int32) (x y : Nat) : Nat := if g 1 = 0 then y else pgH (g 0) - 1 - x
def CV (c m : Mm) (g : Nat → Int32) (k v : Nat) : Prop := (gI c 2 24 = nI k) ∧ (gI m 1235 133 = nI k) ∧ (k ≤ 2000) ∧ (gI c 4 24 = nI v) ∧ (gJ m 1249 133 = lN v) ∧ (v ≤ 5000000) ∧ (gI c 5 24 = 0) ∧ (∀ x y, x < 800 → y < 800 → dotW (gA c 25) (25 * y) x = (decide (x < lgW g) && decide (y < lgH g) && pbit m (phX g x y) (phY g x y))) ∧ (k = 0 → ∀ x y, x < 640 → y < 800 → pbit m x y = false)
theorem CV.k1 {c m : Mm} {g : Nat → Int32} {k v : Nat} (h : CV c m g k v) : gI c 2 24 = nI k := h.1
theorem CV.k2 {c m : Mm} {g : Nat → Int32} {k v : Nat} (h : CV c m g k v) : gI m 1235 133 = nI k := h.2.1
theorem CV.k3 {c m : Mm} {g : Nat → Int32} {k v : Nat} (h : CV c m g k v) : k ≤ 2000 := h.2.2.1
theorem CV.v1 {c m : Mm} {g : Nat → Int32} {k v : Nat} (h : CV c m g k v) : gI c 4 24 = nI v := h.2.2.2.1
theorem CV.v2 {c m : Mm} {g : Nat → Int32} {k v : Nat} (h : CV c m g k v) : gJ m 1249 133 = lN v := h.2.2.2.2.1
theorem CV.v3 {c m : Mm} {g : Nat → Int32} {k v : Nat} (h : CV c m g k v) : v ≤ 5000000 := h.2.2.2.2.2.1
theorem CV.u {c m : Mm} {g : Nat → Int32} {k v : Nat} (h : CV c m g k v) : gI c 5 24 = 0 := h.2.2.2.2.2.2.1
theorem CV.d {c m : Mm} {g : Nat → Int32} {k v : Nat} (h : CV c m g k v) : ∀ x y, x < 800 → y < 800 → dotW (gA c 25) (25 * y) x = (decide (x < lgW g) && decide (y < lgH g) && pbit m (phX g x y) (phY g x y)) := h.2.2.2.2.2.2.2.1
theorem CV.z {c m : Mm} {g : Nat → Int32} {k v : Nat} (h : CV c m g k v) : k = 0 → ∀ x y, x < 640 → y < 800 → pbit m x y = false := h.2.2.2.2.2.2.2.2
theorem CV_mk {c m : Mm} {g : Nat → Int32} {k v : Nat} (k1 : gI c 2 24 = nI k) (k2 : gI m 1235 133 = nI k) (k3 : k ≤ 2000) (v1 : gI c 4 24 = nI v) (v2 : gJ m 1249 133 = lN v) (v3 : v ≤ 5000000) (u : gI c 5 24 = 0) (d : ∀ x y, x < 800 → y < 800 → dotW (gA c 25) (25 * y) x = (decide (x < lgW g) && decide (y < lgH g) && pbit m (phX g x y) (phY g x y))) (z : k = 0 → ∀ x y, x < 640 → y < 800 → pbit m x y = false) : CV c m g k v := ⟨k1, k2, k3, v1, v2, v3, u, d, z⟩
/-! the font in use -/
def iwp (k : Nat) : Nat := if k = 7 then 7 else (k + 1) % 7
def fkeep (C P : Nat → Bool) : Nat → Bool := fun f => if (List.range 17).any (fun f => C f && P f) then C f && P f else C f
def ffar (h v : Int) : Int := if h - v < 0 then -2 * (h - v) + 1 else 2 * (h - v)
def fnear (C : Nat → Bool) (n : Nat → Int) (v : Int) : Nat → Bool := fun f => C f && (List.range 17).all (fun f' => !C f' || decide (ffar (n f) v ≤ ffar (n f') v))
def ffr (C : Nat → Bool) : Nat → Nat → Nat
  | 0, k => k
  | n + 1, k => if C k = true then k else ffr C n (k + 1)
def ffirst (C : Nat → Bool) : Nat := ffr C 17 0
def fcho (th : Nat → Bool) (nm : Nat → Nat → Int32) (w : Nat → Int32) : Nat :=
  let a := fkeep th (fun f => decide (nm f 6 = w 6))
  let b := fkeep a (fun f => decide (nm f 0 = w 0))
  let d := if w 0 = 0 then fnear b (fun f => (nm f 1).toInt) (w 1).toInt else b
  let e := fnear d (fun f => (nm f 2).toInt) (w 2).toInt
  let g := fkeep e (fun f => decide (nm f 3 = w 3))
  let h := fnear g (fun f => (nm f 4).toInt) (w 4).toInt
  let k := fkeep h (fun f => decide (nm f 5 = w 5))
  ffirst k
def fiu (th : Nat → Bool) (nm : Nat → Nat → Int32) (w : Nat → Int32) : Nat := if ¬ w 7 = -1 ∧ th (w 7).toNatClampNeg = true then (w 7).toNatClampNeg else fcho th nm w
def thC (c : Mm) (f : Nat) : Bool := f == 16 || !decide (gA c 29 f = 0)
def nmC (c : Mm) (f k : Nat) : Int32 := gA c 30 (7 * f + iwp k)
def thM (m : Mm) (f : Nat) : Bool := decide (gA m 136 f = 1)
def nmM (m : Mm) (f k : Nat) : Int32 := gA m 138 (7 * f + k)
/-- the wishes that were asked are wishes -/
def WB8 (w : Nat → Int32) : Prop := (∀ k, k < 7 → -2000000 ≤ (w k).toInt ∧ (w k).toInt ≤ 2000000) ∧ -1 ≤ (w 7).toInt ∧ (w 7).toInt ≤ 16
def KA (c : Mm) : Prop := (gI c 209 27 = 0 ∨ gI c 209 27 = 1) ∧ (gI c 209 27 = 1 → gI c 208 27 = nI (fiu (thC c) (nmC c) (fun k => gA c 35 (iwp k))))
theorem KA.b {c : Mm} (h : KA c) : gI c 209 27 = 0 ∨ gI c 209 27 = 1 := h.1
theorem KA.v {c : Mm} (h : KA c) : gI c 209 27 = 1 → gI c 208 27 = nI (fiu (thC c) (nmC c) (fun k => gA c 35 (iwp k))) := h.2
theorem KA_mk {c : Mm} (b : gI c 209 27 = 0 ∨ gI c 209 27 = 1) (v : gI c 209 27 = 1 → gI c 208 27 = nI (fiu (thC c) (nmC c) (fun k => gA c 35 (iwp k)))) : KA c := ⟨b, v⟩
def sv (a b : Bool) : Int32 := if a then (if b then 1 else 2) else 0
def cnt (p : Nat → Bool) : Nat → Nat
  | 0 => 0
  | n + 1 => cnt p n + (if p n = true then 1 else 0)
def SV (c m : Mm) (o p q : Nat) : Prop := ∀ u, u < 16 → ∃ a b, gA m p u = cI a ∧ gA m q u = cI b ∧ gA c o u = sv a b
def FT (c m : Mm) : Prop := (SV c m 29 136 137) ∧ (gA m 136 16 = 1) ∧ (∀ f k, f < 17 → k < 7 → gA c 30 (7 * f + k) = gA m 138 (7 * f + wpi k)) ∧ (∀ j, j < 119 → -2000000 ≤ (gA m 138 j).toInt ∧ (gA m 138 j).toInt ≤ 2000000) ∧ (gA m 138 112 = 0) ∧ (∀ f, f < 17 → 0 ≤ (gA m 138 (7 * f + 1)).toInt ∧ (gA m 138 (7 * f + 1)).toInt ≤ 32000) ∧ (∀ j, j < 4096 → gA c 31 j = gA m 139 j + 1 ∧ (gA m 139 j = -1 ∨ ∃ s, s < 400 ∧ gA m 139 j = nI s ∧ gA m 140 s = 1)) ∧ (∀ i j, i < 4096 → j < 4096 → gA m 139 i = gA m 139 j → ¬ gA m 139 i = -1 → i = j) ∧ (∀ j, j < 256 → gA c 31 (4096 + j) = (if 33 ≤ j ∧ j ≤ 126 then nI (j + 368) else 0)) ∧ (∀ s, s < 400 → ∃ b, gA m 140 s = cI b ∧ gA c 32 s = cI b) ∧ (gI m 1209 133 = nI (cnt (fun s => decide (gA m 140 s = 1)) 400)) ∧ (∀ j, j < 2000 → gA c 33 j = gA m 141 j) ∧ (∀ s, s < 400 → (-128 ≤ (gA m 141 (5 * s)).toInt ∧ (gA m 141 (5 * s)).toInt ≤ 127) ∧ (-128 ≤ (gA m 141 (5 * s + 1)).toInt ∧ (gA m 141 (5 * s + 1)).toInt ≤ 127) ∧ (0 ≤ (gA m 141 (5 * s + 2)).toInt ∧ (gA m 141 (5 * s + 2)).toInt ≤ 32) ∧ (0 ≤ (gA m 141 (5 * s + 3)).toInt ∧ (gA m 141 (5 * s + 3)).toInt ≤ 32) ∧ (0 ≤ (gA m 141 (5 * s + 4)).toInt ∧ (gA m 141 (5 * s + 4)).toInt ≤ 7200)) ∧ (∀ s, 400 ≤ s → s < 494 → gA c 33 (5 * s) = 0 ∧ gA c 33 (5 * s + 1) = 7 ∧ gA c 33 (5 * s + 2) = 6 ∧ gA c 33 (5 * s + 3) = 8 ∧ gA c 33 (5 * s + 4) = 720) ∧ (∀ s r i : Nat, s < 400 → r < 32 → i < 32 → (r : Int) < (gA m 141 (5 * s + 3)).toInt → (i : Int) < (gA m 141 (5 * s + 2)).toInt → bt (gA c 34 (32 * s + r)) (31 - i) = bt (gA m 142 (32 * s + r)) ((gA m 141 (5 * s + 2)).toInt.toNat - 1 - i)) ∧ (∀ f k, f < 16 → k < 256 → gA m 136 f = 0 → gA m 139 (256 * f + k) = -1) ∧ (∀ j r i : Nat, 33 ≤ j → j ≤ 126 → r < 8 → i < 6 → bt (gA c 34 (32 * (j + 367) + r)) (31 - i) = ((j * j + 7 * j * r + 13 * r * r) / 4).testBit (5 - i))
theorem FT.sh {c m : Mm} (h : FT c m) : SV c m 29 136 137 := h.1
theorem FT.rs {c m : Mm} (h : FT c m) : gA m 136 16 = 1 := h.2.1
theorem FT.nm {c m : Mm} (h : FT c m) : ∀ f k, f < 17 → k < 7 → gA c 30 (7 * f + k) = gA m 138 (7 * f + wpi k) := h.2.2.1
theorem FT.nb {c m : Mm} (h : FT c m) : ∀ j, j < 119 → -2000000 ≤ (gA m 138 j).toInt ∧ (gA m 138 j).toInt ≤ 2000000 := h.2.2.2.1
theorem FT.n0 {c m : Mm} (h : FT c m) : gA m 138 112 = 0 := h.2.2.2.2.1
theorem FT.hp {c m : Mm} (h : FT c m) : ∀ f, f < 17 → 0 ≤ (gA m 138 (7 * f + 1)).toInt ∧ (gA m 138 (7 * f + 1)).toInt ≤ 32000 := h.2.2.2.2.2.1
theorem FT.gl {c m : Mm} (h : FT c m) : ∀ j, j < 4096 → gA c 31 j = gA m 139 j + 1 ∧ (gA m 139 j = -1 ∨ ∃ s, s < 400 ∧ gA m 139 j = nI s ∧ gA m 140 s = 1) := h.2.2.2.2.2.2.1
theorem FT.ij {c m : Mm} (h : FT c m) : ∀ i j, i < 4096 → j < 4096 → gA m 139 i = gA m 139 j → ¬ gA m 139 i = -1 → i = j := h.2.2.2.2.2.2.2.1
theorem FT.gr {c m : Mm} (h : FT c m) : ∀ j, j < 256 → gA c 31 (4096 + j) = (if 33 ≤ j ∧ j ≤ 126 then nI (j + 368) else 0) := h.2.2.2.2.2.2.2.2.1
theorem FT.tk {c m : Mm} (h : FT c m) : ∀ s, s < 400 → ∃ b, gA m 140 s = cI b ∧ gA c 32 s = cI b := h.2.2.2.2.2.2.2.2.2.1
theorem FT.ct {c m : Mm} (h : FT c m) : gI m 1209 133 = nI (cnt (fun s => decide (gA m 140 s = 1)) 400) := h.2.2.2.2.2.2.2.2.2.2.1
theorem FT.hd {c m : Mm} (h : FT c m) : ∀ j, j < 2000 → gA c 33 j = gA m 141 j := h.2.2.2.2.2.2.2.2.2.2.2.1
theorem FT.hb {c m : Mm} (h : FT c m) : ∀ s, s < 400 → (-128 ≤ (gA m 141 (5 * s)).toInt ∧ (gA m 141 (5 * s)).toInt ≤ 127) ∧ (-128 ≤ (gA m 141 (5 * s + 1)).toInt ∧ (gA m 141 (5 * s + 1)).toInt ≤ 127) ∧ (0 ≤ (gA m 141 (5 * s + 2)).toInt ∧ (gA m 141 (5 * s + 2)).toInt ≤ 32) ∧ (0 ≤ (gA m 141 (5 * s + 3)).toInt ∧ (gA m 141 (5 * s + 3)).toInt ≤ 32) ∧ (0 ≤ (gA m 141 (5 * s + 4)).toInt ∧ (gA m 141 (5 * s + 4)).toInt ≤ 7200) := h.2.2.2.2.2.2.2.2.2.2.2.2.1
theorem FT.hr {c m : Mm} (h : FT c m) : ∀ s, 400 ≤ s → s < 494 → gA c 33 (5 * s) = 0 ∧ gA c 33 (5 * s + 1) = 7 ∧ gA c 33 (5 * s + 2) = 6 ∧ gA c 33 (5 * s + 3) = 8 ∧ gA c 33 (5 * s + 4) = 720 := h.2.2.2.2.2.2.2.2.2.2.2.2.2.1
theorem FT.rw {c m : Mm} (h : FT c m) : ∀ s r i : Nat, s < 400 → r < 32 → i < 32 → (r : Int) < (gA m 141 (5 * s + 3)).toInt → (i : Int) < (gA m 141 (5 * s + 2)).toInt → bt (gA c 34 (32 * s + r)) (31 - i) = bt (gA m 142 (32 * s + r)) ((gA m 141 (5 * s + 2)).toInt.toNat - 1 - i) := h.2.2.2.2.2.2.2.2.2.2.2.2.2.2.1
theorem FT.nt {c m : Mm} (h : FT c m) : ∀ f k, f < 16 → k < 256 → gA m 136 f = 0 → gA m 139 (256 * f + k) = -1 := h.2.2.2.2.2.2.2.2.2.2.2.2.2.2.2.1
theorem FT.rr {c m : Mm} (h : FT c m) : ∀ j r i : Nat, 33 ≤ j → j ≤ 126 → r < 8 → i < 6 → bt (gA c 34 (32 * (j + 367) + r)) (31 - i) = ((j * j + 7 * j * r + 13 * r * r) / 4).testBit (5 - i) := h.2.2.2.2.2.2.2.2.2.2.2.2.2.2.2.2
theorem FT_mk {c m : Mm} (sh : SV c m 29 136 137) (rs : gA m 136 16 = 1) (nm : ∀ f k, f < 17 → k < 7 → gA c 30 (7 * f + k) = gA m 138 (7 * f + wpi k)) (nb : ∀ j, j < 119 → -2000000 ≤ (gA m 138 j).toInt ∧ (gA m 138 j).toInt ≤ 2000000) (n0 : gA m 138 112 = 0) (hp : ∀ f, f < 17 → 0 ≤ (gA m 138 (7 * f + 1)).toInt ∧ (gA m 138 (7 * f + 1)).toInt ≤ 32000) (gl : ∀ j, j < 4096 → gA c 31 j = gA m 139 j + 1 ∧ (gA m 139 j = -1 ∨ ∃ s, s < 400 ∧ gA m 139 j = nI s ∧ gA m 140 s = 1)) (ij : ∀ i j, i < 4096 → j < 4096 → gA m 139 i = gA m 139 j → ¬ gA m 139 i = -1 → i = j) (gr : ∀ j, j < 256 → gA c 31 (4096 + j) = (if 33 ≤ j ∧ j ≤ 126 then nI (j + 368) else 0)) (tk : ∀ s, s < 400 → ∃ b, gA m 140 s = cI b ∧ gA c 32 s = cI b) (ct : gI m 1209 133 = nI (cnt (fun s => decide (gA m 140 s = 1)) 400)) (hd : ∀ j, j < 2000 → gA c 33 j = gA m 141 j) (hb : ∀ s, s < 400 → (-128 ≤ (gA m 141 (5 * s)).toInt ∧ (gA m 141 (5 * s)).toInt ≤ 127) ∧ (-128 ≤ (gA m 141 (5 * s + 1)).toInt ∧ (gA m 141 (5 * s + 1)).toInt ≤ 127) ∧ (0 ≤ (gA m 141 (5 * s + 2)).toInt ∧ (gA m 141 (5 * s + 2)).toInt ≤ 32) ∧ (0 ≤ (gA m 141 (5 * s + 3)).toInt ∧ (gA m 141 (5 * s + 3)).toInt ≤ 32) ∧ (0 ≤ (gA m 141 (5 * s + 4)).toInt ∧ (gA m 141 (5 * s + 4)).toInt ≤ 7200)) (hr : ∀ s, 400 ≤ s → s < 494 → gA c 33 (5 * s) = 0 ∧ gA c 33 (5 * s + 1) = 7 ∧ gA c 33 (5 * s + 2) = 6 ∧ gA c 33 (5 * s + 3) = 8 ∧ gA c 33 (5 * s + 4) = 720) (rw : ∀ s r i : Nat, s < 400 → r < 32 → i < 32 → (r : Int) < (gA m 141 (5 * s + 3)).toInt → (i : Int) < (gA m 141 (5 * s + 2)).toInt → bt (gA c 34 (32 * s + r)) (31 - i) = bt (gA m 142 (32 * s + r)) ((gA m 141 (5 * s + 2)).toInt.toNat - 1 - i)) (nt : ∀ f k, f < 16 → k < 256 → gA m 136 f = 0 → gA m 139 (256 * f + k) = -1) (rr : ∀ j r i : Nat, 33 ≤ j → j ≤ 126 → r < 8 → i < 6 → bt (gA c 34 (32 * (j + 367) + r)) (31 - i) = ((j * j + 7 * j * r + 13 * r * r) / 4).testBit (5 - i)) : FT c m := ⟨sh, rs, nm, nb, n0, hp, gl, ij, gr, tk, ct, hd, hb, hr, rw, nt, rr⟩
/-- the numbers of a kept pattern -/
def ur (m : Mm) (u k : Nat) : Int32 := if k = 0 then 4 else if k = 1 then nI u else if k = 2 then gA m 145 u else if k = 3 then gA m 146 u else gA m 147 (16 * u + (k - 4))
def TL (c m : Mm) : Prop := (SV c m 37 143 144) ∧ (∀ u, u < 16 → gA m 143 u = 1 → TR c (66 + 2 * u) (ur m u))
theorem TL.s {c m : Mm} (h : TL c m) : SV c m 37 143 144 := h.1
theorem TL.t {c m : Mm} (h : TL c m) : ∀ u, u < 16 → gA m 143 u = 1 → TR c (66 + 2 * u) (ur m u) := h.2
theorem TL_mk {c m : Mm} (s : SV c m 37 143 144) (t : ∀ u, u < 16 → gA m 143 u = 1 → TR c (66 + 2 * u) (ur m u)) : TL c m := ⟨s, t⟩
def MCq (c m : Mm) : Prop := (SV c m 42 148 149) ∧ (∀ u, u < 16 → ∃ n, n ≤ 1500 ∧ gA c 44 u = nI n ∧ gA m 150 u = nI n ∧ (gA m 148 u = 1 → ∀ j, j < n → gA c 43 (1500 * u + j) = gA m 151 (1500 * u + j))) ∧ (∀ j, byt (gA m 151 j) ∧ byt (gA c 43 j))
theorem MCq.s {c m : Mm} (h : MCq c m) : SV c m 42 148 149 := h.1
theorem MCq.z {c m : Mm} (h : MCq c m) : ∀ u, u < 16 → ∃ n, n ≤ 1500 ∧ gA c 44 u = nI n ∧ gA m 150 u = nI n ∧ (gA m 148 u = 1 → ∀ j, j < n → gA c 43 (1500 * u + j) = gA m 151 (1500 * u + j)) := h.2.1
theorem MCq.b {c m : Mm} (h : MCq c m) : ∀ j, byt (gA m 151 j) ∧ byt (gA c 43 j) := h.2.2
theorem MCq_mk {c m : Mm} (s : SV c m 42 148 149) (z : ∀ u, u < 16 → ∃ n, n ≤ 1500 ∧ gA c 44 u = nI n ∧ gA m 150 u = nI n ∧ (gA m 148 u = 1 → ∀ j, j < n → gA c 43 (1500 * u + j) = gA m 151 (1500 * u + j))) (b : ∀ j, byt (gA m 151 j) ∧ byt (gA c 43 j)) : MCq c m := ⟨s, z, b⟩
/-! what streams leave as it is -/
def skF (d : Nat) (ov : Bool) (f i : Nat) : Bool := (i == 23 && f == 916) || i == 24 || i == 5 || i == 27 || i == 39 || (decide (45 ≤ i) && decide (i ≤ 53)) || (!ov && decide (54 ≤ i) && decide (i ≤ 62)) || (decide (66 ≤ i) && decide (i ≤ 97)) || (decide (107 + 9 * d ≤ i) && decide (i < 125)) || (decide (125 + d < i) && decide (i ≤ 128))
def skA (d : Nat) (ov : Bool) (a : Nat) : Bool := a == 6 || a == 7 || a == 8 || (decide (10 ≤ a) && decide (a ≤ 22)) || a == 25 || a == 26 || (decide (29 ≤ a) && decide (a ≤ 35)) || a == 37 || a == 40 || a == 42 || (decide (d = 0) && a == 43) || a == 44 || (decide (45 ≤ a) && decide (a ≤ 53)) || (!ov && decide (54 ≤ a) && decide (a ≤ 62)) || (decide (66 ≤ a) && decide (a ≤ 97)) || (decide (107 + 9 * d ≤ a) && decide (a < 125))
def mkF (f i : Nat) : Bool := i == 133 && (f == 1209 || f == 1227 || f == 1232 || f == 1233 || f == 1235 || f == 1236 || f == 1240 || f == 1242 || f == 1249 || (decide (1251 ≤ f) && decide (f ≤ 1255)) || (decide (1260 ≤ f) && decide (f ≤ 1266)))
def mkA (a : Nat) : Bool := (decide (134 ≤ a) && decide (a ≤ 151)) || a == 156 || a == 157 || (decide (158 ≤ a) && decide (a ≤ 161)) || a == 163 || a == 164 || a == 167 || a == 168
def KP (d : Nat) (ov : Bool) (c m c' m' : Mm) : Prop := (Fr (skF d ov) (skA d ov) c c') ∧ (Fr mkF mkA m m') ∧ (∀ j, j < 192 * d + 192 → gA m' 135 j = gA m 135 j) ∧ (ov = true → ∀ j, 768 ≤ j → gA m' 135 j = gA m 135 j) ∧ (∀ j, j < 1500 * d → gA m' 156 j = gA m 156 j) ∧ ((gI m' 1252 133 = gI m 1252 133 ∨ gI m' 1252 133 = 0) ∧ gI m' 1227 133 = gI m 1227 133)
theorem KP.fc {d : Nat} {ov : Bool} {c m c' m' : Mm} (h : KP d ov c m c' m') : Fr (skF d ov) (skA d ov) c c' := h.1
theorem KP.fm {d : Nat} {ov : Bool} {c m c' m' : Mm} (h : KP d ov c m c' m') : Fr mkF mkA m m' := h.2.1
theorem KP.p1 {d : Nat} {ov : Bool} {c m c' m' : Mm} (h : KP d ov c m c' m') : ∀ j, j < 192 * d + 192 → gA m' 135 j = gA m 135 j := h.2.2.1
theorem KP.p2 {d : Nat} {ov : Bool} {c m c' m' : Mm} (h : KP d ov c m c' m') : ov = true → ∀ j, 768 ≤ j → gA m' 135 j = gA m 135 j := h.2.2.2.1
theorem KP.p3 {d : Nat} {ov : Bool} {c m c' m' : Mm} (h : KP d ov c m c' m') : ∀ j, j < 1500 * d → gA m' 156 j = gA m 156 j := h.2.2.2.2.1
theorem KP.p4 {d : Nat} {ov : Bool} {c m c' m' : Mm} (h : KP d ov c m c' m') : (gI m' 1252 133 = gI m 1252 133 ∨ gI m' 1252 133 = 0) ∧ gI m' 1227 133 = gI m 1227 133 := h.2.2.2.2.2
theorem KP_mk {d : Nat} {ov : Bool} {c m c' m' : Mm} (fc : Fr (skF d ov) (skA d ov) c c') (fm : Fr mkF mkA m m') (p1 : ∀ j, j < 192 * d + 192 → gA m' 135 j = gA m 135 j) (p2 : ov = true → ∀ j, 768 ≤ j → gA m' 135 j = gA m 135 j) (p3 : ∀ j, j < 1500 * d → gA m' 156 j = gA m 156 j) (p4 : (gI m' 1252 133 = gI m 1252 133 ∨ gI m' 1252 133 = 0) ∧ gI m' 1227 133 = gI m 1227 133) : KP d ov c m c' m' := ⟨fc, fm, p1, p2, p3, p4⟩
def eF (_ i : Nat) : Bool := decide (45 ≤ i) && decide (i ≤ 53)
def eA (a : Nat) : Bool := decide (45 ≤ a) && decide (a ≤ 53)
def meA (a : Nat) : Bool := a == 134
def nF (_ _ : Nat) : Bool := false
/-! dropping what is temporary, on both sides -/
def cNS (f i : Nat) : Bool := (i == 27 && (f == 208 || f == 209)) || (i != 27 && !(decide (66 ≤ i) && decide (i ≤ 97)))
def cNA (a : Nat) : Bool := !((decide (29 ≤ a) && decide (a ≤ 34)) || a == 37 || a == 42 || a == 43 || a == 44 || (decide (66 ≤ a) && decide (a ≤ 97)))
def mNS (f i : Nat) : Bool := !(i == 133 && f == 1209)
def mNA (a : Nat) : Bool := !(decide (136 ≤ a) && decide (a ≤ 151))
def cDr (_ i : Nat) : Bool := i == 27
def cDA (a : Nat) : Bool := (decide (29 ≤ a) && decide (a ≤ 35)) || a == 37 || a == 42
def mDr (f i : Nat) : Bool := i == 133 && f == 1209
def mDA (a : Nat) : Bool := a == 136 || a == 139 || a == 140 || a == 143 || a == 148
def NT (c : Mm) : Prop := ∀ u, u < 16 → ¬ gA c 29 u = 1 ∧ ¬ gA c 37 u = 1 ∧ ¬ gA c 42 u = 1
def SHt (c m : Mm) : Prop := ∀ c' m', Fr cNS cNA c c' → Fr mNS mNA m m' → KA c' → P2 (f_X9_dropTemporary c') (f_X12_temporaryGo m') (fun _ c2 _ m2 => FT c2 m2 ∧ KA c2 ∧ TL c2 m2 ∧ MCq c2 m2 ∧ NT c2 ∧ Fr cDr cDA c' c2 ∧ Fr mDr mDA m' m2)
/-! the state of streams, as long as there is not much, and when there is -/
def RR (d : Nat) (ov : Bool) (c m : Mm) : Prop := (EVq c 45 (gA m 134)) ∧ (EB (gA m 134)) ∧ (gI c 914 23 = nI d) ∧ (gI m 1229 133 = nI d) ∧ (d ≤ 3) ∧ (gI c 915 23 = cI ov) ∧ (gI m 1231 133 = cI ov) ∧ (gI m 1230 133 = cI (decide (0 < d))) ∧ (∃ q, gI c 916 23 = nI q ∧ gI m 1232 133 = nI q ∧ q ≤ 60000) ∧ (∃ k v, CV c m (gA m 134) k v) ∧ (Sh c m) ∧ (Tab m) ∧ (FT c m) ∧ (KA c) ∧ (TL c m) ∧ (MCq c m) ∧ (gR c 913 23 = some (125 + d)) ∧ (gR m 1226 133 = some 152 ∨ gR m 1226 133 = some 156)
theorem RR.ev {d : Nat} {ov : Bool} {c m : Mm} (h : RR d ov c m) : EVq c 45 (gA m 134) := h.1
theorem RR.eb {d : Nat} {ov : Bool} {c m : Mm} (h : RR d ov c m) : EB (gA m 134) := h.2.1
theorem RR.d1 {d : Nat} {ov : Bool} {c m : Mm} (h : RR d ov c m) : gI c 914 23 = nI d := h.2.2.1
theorem RR.d2 {d : Nat} {ov : Bool} {c m : Mm} (h : RR d ov c m) : gI m 1229 133 = nI d := h.2.2.2.1
theorem RR.d3 {d : Nat} {ov : Bool} {c m : Mm} (h : RR d ov c m) : d ≤ 3 := h.2.2.2.2.1
theorem RR.o1 {d : Nat} {ov : Bool} {c m : Mm} (h : RR d ov c m) : gI c 915 23 = cI ov := h.2.2.2.2.2.1
theorem RR.o2 {d : Nat} {ov : Bool} {c m : Mm} (h : RR d ov c m) : gI m 1231 133 = cI ov := h.2.2.2.2.2.2.1
theorem RR.im {d : Nat} {ov : Bool} {c m : Mm} (h : RR d ov c m) : gI m 1230 133 = cI (decide (0 < d)) := h.2.2.2.2.2.2.2.1
theorem RR.gn {d : Nat} {ov : Bool} {c m : Mm} (h : RR d ov c m) : ∃ q, gI c 916 23 = nI q ∧ gI m 1232 133 = nI q ∧ q ≤ 60000 := h.2.2.2.2.2.2.2.2.1
theorem RR.cv {d : Nat} {ov : Bool} {c m : Mm} (h : RR d ov c m) : ∃ k v, CV c m (gA m 134) k v := h.2.2.2.2.2.2.2.2.2.1
theorem RR.sh {d : Nat} {ov : Bool} {c m : Mm} (h : RR d ov c m) : Sh c m := h.2.2.2.2.2.2.2.2.2.2.1
theorem RR.tb {d : Nat} {ov : Bool} {c m : Mm} (h : RR d ov c m) : Tab m := h.2.2.2.2.2.2.2.2.2.2.2.1
theorem RR.ft {d : Nat} {ov : Bool} {c m : Mm} (h : RR d ov c m) : FT c m := h.2.2.2.2.2.2.2.2.2.2.2.2.1
theorem RR.ka {d : Nat} {ov : Bool} {c m : Mm} (h : RR d ov c m) : KA c := h.2.2.2.2.2.2.2.2.2.2.2.2.2.1
theorem RR.tl {d : Nat} {ov : Bool} {c m : Mm} (h : RR d ov c m) : TL c m := h.2.2.2.2.2.2.2.2.2.2.2.2.2.2.1
theorem RR.mc {d : Nat} {ov : Bool} {c m : Mm} (h : RR d ov c m) : MCq c m := h.2.2.2.2.2.2.2.2.2.2.2.2.2.2.2.1
theorem RR.rd {d : Nat} {ov : Bool} {c m : Mm} (h : RR d ov c m) : gR c 913 23 = some (125 + d) := h.2.2.2.2.2.2.2.2.2.2.2.2.2.2.2.2.1
theorem RR.sc {d : Nat} {ov : Bool} {c m : Mm} (h : RR d ov c m) : gR m 1226 133 = some 152 ∨ gR m 1226 133 = some 156 := h.2.2.2.2.2.2.2.2.2.2.2.2.2.2.2.2.2
theorem RR_mk {d : Nat} {ov : Bool} {c m : Mm} (ev : EVq c 45 (gA m 134)) (eb : EB (gA m 134)) (d1 : gI c 914 23 = nI d) (d2 : gI m 1229 133 = nI d) (d3 : d ≤ 3) (o1 : gI c 915 23 = cI ov) (o2 : gI m 1231 133 = cI ov) (im : gI m 1230 133 = cI (decide (0 < d))) (gn : ∃ q, gI c 916 23 = nI q ∧ gI m 1232 133 = nI q ∧ q ≤ 60000) (cv : ∃ k v, CV c m (gA m 134) k v) (sh : Sh c m) (tb : Tab m) (ft : FT c m) (ka : KA c) (tl : TL c m) (mc : MCq c m) (rd : gR c 913 23 = some (125 + d)) (sc : gR m 1226 133 = some 152 ∨ gR m 1226 133 = some 156) : RR d ov c m := ⟨ev, eb, d1, d2, d3, o1, o2, im, gn, cv, sh, tb, ft, ka, tl, mc, rd, sc⟩
/-- what the class's fonts are in themselves -/
def FCs (c : Mm) : Prop := (∀ j, j < 119 → -2000000 ≤ (gA c 30 j).toInt ∧ (gA c 30 j).toInt ≤ 2000000) ∧ (∀ f, f < 17 → 0 ≤ (gA c 30 (7 * f + 2)).toInt ∧ (gA c 30 (7 * f + 2)).toInt ≤ 32000) ∧ (∀ j, j < 4352 → ∃ s, s ≤ 494 ∧ gA c 31 j = nI s) ∧ (∀ s, s < 494 → 0 ≤ (gA c 33 (5 * s + 4)).toInt ∧ (gA c 33 (5 * s + 4)).toInt ≤ 7200)
def WC (d : Nat) (ov : Bool) (c : Mm) : Prop := (f_X9_isMuch c = some (1, c)) ∧ (∃ g, EVq c 45 g ∧ EB g) ∧ (gI c 914 23 = nI d) ∧ (d ≤ 3) ∧ (gI c 915 23 = cI ov) ∧ (KA c) ∧ (gR c 913 23 = some (125 + d)) ∧ (FCs c)
theorem WC.mu {d : Nat} {ov : Bool} {c : Mm} (h : WC d ov c) : f_X9_isMuch c = some (1, c) := h.1
theorem WC.ev {d : Nat} {ov : Bool} {c : Mm} (h : WC d ov c) : ∃ g, EVq c 45 g ∧ EB g := h.2.1
theorem WC.d1 {d : Nat} {ov : Bool} {c : Mm} (h : WC d ov c) : gI c 914 23 = nI d := h.2.2.1
theorem WC.d3 {d : Nat} {ov : Bool} {c : Mm} (h : WC d ov c) : d ≤ 3 := h.2.2.2.1
theorem WC.o1 {d : Nat} {ov : Bool} {c : Mm} (h : WC d ov c) : gI c 915 23 = cI ov := h.2.2.2.2.1
theorem WC.ka {d : Nat} {ov : Bool} {c : Mm} (h : WC d ov c) : KA c := h.2.2.2.2.2.1
theorem WC.rd {d : Nat} {ov : Bool} {c : Mm} (h : WC d ov c) : gR c 913 23 = some (125 + d) := h.2.2.2.2.2.2.1
theorem WC.fk {d : Nat} {ov : Bool} {c : Mm} (h : WC d ov c) : FCs c := h.2.2.2.2.2.2.2
theorem WC_mk {d : Nat} {ov : Bool} {c : Mm} (mu : f_X9_isMuch c = some (1, c)) (ev : ∃ g, EVq c 45 g ∧ EB g) (d1 : gI c 914 23 = nI d) (d3 : d ≤ 3) (o1 : gI c 915 23 = cI ov) (ka : KA c) (rd : gR c 913 23 = some (125 + d)) (fk : FCs c) : WC d ov c := ⟨mu, ev, d1, d3, o1, ka, rd, fk⟩
def MU (d : Nat) (ov : Bool) (c m : Mm) : Prop := (WC d ov c) ∧ (gI m 1233 133 = 1) ∧ (SHt c m)
theorem MU.wc {d : Nat} {ov : Bool} {c m : Mm} (h : MU d ov c m) : WC d ov c := h.1
theorem MU.m1 {d : Nat} {ov : Bool} {c m : Mm} (h : MU d ov c m) : gI m 1233 133 = 1 := h.2.1
theorem MU.st {d : Nat} {ov : Bool} {c m : Mm} (h : MU d ov c m) : SHt c m := h.2.2
theorem MU_mk {d : Nat} {ov : Bool} {c m : Mm} (wc : WC d ov c) (m1 : gI m 1233 133 = 1) (st : SHt c m) : MU d ov c m := ⟨wc, m1, st⟩
def OUT (d : Nat) (ov : Bool) (c m c' m' : Mm) : Prop := (RR d ov c' m' ∨ MU d ov c' m') ∧ KP d ov c m c' m'
section A1
variable {c c' c2 m m' m2 : Mm} {d : Nat} {ov : Bool} {PF QF : Nat → Nat → Bool} {PA QA : Nat → Bool}
theorem SV.fr {o p q : Nat} (h : SV c m o p q) (fc : Fr PF PA c c') (fm : Fr QF QA m m') (e1 : PA o = false) (e2 : QA p = false) (e3 : QA q = false) : SV c' m' o p q := by
  unfold SV
  rw [fc.a e1, fm.a e2, fm.a e3]; exact h
theorem FT.fr (h : FT c m) (fc : Fr PF PA c c') (fm : Fr QF QA m m') (e1 : PA 29 = false ∧ PA 30 = false ∧ PA 31 = false ∧ PA 32 = false ∧ PA 33 = false ∧ PA 34 = false) (e2 : QA 136 = false ∧ QA 137 = false ∧ QA 138 = false ∧ QA 139 = false ∧ QA 140 = false ∧ QA 141 = false ∧ QA 142 = false) (e3 : QF 1209 133 = false) : FT c' m' := by
  obtain ⟨a1, a2, a3, a4, a5, a6⟩ := e1
  obtain ⟨b1, b2, b3, b4, b5, b6, b7⟩ := e2
  refine FT_mk (h.sh.fr fc fm a1 b1 b2) ?_ ?_ ?_ ?_ ?_ ?_ ?_ ?_ ?_ ?_ ?_ ?_ ?_ ?_ ?_ ?_
  · rw [fm.a b1]; exact h.rs
  · rw [fc.a a2, fm.a b3]; exact h.nm
  · rw [fm.a b3]; exact h.nb
  · rw [fm.a b3]; exact h.n0
  · rw [fm.a b3]; exact h.hp
  · rw [fc.a a3, fm.a b4, fm.a b5]; exact h.gl
  · rw [fm.a b4]; exact h.ij
  · rw [fc.a a3]; exact h.gr
  · rw [fc.a a4, fm.a b5]; exact h.tk
  · rw [fm.a b5, fm.i e3]; exact h.ct
  · rw [fc.a a5, fm.a b6]; exact h.hd
  · rw [fm.a b6]; exact h.hb
  · rw [fc.a a5]; exact h.hr
  · rw [fc.a a6, fm.a b6, fm.a b7]; exact h.rw
  · rw [fm.a b1, fm.a b4]; exact h.nt
  · rw [fc.a a6]; exact h.rr
theorem KA.fr (h : KA c) (fc : Fr PF PA c c') (e1 : PF 208 27 = false ∧ PF 209 27 = false) (e2 : PA 29 = false ∧ PA 30 = false ∧ PA 35 = false) : KA c' := by
  have t1 : thC c' = thC c := by unfold thC; rw [fc.a e2.1]
  have t2 : nmC c' = nmC c := by unfold nmC; rw [fc.a e2.2.1]
  refine KA_mk ?_ ?_
  · rw [fc.i e1.2]; exact h.b
  · rw [fc.i e1.2, fc.i e1.1, t1, t2, fc.a e2.2.2]; exact h.v
theorem TL.fr (h : TL c m) (fc : Fr PF PA c c') (fm : Fr QF QA m m') (e1 : PA 37 = false) (e2 : QA 143 = false ∧ QA 144 = false ∧ QA 145 = false ∧ QA 146 = false ∧ QA 147 = false) (e3 : ∀ f i, 66 ≤ i → i ≤ 97 → PF f i = false) (e4 : ∀ i, 66 ≤ i → i ≤ 97 → PA i = false) : TL c' m' := by
  have eu : ∀ u, ur m' u = ur m u := fun u => by unfold ur; rw [fm.a e2.2.2.1, fm.a e2.2.2.2.1, fm.a e2.2.2.2.2]
  refine TL_mk (h.s.fr fc fm e1 e2.1 e2.2.1) (fun u hu h1 => ?_)
  rw [fm.a e2.1] at h1
  rw [eu]
  exact (h.t u hu h1).fr (fc.i (e3 _ _ (by omega) (by omega))) (fc.i (e3 _ _ (by omega) (by omega))) (fc.i (e3 _ _ (by omega) (by omega))) (fc.b (e4 _ (by omega) (by omega)))
theorem MCq.fr (h : MCq c m) (fc : Fr PF PA c c') (fm : Fr QF QA m m') (e1 : PA 42 = false ∧ PA 43 = false ∧ PA 44 = false) (e2 : QA 148 = false ∧ QA 149 = false ∧ QA 150 = false ∧ QA 151 = false) : MCq c' m' := by
  refine MCq_mk (h.s.fr fc fm e1.1 e2.1 e2.2.1) ?_ ?_
  · rw [fc.a e1.2.1, fc.a e1.2.2, fm.a e2.1, fm.a e2.2.2.1, fm.a e2.2.2.2]; exact h.z
  · rw [fm.a e2.2.2.2, fc.a e1.2.1]; exact h.b
theorem CV.fr {g g' : Nat → Int32} {k v : Nat} (h : CV c m g k v) (fc : Fr PF PA c c') (fm : Fr QF QA m m') (e0 : g' 0 = g 0) (e1 : g' 1 = g 1) (k1 : PF 2 24 = false ∧ PF 4 24 = false ∧ PF 5 24 = false) (k2 : QF 1235 133 = false ∧ QF 1249 133 = false) (k3 : PA 25 = false) (k4 : QA 157 = false) : CV c' m' g' k v := by
  have p : pbit m' = pbit m := by unfold pbit; rw [fm.a k4]
  have x1 : phX g' = phX g := by unfold phX; rw [e1]
  have x2 : phY g' = phY g := by unfold phY; rw [e0, e1]
  refine CV_mk ?_ ?_ h.k3 ?_ ?_ h.v3 ?_ ?_ ?_
  · rw [fc.i k1.1]; exact h.k1
  · rw [fm.i k2.1]; exact h.k2
  · rw [fc.i k1.2.1]; exact h.v1
  · rw [fm.j k2.2]; exact h.v2
  · rw [fc.i k1.2.2]; exact h.u
  · rw [fc.a k3, p, x1, x2, lgW_eq e0 e1, lgH_eq e0 e1]; exact h.d
  · rw [p]; exact h.z
theorem FCs.fr (h : FCs c) (fc : Fr PF PA c c') (e : PA 30 = false ∧ PA 31 = false ∧ PA 33 = false) : FCs c' := by
  unfold FCs
  rw [fc.a e.1, fc.a e.2.1, fc.a e.2.2]; exact h
theorem FT.fcs (h : FT c m) : FCs c := by
  refine ⟨fun j hj => ?_, fun f hf => ?_, fun j hj => ?_, fun s hs => ?_⟩
  · have hw : ∀ k, k < 7 → wpi k < 7 := by decide
    have e := h.nm (j / 7) (j % 7) (by omega) (by omega)
    rw [show 7 * (j / 7) + j % 7 = j by omega] at e
    rw [e]
    exact h.nb _ (by have := hw (j % 7) (by omega); omega)
  · rw [h.nm f 2 hf (by omega)]; exact h.hp f hf
  · by_cases q : j < 4096
    · obtain ⟨e1, e2⟩ := h.gl j q
      rcases e2 with e2 | ⟨s, s1, s2, _⟩
      · exact ⟨0, by omega, by rw [e1, e2]; decide⟩
      · exact ⟨s + 1, by omega, by rw [e1, s2]; exact nI_add s 1⟩
    · have e := h.gr (j - 4096) (by omega)
      rw [show 4096 + (j - 4096) = j by omega] at e
      by_cases q2 : 33 ≤ j - 4096 ∧ j - 4096 ≤ 126
      · exact ⟨j - 4096 + 368, by omega, by rw [e, if_pos q2]⟩
      · exact ⟨0, by omega, by rw [e, if_neg q2]; rfl⟩
  · by_cases q : s < 400
    · rw [h.hd _ (by omega)]; exact (h.hb s q).2.2.2.2
    · rw [(h.hr s (by omega) hs).2.2.2.2]; decide
theorem SHt.fr (h : SHt c m) (fc : Fr cNS cNA c c') (fm : Fr mNS mNA m m') : SHt c' m' := fun c2 m2 f1 f2 k => P2_mono (h c2 m2 (fc.trans f1) (fm.trans f2) k) (fun _ _ _ _ q => q)
theorem eF_o {f i : Nat} (h : i < 45 ∨ 53 < i) : eF f i = false := by unfold eF; simp; omega
theorem eA_o {i : Nat} (h : i < 45 ∨ 53 < i) : eA i = false := by unfold eA; simp; omega
theorem RR.env (h : RR d ov c m) (fc : Fr eF eA c c') (fm : Fr nF meA m m') (ev : EVq c' 45 (gA m' 134)) (eb : EB (gA m' 134)) (e0 : gA m' 134 0 = gA m 134 0) (e1 : gA m' 134 1 = gA m 134 1) : RR d ov c' m' := by
  obtain ⟨q, q1, q2, q3⟩ := h.gn
  obtain ⟨k, v, hcv⟩ := h.cv
  obtain ⟨p, hp1, hp2⟩ : ∃ p, gI c 602 5 = nI p ∧ p ≤ 12 := by
    obtain ⟨s, p, _, z1, _, z3, _⟩ := h.sh
    exact ⟨p, z1, z3⟩
  exact RR_mk ev eb (by rw [fc.i (by rfl)]; exact h.d1) (by rw [fm.i (by rfl)]; exact h.d2) h.d3 (by rw [fc.i (by rfl)]; exact h.o1) (by rw [fm.i (by rfl)]; exact h.o2) (by rw [fm.i (by rfl)]; exact h.im) ⟨q, by rw [fc.i (by rfl)]; exact q1, by rw [fm.i (by rfl)]; exact q2, q3⟩
    ⟨k, v, hcv.fr fc fm e0 e1 ⟨rfl, rfl, rfl⟩ ⟨rfl, rfl⟩ rfl rfl⟩ (h.sh.fr hp1 hp2 fc fm (fun _ => rfl) ⟨rfl, rfl, rfl, fun i hi => eA_o (by omega)⟩ ⟨rfl, rfl, rfl, rfl⟩ ⟨rfl, rfl, rfl, rfl⟩) (h.tb.fr fm rfl rfl) (h.ft.fr fc fm ⟨rfl, rfl, rfl, rfl, rfl, rfl⟩ ⟨rfl, rfl, rfl, rfl, rfl, rfl, rfl⟩ rfl)
    (h.ka.fr fc ⟨rfl, rfl⟩ ⟨rfl, rfl, rfl⟩) (h.tl.fr fc fm rfl ⟨rfl, rfl, rfl, rfl, rfl⟩ (fun f i a b => eF_o (by omega)) (fun i a b => eA_o (by omega))) (h.mc.fr fc fm ⟨rfl, rfl, rfl⟩ ⟨rfl, rfl, rfl, rfl⟩) (by rw [fc.r (by rfl)]; exact h.rd) (by rw [fm.r (by rfl)]; exact h.sc)
theorem KP.refl : KP d ov c m c m := KP_mk Fr.refl Fr.refl (fun _ _ => rfl) (fun _ _ _ => rfl) (fun _ _ => rfl) ⟨Or.inl rfl, rfl⟩
theorem KP.trans (h : KP d ov c m c' m') (h2 : KP d ov c' m' c2 m2) : KP d ov c m c2 m2 := KP_mk (h.fc.trans h2.fc) (h.fm.trans h2.fm) (fun j hj => (h2.p1 j hj).trans (h.p1 j hj)) (fun e j hj => (h2.p2 e j hj).trans (h.p2 e j hj)) (fun j hj => (h2.p3 j hj).trans (h.p3 j hj)) ⟨by
  rcases h2.p4.1 with e | e
  · rcases h.p4.1 with e2 | e2
    · exact Or.inl (e.trans e2)
    · exact Or.inr (e.trans e2)
  · exact Or.inr e, h2.p4.2.trans h.p4.2⟩
theorem KP.of (fc : Fr PF PA c c') (fm : Fr QF QA m m') (e1 : ∀ f i, PF f i = true → skF d ov f i = true) (e2 : ∀ a, PA a = true → skA d ov a = true) (e3 : ∀ f i, QF f i = true → mkF f i = true ∧ f ≠ 1252) (e4 : ∀ a, QA a = true → mkA a = true ∧ a ≠ 135 ∧ a ≠ 156) (e27 : QF 1227 133 = false := by rfl) : KP d ov c m c' m' := by
  have e35 : QA 135 = false := by
    by_cases z : QA 135 = true
    · exact absurd rfl (e4 _ z).2.1
    · simpa using z
  have e56 : QA 156 = false := by
    by_cases z : QA 156 = true
    · exact absurd rfl (e4 _ z).2.2
    · simpa using z
  have e52 : QF 1252 133 = false := by
    by_cases z : QF 1252 133 = true
    · exact absurd rfl (e3 _ _ z).2
    · simpa using z
  refine KP_mk (fc.weak (fun f i z => ?_) (fun a z => ?_)) (fm.weak (fun f i z => ?_) (fun a z => ?_)) (fun j _ => by rw [fm.a e35]) (fun _ j _ => by rw [fm.a e35]) (fun j _ => by rw [fm.a e56]) ⟨Or.inl (fm.i e52), fm.i e27⟩
  · by_cases y : PF f i = true
    · rw [e1 f i y] at z; cases z
    · simpa using y
  · by_cases y : PA a = true
    · rw [e2 a y] at z; cases z
    · simpa using y
  · by_cases y : QF f i = true
    · rw [(e3 f i y).1] at z; cases z
    · simpa using y
  · by_cases y : QA a = true
    · rw [(e4 a y).1] at z; cases z
    · simpa using y
theorem KP.env (fc : Fr eF eA c c') (fm : Fr nF meA m m') : KP d ov c m c' m' := KP.of fc fm (fun f i h => by unfold eF at h; unfold skF; rw [h]; simp) (fun a h => by unfold eA at h; unfold skA; rw [h]; simp) (fun _ _ h => by cases h) (fun a h => by
  have : a = 134 := by simpa [meA] using h
  subst this; exact ⟨rfl, by decide, by decide⟩)
end A1
