abbrev MS : Type := (Nat → Int32) × (Nat → Int32) × (Nat → Int32) × (Nat → Int32) × (Nat → Int32) × (Nat → Int32) × (Nat → Int32) × (Nat → Int64) × (Nat → Int64) × (Nat → Int32) × (Nat → Int32) × (Nat → Int64) × (Nat → Int64) × (Nat → Int64) × (Nat → Int32) × (Nat → Int32) × (Nat → Int32) × (Nat → Int32)
def rds (se ya ma yb mb : Nat → Int32) (za zb : Nat → Int64) (key : Int32) : Nat → Int64
  | 0 => 0
  | i + 1 => if se i < 2 then rds se ya ma yb mb za zb key i else (if yb i ≠ 0 ∧ mb i = key then zb i else if ya i ≠ 0 ∧ ma i = key then za i else rds se ya ma yb mb za zb key i)
def trn (ig : Nat → Int32) (wk : Nat) : Nat → Nat → Nat → Option Nat
  | 0, _, _ => none
  | n + 1, w, j => if w < wk then (if ig w = 0 then (if j = 0 then some w else trn ig wk n (w + 1) (j - 1)) else trn ig wk n (w + 1) j) else none
def cntN (ig : Nat → Int32) : Nat → Nat
  | 0 => 0
  | w + 1 => cntN ig w + (if ig w = 0 then 1 else 0)
def uwC (se : Nat → Int32) (en : Nat) : Nat → Nat → Int32 → Int32
  | 0, _, r => r
  | n + 1, k, r => if k < en then uwC se en n (k + 1) (r + (if se k = 1 then 1 else 0)) else r
def cpyTo (am : Nat → Int64) (b k : Nat) : Nat → Int64 := fun j => if b + 8 ≤ j ∧ j < b + 8 + k then am (j - 8) else am j
theorem cpy_0 (am : Nat → Int64) (b : Nat) : cpyTo am b 0 = am := by
  funext j
  unfold cpyTo
  rw [if_neg (by omega)]
theorem cpy_s (am : Nat → Int64) (b k : Nat) (hk : k < 8) : vp_updL (cpyTo am b k) (b + 8 + k) (cpyTo am b k (b + k)) = cpyTo am b (k + 1) := by
  funext j
  unfold vp_updL cpyTo
  by_cases h : j = b + 8 + k
  · subst h
    rw [if_pos rfl, if_neg (by omega), if_pos (by omega)]
    congr 1
    omega
  · rw [if_neg h]
    by_cases h2 : b + 8 ≤ j ∧ j < b + 8 + k
    · rw [if_pos h2, if_pos (by omega)]
    · rw [if_neg h2, if_neg (by omega)]
def rTake (ma mb mg : Nat → Int32) (w k : Nat) (tick : Int32) : MS → MS
  | (td, se, nb, nf, nk, nw, nv, xa, xb, ya, yb, za, zb, am, cf, sf, bf, ig) =>
    if bf w + 1 = mg w then (upd (upd td 2 (td 2 + 1)) 4 ((upd td 2 (td 2 + 1)) 4 + 1), se, upd nb k (nb k + 1), upd nf k (if nf k = 0 then tick else nf k), nk, nw, nv, xa, xb, ya, yb, za, zb, am, cf, sf, upd bf w (bf w + 1), upd ig w 1)
    else (upd td 2 (td 2 + 1), upd se k 1, upd nb k (nb k + 1), upd nf k (if nf k = 0 then tick else nf k), nk, nw, nv, vp_updL xa k (rds (upd se k 1) ya ma yb mb za zb (ma k) k), vp_updL xb k (rds (upd se k 1) ya ma yb mb za zb (mb k) k), ya, yb, za, zb, am, upd cf w (nI k), upd sf w 0, upd bf w (bf w + 1), ig)
def rStep (mo ma mb mk mt : Nat → Int32) (w k : Nat) : MS → MS
  | (td, se, nb, nf, nk, nw, nv, xa, xb, ya, yb, za, zb, am, cf, sf, bf, ig) =>
    if sf w + 1 = mt k then (td, upd se k 2, nb, nf, nk, upd nw k (nI w), upd nv k (wOut (mo k) (xa k) (xb k) (Int32.toInt64 (mk k))), xa, xb, upd ya k (wChA (mo k) (ma k) (mb k) (xa k) (Int32.toInt64 (mk k))), upd yb k (wChB (mo k) (ma k) (mb k) (xa k) (xb k) (Int32.toInt64 (mk k))), (if (mo k) = 2 ∨ (mo k) = 4 then vp_updL za k (wGA (mo k) (xa k) (xb k) (Int32.toInt64 (mk k))) else za), (if (mo k) = 3 then zb else vp_updL zb k (wGB (mo k) (xa k) (xb k) (Int32.toInt64 (mk k)))), am, upd cf w (-1), upd sf w (sf w + 1), bf, ig)
    else (td, se, nb, nf, nk, nw, nv, xa, xb, ya, yb, za, zb, am, cf, upd sf w (sf w + 1), bf, ig)
def amA (am : Nat → Int64) (ya yb ma mb : Nat → Int32) (za zb : Nat → Int64) (k : Nat) : Nat → Int64 := if ya k = 0 then cpyTo am (8 * k) 8 else vp_updL (cpyTo am (8 * k) 8) (8 * k + 8 + (ma k).toNatClampNeg) (za k)
def amB (am : Nat → Int64) (ya yb ma mb : Nat → Int32) (za zb : Nat → Int64) (k : Nat) : Nat → Int64 := if yb k = 0 then amA am ya yb ma mb za zb k else vp_updL (amA am ya yb ma mb za zb k) (8 * k + 8 + (mb k).toNatClampNeg) (zb k)
def rKeep (n : Nat) (ma mb : Nat → Int32) (tick : Int32) : Nat → Nat → MS → Nat × MS
  | 0, k, c => (k, c)
  | f + 1, k, (td, se, nb, nf, nk, nw, nv, xa, xb, ya, yb, za, zb, am, cf, sf, bf, ig) =>
    if k < n ∧ se k = 2 then
      if xa k = am (8 * k + (ma k).toNatClampNeg) ∧ xb k = am (8 * k + (mb k).toNatClampNeg) then rKeep n ma mb tick f (k + 1) (upd td 7 (td 7 + (if nv k = 2 then 1 else 0)), upd se k 3, nb, nf, upd nk k tick, nw, nv, xa, xb, ya, yb, za, zb, amB am ya yb ma mb za zb k, cf, sf, bf, ig)
      else (k, (upd td 3 (td 3 + 1), upd se k 0, nb, nf, nk, nw, nv, xa, xb, ya, yb, za, zb, am, cf, sf, bf, ig))
    else (k, (td, se, nb, nf, nk, nw, nv, xa, xb, ya, yb, za, zb, am, cf, sf, bf, ig))
def rBegin (n wk : Nat) : MS → MS
  | (td, se, nb, nf, nk, nw, nv, xa, xb, ya, yb, za, zb, am, cf, sf, bf, ig) => (upd (fillTo td 8 0) 0 (nI n), fillTo se n 0, fillTo nb n 0, fillTo nf n 0, fillTo nk n 0, fillTo nw n (-1), fillTo nv n 0, xa, xb, ya, yb, za, zb, fillTo am 8 0, fillTo cf wk (-1), sf, fillTo bf wk 0, fillTo ig wk 0)
