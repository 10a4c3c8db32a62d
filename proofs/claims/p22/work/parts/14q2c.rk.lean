def cdOK (mem : zM) : Prop := ∀ w : Nat, w < 3 → ¬ ((ga mem 236).getD (3 * (gi mem 221 13).toInt.toNat + w) 0).toInt = -1 → ∃ fN bN : Nat, ((ga mem 236).getD (3 * (gi mem 221 13).toInt.toNat + w) 0).toInt = (fN : Int) ∧ ((ga mem 237).getD (3 * (gi mem 221 13).toInt.toNat + w) 0).toInt = (bN : Int) ∧ fN ≤ bN ∧ bN ≤ 1600 ∧ ∃ H, hgt (ga mem 238) (1600 * (gi mem 221 13).toInt.toNat + fN) (bN - fN) = some H
theorem rk_loop {E : zM → Prop} (hE : aEs (aΘ0 E)) {m0 mr : zM} {d : Nat} {w : Int32} {cs : List Int32} {b fN bN H : Nat} (h1 : fN ≤ bN) (h2 : bN ≤ 1600) (hb : b ≤ 1) (w0 : 0 ≤ w.toInt) (w1 : w.toInt ≤ 2) (hH : hgt cs (1600 * b + fN) (bN - fN) = some H) : ∀ (r k : Nat) (c n : Int32) (h : Nat) (mem : zM) (lo : List (Nat × Value)), r + k = bN - fN → hgt cs (1600 * b + fN) k = some h → c.toInt = 1600 * (b : Int) + (fN : Int) + (k : Int) → n.toInt = (h : Int) → h ≤ 499 → (gi mem 221 13).toInt = (b : Int) → gn (ga mem 237) (3 * (gi mem 221 13).toInt + w.toInt) = (bN : Int) → ga mem 238 = cs → zlg lo 0 = some (.ref 221) → zlg lo 1 = some (.int w) → zlg lo 2 = some (.int n) → zlg lo 3 = some (.int c) → onl [256] mr mem → wI (aΘ0 E) m0 mem → yR zpg tX12_reckons (d + 3) (25, lo, [], mem) (fun r m => ∃ v : Int64, r = some (.long v) ∧ wI (aΘ0 E) m0 m ∧ onl [256] mr m) := by
  intro r
  induction r with
  | zero =>
    intro k c n h mem lo hk hh hc hn h9 hB hS hcs l0 l1 l2 l3 ho hI
    exact w_rk_25 hE hI l0 l1 l2 l3
        (by omega)
        (fun x1 e2 => by omega)
        (fun x1 e2 x3 e4 => by omega)
        (fun x1 e2 x3 e4 x5 e6 => by omega)
        (fun x1 e2 x3 e4 x5 e6 y7 e8 => by omega)
        (fun x1 e2 x3 e4 x5 e6 y7 e8 x9 e10 q11 hI => ⟨_, rfl, hI, ho⟩)
        (fun x1 e2 x3 e4 x5 e6 y7 e8 x9 e10 q11 => by omega)
        (fun x1 e2 x3 e4 x5 e6 y7 e8 x9 e10 q11 y12 e13 q17 q18 q19 => by omega)
        (fun x1 e2 x3 e4 x5 e6 y7 e8 x9 e10 q11 y12 e13 q17 q18 q19 x20 e21 => by omega)
        (fun x1 e2 x3 e4 x5 e6 y7 e8 x9 e10 q11 y12 e13 q17 q18 q19 x20 e21 x25 e26 => by omega)
        (fun x1 e2 x3 e4 x5 e6 y7 e8 x9 e10 q11 y12 e13 q17 q18 q19 x20 e21 x25 e26 x27 e28 => by omega)
        (fun x1 e2 x3 e4 x5 e6 y7 e8 x9 e10 q11 y12 e13 q17 q18 q19 x20 e21 x25 e26 x27 e28 => by omega)
        (fun x1 e2 x3 e4 x5 e6 y7 e8 x9 e10 q11 y12 e13 q17 q18 q19 x20 e21 x25 e26 x27 e28 v29 k30 => by omega)
        (fun x1 e2 x3 e4 x5 e6 y7 e8 x9 e10 q11 y12 e13 q17 q18 q19 x20 e21 x25 e26 x27 e28 v29 k30 => by omega)
        (fun x1 e2 x3 e4 x5 e6 y7 e8 x9 e10 q11 y12 e13 q17 q18 q19 x20 e21 x25 e26 x27 e28 v29 k30 x31 e32 lo a0 a1 a2 a3 hI => by exfalso; omega)
        (fun x1 e2 x3 e4 x5 e6 y7 e8 x9 e10 q11 y12 e13 q17 q18 q19 => by omega)
        (fun x1 e2 x3 e4 x5 e6 y7 e8 x9 e10 q11 y12 e13 q17 q18 q19 x36 e37 => by omega)
        (fun x1 e2 x3 e4 x5 e6 y7 e8 x9 e10 q11 y12 e13 q17 q18 q19 x36 e37 x41 e42 => by omega)
        (fun x1 e2 x3 e4 x5 e6 y7 e8 x9 e10 q11 y12 e13 q17 q18 q19 x36 e37 x41 e42 x43 e44 => by omega)
        (fun x1 e2 x3 e4 x5 e6 y7 e8 x9 e10 q11 y12 e13 q17 q18 q19 x36 e37 x41 e42 x43 e44 q45 => by omega)
        (fun x1 e2 x3 e4 x5 e6 y7 e8 x9 e10 q11 y12 e13 q17 q18 q19 x36 e37 x41 e42 x43 e44 q45 x46 e47 => by omega)
        (fun x1 e2 x3 e4 x5 e6 y7 e8 x9 e10 q11 y12 e13 q17 q18 q19 x36 e37 x41 e42 x43 e44 q45 x46 e47 => by omega)
        (fun x1 e2 x3 e4 x5 e6 y7 e8 x9 e10 q11 y12 e13 q17 q18 q19 x36 e37 x41 e42 x43 e44 q45 x46 e47 => by omega)
        (fun x1 e2 x3 e4 x5 e6 y7 e8 x9 e10 q11 y12 e13 q17 q18 q19 x36 e37 x41 e42 x43 e44 q45 x46 e47 x48 e49 lo a0 a1 a2 a3 hI => by exfalso; omega)
        (fun x1 e2 x3 e4 x5 e6 y7 e8 x9 e10 q11 y12 e13 q17 q18 q19 x36 e37 x41 e42 x43 e44 q45 => by omega)
        (fun x1 e2 x3 e4 x5 e6 y7 e8 x9 e10 q11 y12 e13 q17 q18 q19 x36 e37 x41 e42 x43 e44 q45 => by omega)
        (fun x1 e2 x3 e4 x5 e6 y7 e8 x9 e10 q11 y12 e13 q17 q18 q19 x36 e37 x41 e42 x43 e44 q45 => by omega)
        (fun x1 e2 x3 e4 x5 e6 y7 e8 x9 e10 q11 y12 e13 q17 q18 q19 x36 e37 x41 e42 x43 e44 q45 x53 e54 lo a0 a1 a2 a3 hI => by exfalso; omega)
        (fun x1 e2 x3 e4 x5 e6 y7 e8 x9 e10 q11 y12 e13 q17 q18 => by omega)
        (fun x1 e2 x3 e4 x5 e6 y7 e8 x9 e10 q11 y12 e13 q17 q18 x58 e59 => by omega)
        (fun x1 e2 x3 e4 x5 e6 y7 e8 x9 e10 q11 y12 e13 q17 q18 x58 e59 x60 e61 => by omega)
        (fun x1 e2 x3 e4 x5 e6 y7 e8 x9 e10 q11 y12 e13 q17 q18 x58 e59 x60 e61 => by omega)
        (fun x1 e2 x3 e4 x5 e6 y7 e8 x9 e10 q11 y12 e13 q17 q18 x58 e59 x60 e61 x62 e63 lo a0 a1 a2 a3 hI => by exfalso; omega)
        (fun x1 e2 x3 e4 x5 e6 y7 e8 x9 e10 q11 y12 e13 q17 q67 q68 => by omega)
        (fun x1 e2 x3 e4 x5 e6 y7 e8 x9 e10 q11 y12 e13 q17 q67 q68 y69 e70 => by omega)
        (fun x1 e2 x3 e4 x5 e6 y7 e8 x9 e10 q11 y12 e13 q17 q67 q68 y69 e70 => by omega)
        (fun x1 e2 x3 e4 x5 e6 y7 e8 x9 e10 q11 y12 e13 q17 q67 q68 y69 e70 x71 e72 => by omega)
        (fun x1 e2 x3 e4 x5 e6 y7 e8 x9 e10 q11 y12 e13 q17 q67 q68 y69 e70 x71 e72 x76 e77 lo a0 a1 a2 a3 hI => by exfalso; omega)
        (fun x1 e2 x3 e4 x5 e6 y7 e8 x9 e10 q11 y12 e13 q17 q67 q68 => by omega)
        (fun x1 e2 x3 e4 x5 e6 y7 e8 x9 e10 q11 y12 e13 q17 q67 q68 => by omega)
        (fun x1 e2 x3 e4 x5 e6 y7 e8 x9 e10 q11 y12 e13 q17 q67 q68 x81 e82 => by omega)
        (fun x1 e2 x3 e4 x5 e6 y7 e8 x9 e10 q11 y12 e13 q17 q67 q68 x81 e82 x86 e87 lo a0 a1 a2 a3 hI => by exfalso; omega)
        (fun x1 e2 x3 e4 x5 e6 y7 e8 x9 e10 q11 y12 e13 q17 q67 => by omega)
        (fun x1 e2 x3 e4 x5 e6 y7 e8 x9 e10 q11 y12 e13 q17 q67 y91 e92 => by omega)
        (fun x1 e2 x3 e4 x5 e6 y7 e8 x9 e10 q11 y12 e13 q17 q67 y91 e92 => by omega)
        (fun x1 e2 x3 e4 x5 e6 y7 e8 x9 e10 q11 y12 e13 q17 q67 y91 e92 x93 e94 => by omega)
        (fun x1 e2 x3 e4 x5 e6 y7 e8 x9 e10 q11 y12 e13 q17 q67 y91 e92 x93 e94 x98 e99 lo a0 a1 a2 a3 hI => by exfalso; omega)
  | succ r ih =>
    intro k c n h mem lo hk hh hc hn h9 hB hS hcs l0 l1 l2 l3 ho hI
    obtain ⟨h', E1, E2⟩ := hgt_s hH (by omega) hh
    have hs : (cs.getD (1600 * b + fN + k) 0).toInt = gn (ga mem 238) c.toInt := by
      unfold gn
      rw [hcs, show c.toInt.toNat = 1600 * b + fN + k by omega]
    exact w_rk_25 hE hI l0 l1 l2 l3
        (by omega)
        (fun x1 e2 => by omega)
        (fun x1 e2 x3 e4 => by omega)
        (fun x1 e2 x3 e4 x5 e6 => by omega)
        (fun x1 e2 x3 e4 x5 e6 y7 e8 => by omega)
        (fun x1 e2 x3 e4 x5 e6 y7 e8 x9 e10 q11 hI => ⟨_, rfl, hI, ho⟩)
        (fun x1 e2 x3 e4 x5 e6 y7 e8 x9 e10 q11 => by omega)
        (fun x1 e2 x3 e4 x5 e6 y7 e8 x9 e10 q11 y12 e13 q17 q18 q19 => by have F := (hst_i E1).2.2.2 (by omega) (by omega) (by omega); omega)
        (fun x1 e2 x3 e4 x5 e6 y7 e8 x9 e10 q11 y12 e13 q17 q18 q19 x20 e21 => by have F := (hst_i E1).2.2.2 (by omega) (by omega) (by omega); omega)
        (fun x1 e2 x3 e4 x5 e6 y7 e8 x9 e10 q11 y12 e13 q17 q18 q19 x20 e21 x25 e26 => by have F := (hst_i E1).2.2.2 (by omega) (by omega) (by omega); omega)
        (fun x1 e2 x3 e4 x5 e6 y7 e8 x9 e10 q11 y12 e13 q17 q18 q19 x20 e21 x25 e26 x27 e28 => by have F := (hst_i E1).2.2.2 (by omega) (by omega) (by omega); omega)
        (fun x1 e2 x3 e4 x5 e6 y7 e8 x9 e10 q11 y12 e13 q17 q18 q19 x20 e21 x25 e26 x27 e28 => by have F := (hst_i E1).2.2.2 (by omega) (by omega) (by omega); omega)
        (fun x1 e2 x3 e4 x5 e6 y7 e8 x9 e10 q11 y12 e13 q17 q18 q19 x20 e21 x25 e26 x27 e28 v29 k30 => by have F := (hst_i E1).2.2.2 (by omega) (by omega) (by omega); omega)
        (fun x1 e2 x3 e4 x5 e6 y7 e8 x9 e10 q11 y12 e13 q17 q18 q19 x20 e21 x25 e26 x27 e28 v29 k30 => by have F := (hst_i E1).2.2.2 (by omega) (by omega) (by omega); omega)
        (fun x1 e2 x3 e4 x5 e6 y7 e8 x9 e10 q11 y12 e13 q17 q18 q19 x20 e21 x25 e26 x27 e28 v29 k30 x31 e32 lo a0 a1 a2 a3 hI => by
          have F := (hst_i E1).2.2.2 (by omega) (by omega) (by omega)
          exact ih (k + 1) _ _ h' _ lo (by omega) E2 (by omega) (by omega) (by omega) (by rw [gi_sA]; exact hB) (by rw [gi_sA, ga_sA]; exact hS) (by rw [ga_sA]; exact hcs) a0 a1 a2 a3 (onl_sA rfl ho) hI)
        (fun x1 e2 x3 e4 x5 e6 y7 e8 x9 e10 q11 y12 e13 q17 q18 q19 => by have F := (hst_i E1).2.2.1 (by omega); omega)
        (fun x1 e2 x3 e4 x5 e6 y7 e8 x9 e10 q11 y12 e13 q17 q18 q19 x36 e37 => by have F := (hst_i E1).2.2.1 (by omega); omega)
        (fun x1 e2 x3 e4 x5 e6 y7 e8 x9 e10 q11 y12 e13 q17 q18 q19 x36 e37 x41 e42 => by have F := (hst_i E1).2.2.1 (by omega); omega)
        (fun x1 e2 x3 e4 x5 e6 y7 e8 x9 e10 q11 y12 e13 q17 q18 q19 x36 e37 x41 e42 x43 e44 => by have F := (hst_i E1).2.2.1 (by omega); omega)
        (fun x1 e2 x3 e4 x5 e6 y7 e8 x9 e10 q11 y12 e13 q17 q18 q19 x36 e37 x41 e42 x43 e44 q45 => by have F := (hst_i E1).2.2.1 (by omega); omega)
        (fun x1 e2 x3 e4 x5 e6 y7 e8 x9 e10 q11 y12 e13 q17 q18 q19 x36 e37 x41 e42 x43 e44 q45 x46 e47 => by have F := (hst_i E1).2.2.1 (by omega); omega)
        (fun x1 e2 x3 e4 x5 e6 y7 e8 x9 e10 q11 y12 e13 q17 q18 q19 x36 e37 x41 e42 x43 e44 q45 x46 e47 => by have F := (hst_i E1).2.2.1 (by omega); omega)
        (fun x1 e2 x3 e4 x5 e6 y7 e8 x9 e10 q11 y12 e13 q17 q18 q19 x36 e37 x41 e42 x43 e44 q45 x46 e47 => by have F := (hst_i E1).2.2.1 (by omega); omega)
        (fun x1 e2 x3 e4 x5 e6 y7 e8 x9 e10 q11 y12 e13 q17 q18 q19 x36 e37 x41 e42 x43 e44 q45 x46 e47 x48 e49 lo a0 a1 a2 a3 hI => by
          have F := (hst_i E1).2.2.1 (by omega)
          exact ih (k + 1) _ _ h' _ lo (by omega) E2 (by omega) (by omega) (by omega) (by rw [gi_sA]; exact hB) (by rw [gi_sA, ga_sA]; exact hS) (by rw [ga_sA]; exact hcs) a0 a1 a2 a3 (onl_sA rfl ho) hI)
        (fun x1 e2 x3 e4 x5 e6 y7 e8 x9 e10 q11 y12 e13 q17 q18 q19 x36 e37 x41 e42 x43 e44 q45 => by have F := (hst_i E1).2.2.1 (by omega); omega)
        (fun x1 e2 x3 e4 x5 e6 y7 e8 x9 e10 q11 y12 e13 q17 q18 q19 x36 e37 x41 e42 x43 e44 q45 => by have F := (hst_i E1).2.2.1 (by omega); omega)
        (fun x1 e2 x3 e4 x5 e6 y7 e8 x9 e10 q11 y12 e13 q17 q18 q19 x36 e37 x41 e42 x43 e44 q45 => by have F := (hst_i E1).2.2.1 (by omega); omega)
        (fun x1 e2 x3 e4 x5 e6 y7 e8 x9 e10 q11 y12 e13 q17 q18 q19 x36 e37 x41 e42 x43 e44 q45 x53 e54 lo a0 a1 a2 a3 hI => by
          have F := (hst_i E1).2.2.1 (by omega)
          exact ih (k + 1) _ _ h' _ lo (by omega) E2 (by omega) (by omega) (by omega) (by rw [gi_sA]; exact hB) (by rw [gi_sA, ga_sA]; exact hS) (by rw [ga_sA]; exact hcs) a0 a1 a2 a3 (onl_sA rfl ho) hI)
        (fun x1 e2 x3 e4 x5 e6 y7 e8 x9 e10 q11 y12 e13 q17 q18 => by have F := (hst_i E1).2.1 (by omega); omega)
        (fun x1 e2 x3 e4 x5 e6 y7 e8 x9 e10 q11 y12 e13 q17 q18 x58 e59 => by have F := (hst_i E1).2.1 (by omega); omega)
        (fun x1 e2 x3 e4 x5 e6 y7 e8 x9 e10 q11 y12 e13 q17 q18 x58 e59 x60 e61 => by have F := (hst_i E1).2.1 (by omega); omega)
        (fun x1 e2 x3 e4 x5 e6 y7 e8 x9 e10 q11 y12 e13 q17 q18 x58 e59 x60 e61 => by have F := (hst_i E1).2.1 (by omega); omega)
        (fun x1 e2 x3 e4 x5 e6 y7 e8 x9 e10 q11 y12 e13 q17 q18 x58 e59 x60 e61 x62 e63 lo a0 a1 a2 a3 hI => by
          have F := (hst_i E1).2.1 (by omega)
          exact ih (k + 1) _ _ h' _ lo (by omega) E2 (by omega) (by omega) (by omega) (by rw [gi_sA]; exact hB) (by rw [gi_sA, ga_sA]; exact hS) (by rw [ga_sA]; exact hcs) a0 a1 a2 a3 (onl_sA rfl ho) hI)
        (fun x1 e2 x3 e4 x5 e6 y7 e8 x9 e10 q11 y12 e13 q17 q67 q68 => by have F := (hst_i E1).1 (by omega); omega)
        (fun x1 e2 x3 e4 x5 e6 y7 e8 x9 e10 q11 y12 e13 q17 q67 q68 y69 e70 => by have F := (hst_i E1).1 (by omega); omega)
        (fun x1 e2 x3 e4 x5 e6 y7 e8 x9 e10 q11 y12 e13 q17 q67 q68 y69 e70 => by have F := (hst_i E1).1 (by omega); omega)
        (fun x1 e2 x3 e4 x5 e6 y7 e8 x9 e10 q11 y12 e13 q17 q67 q68 y69 e70 x71 e72 => by have F := (hst_i E1).1 (by omega); omega)
        (fun x1 e2 x3 e4 x5 e6 y7 e8 x9 e10 q11 y12 e13 q17 q67 q68 y69 e70 x71 e72 x76 e77 lo a0 a1 a2 a3 hI => by
          have F := (hst_i E1).1 (by omega)
          exact ih (k + 1) _ _ h' _ lo (by omega) E2 (by omega) (by omega) (by omega) (by rw [gi_sA]; exact hB) (by rw [gi_sA, ga_sA]; exact hS) (by rw [ga_sA]; exact hcs) a0 a1 a2 a3 (onl_sA rfl ho) hI)
        (fun x1 e2 x3 e4 x5 e6 y7 e8 x9 e10 q11 y12 e13 q17 q67 q68 => by have F := (hst_i E1).1 (by omega); omega)
        (fun x1 e2 x3 e4 x5 e6 y7 e8 x9 e10 q11 y12 e13 q17 q67 q68 => by have F := (hst_i E1).1 (by omega); omega)
        (fun x1 e2 x3 e4 x5 e6 y7 e8 x9 e10 q11 y12 e13 q17 q67 q68 x81 e82 => by have F := (hst_i E1).1 (by omega); omega)
        (fun x1 e2 x3 e4 x5 e6 y7 e8 x9 e10 q11 y12 e13 q17 q67 q68 x81 e82 x86 e87 lo a0 a1 a2 a3 hI => by
          have F := (hst_i E1).1 (by omega)
          exact ih (k + 1) _ _ h' _ lo (by omega) E2 (by omega) (by omega) (by omega) (by rw [gi_sA]; exact hB) (by rw [gi_sA, ga_sA]; exact hS) (by rw [ga_sA]; exact hcs) a0 a1 a2 a3 (onl_sA rfl ho) hI)
        (fun x1 e2 x3 e4 x5 e6 y7 e8 x9 e10 q11 y12 e13 q17 q67 => by have F := (hst_i E1).1 (by omega); omega)
        (fun x1 e2 x3 e4 x5 e6 y7 e8 x9 e10 q11 y12 e13 q17 q67 y91 e92 => by have F := (hst_i E1).1 (by omega); omega)
        (fun x1 e2 x3 e4 x5 e6 y7 e8 x9 e10 q11 y12 e13 q17 q67 y91 e92 => by have F := (hst_i E1).1 (by omega); omega)
        (fun x1 e2 x3 e4 x5 e6 y7 e8 x9 e10 q11 y12 e13 q17 q67 y91 e92 x93 e94 => by have F := (hst_i E1).1 (by omega); omega)
        (fun x1 e2 x3 e4 x5 e6 y7 e8 x9 e10 q11 y12 e13 q17 q67 y91 e92 x93 e94 x98 e99 lo a0 a1 a2 a3 hI => by
          have F := (hst_i E1).1 (by omega)
          exact ih (k + 1) _ _ h' _ lo (by omega) E2 (by omega) (by omega) (by omega) (by rw [gi_sA]; exact hB) (by rw [gi_sA, ga_sA]; exact hS) (by rw [ga_sA]; exact hcs) a0 a1 a2 a3 (onl_sA rfl ho) hI)
/-- a rule that is told is reckoned -/
theorem h_reckons {E : zM → Prop} (hE : aEs (aΘ0 E)) (hQ : ∀ mem, aJ (aΘ0 E) mem → cdOK mem) {d : Nat} (hd : 4 ≤ d) {w : Int32} (w0 : 0 ≤ w.toInt) (w1 : w.toInt ≤ 2) {m0 mem : zM} {l : List Int32} {B W : Int} (hI : wI (aΘ0 E) m0 mem) (hl : ga mem 236 = l) (hB : (gi mem 221 13).toInt = B) (hW : w.toInt = W) (ht : ¬ gn l (3 * B + W) = -1) : yC zpg d 218 [.ref 221, .int w] mem (fun r m => ∃ v : Int64, r = some (.long v) ∧ wI (aΘ0 E) m0 m ∧ onl [256] mem m) := by
  subst hl hB hW
  obtain ⟨d, rfl⟩ : ∃ q, d = q + 4 := ⟨d - 4, by omega⟩
  obtain ⟨b0, b1⟩ := mO_r13 hI.1.1
  have en : ∀ l : List Int32, gn l (3 * (gi mem 221 13).toInt + w.toInt) = (l.getD (3 * (gi mem 221 13).toInt.toNat + w.toInt.toNat) 0).toInt := fun l => by
    unfold gn
    rw [show (3 * (gi mem 221 13).toInt + w.toInt).toNat = 3 * (gi mem 221 13).toInt.toNat + w.toInt.toNat by omega]
  obtain ⟨fN, bN, q1, q2, q3, q4, H, q5⟩ := hQ mem hI.1 w.toInt.toNat (by omega) (by rw [← en]; exact ht)
  rw [← en] at q1 q2
  refine yC_of (t := tX12_reckons) rfl rfl ?_
  exact w_rk_0 hE hI rfl rfl
        (by omega)
        (fun x4 e5 => by omega)
        (fun x4 e5 x6 e7 => by omega)
        (fun x4 e5 x6 e7 x8 e9 => by omega)
        (fun x4 e5 x6 e7 x8 e9 y10 e11 => by omega)
        (fun x4 e5 x6 e7 x8 e9 y10 e11 x12 e13 lo l0 l1 l2 l3 hI => rk_loop hE q3 q4 (by omega) w0 w1 q5 (bN - fN) 0 _ _ 0 mem lo (by omega) rfl (by omega) rfl (by omega) (by omega) q2 rfl l0 l1 l2 l3 onl_rf hI)
