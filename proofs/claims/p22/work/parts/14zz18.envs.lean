/-! what holds between the calls: the nights, too -/
section JSX
abbrev Nd := Sd × Kd × Pd × Int
def okN (Y : Qd) (N : Nd) : Prop := WQ Y ∧ wS Y N.1 ∧ (∀ k, 0 ≤ k → k < N.2.2.1.1 → wS Y (N.2.2.1.2 k).1) ∧ 0 ≤ N.2.2.2 ∧ N.2.2.2 < 2147483648
/-- what the class has of the nights -/
def cN (Y : Qd) (N : Nd) (m : zM) : Prop := tS 31 Y (huA Y) N.1 m ∧ kC 34 N.2.1 m ∧ rgC Y (huA Y) N.2.2.1 m ∧ (gi m 0 15).toInt = N.2.2.2 ∧ supp m
/-- what the model has of them -/
def mN (Z : Qd) (N : Nd) (m : zM) : Prop := tM 0 Z (huA Z) N.1 m ∧ kM 0 N.2.1 m ∧ rgM Z (huA Z) N.2.2.1 m ∧ (gL m 221 56).toInt = N.2.2.2
def J6 (a b : Int32) (t u : List Int32) (Y Z : Qd) (N M : Nd) (m : zM) : Prop := J5 a b t u Y Z m ∧ (cN Y N m ∧ okN Y N) ∧ (mN Z M m ∧ okN Z M)
variable {d : Nat} {mem m m0 m' : zM} {a b a' b' : Int32} {t u t' u' : List Int32} {Y Z Y' Z' : Qd} {N M N' M' : Nd}
theorem okN_H (h : okN Y N) : wH Y (huA Y) := fun t t0 t1 => (wq_g h.1 t0 t1).1
theorem supp_z (h : ∀ k, 31 ≤ k → k ≤ 180 → zat m k = zat m0 k) (hs : supp m0) : supp m := ⟨by rw [gi_zq (h 31 (by decide) (by decide))]; exact hs.1, fun n hn => by rw [gi_zq (h (41 + 7 * n) (by omega) (by omega))]; exact hs.2 n hn⟩
theorem cN_x {x : Int} (h : ∀ k, 31 ≤ k → k ≤ 180 → zat m k = zat m0 k) (hf : (gi m 0 15).toInt = x) (c : cN Y N m0) : cN Y (N.1, N.2.1, N.2.2.1, x) m := ⟨tS_zq (h 31 (by decide) (by decide)) (h 32 (by decide) (by decide)) (h 33 (by decide) (by decide)) c.1, kC_zq (h 34 (by decide) (by decide)) (h 35 (by decide) (by decide)) (h 36 (by decide) (by decide)) (h 37 (by decide) (by decide)) c.2.1, rgC_zq (fun k a b => h k (by omega) b) c.2.2.1, hf, supp_z h c.2.2.2.2⟩
theorem gi_zf {k i : Nat} (h : zfl m k i = zfl m0 k i) : gi m k i = gi m0 k i := by
  unfold gi
  rw [h]
theorem gL_zf {k i : Nat} (h : zfl m k i = zfl m0 k i) : gL m k i = gL m0 k i := by
  unfold gL
  rw [h]
theorem cN_z (h : ∀ k, 31 ≤ k → k ≤ 180 → zat m k = zat m0 k) (hf : zfl m 0 15 = zfl m0 0 15) (c : cN Y N m0) : cN Y N m := cN_x (N := N) (x := N.2.2.2) h (by rw [gi_zf hf]; exact c.2.2.2.1) c
theorem mN_x {x : Int} (h : ∀ k, 249 ≤ k → k ≤ 255 → zat m k = zat m0 k) (hf : ∀ i, i = 54 ∨ i = 55 → zfl m 221 i = zfl m0 221 i) (hx : (gL m 221 56).toInt = x) (c : mN Z M m0) : mN Z (M.1, M.2.1, M.2.2.1, x) m := by
  have G : ∀ k, 249 ≤ k → k ≤ 255 → ga m k = ga m0 k := fun k h1 h2 => ga_zq (h k h1 h2)
  exact ⟨tM_zz G c.1, kM_zz G c.2.1, rgM_zz G (gi_zf (hf 54 (by decide))) (gi_zf (hf 55 (by decide))) c.2.2.1, hx⟩
theorem mN_z (h : ∀ k, 249 ≤ k → k ≤ 255 → zat m k = zat m0 k) (hf : ∀ i, i = 54 ∨ i = 55 ∨ i = 56 → zfl m 221 i = zfl m0 221 i) (c : mN Z M m0) : mN Z M m := mN_x (M := M) (x := M.2.2.2) h (fun i hi => hf i (by omega)) (by rw [gL_zf (hf 56 (by decide))]; exact c.2.2.2) c
theorem mN_F (hW : WQ Z) (F : F1 m0 m) (c : mN Z M m0) : mN Z M m := ⟨F1_0 hW F c.1, F1_k F c.2.1, F1_r hW F c.2.2.1, by rw [gL_zf (zfl_ea (F.1 221 (by decide)))]; exact c.2.2.2⟩
theorem cN_lo (h : ∀ k, k ≤ 220 → zat m k = zat m0 k) (c : cN Y N m0) : cN Y N m := cN_z (fun k _ _ => h k (by omega)) (zfl_ea (h 0 (by decide))) c
theorem mN_hi (h : ∀ k, 221 ≤ k → k < 269 → zat m k = zat m0 k) (c : mN Z M m0) : mN Z M m := mN_z (fun k h1 h2 => h k (by omega) (by omega)) (fun i _ => zfl_ea (h 221 (by decide) (by decide))) c
theorem J6_c (hJ : J6 a b t u Y Z N M mem) (h : J5 a' b t' u Y Z m) (F : FY mem m) : J6 a' b t' u Y Z N M m := ⟨h, ⟨cN_z F.1 F.2.2 hJ.2.1.1, hJ.2.1.2⟩, mN_hi F.2.1 hJ.2.2.1, hJ.2.2.2⟩
theorem J6_m (hJ : J6 a b t u Y Z N M mem) (h : J5 a b' t u' Y Z m) (F : ∀ k, k ≤ 220 → zat m k = zat mem k) (w : mN Z M mem → mN Z M m) : J6 a b' t u' Y Z N M m := ⟨h, ⟨cN_lo F hJ.2.1.1, hJ.2.1.2⟩, w hJ.2.2.1, hJ.2.2.2⟩
def pb6 (a b : Int32) (t u : List Int32) (Y Z : Qd) (N M : Nd) (r : Option Value) (m : zM) : Prop := J6 a b t u Y Z N M m ∧ ∃ v : Int32, r = some (.int v)
theorem FX_Y (h : FX m0 m) : FY m0 m := ⟨h.1, fun k h1 h2 => h.2.1 k (by omega) h2, h.2.2⟩
theorem rfX_Y {s : Nat} (h : rfX 220 s m0 m) : FY m0 m := ⟨fun k h1 h2 => h.1 k (by omega), fun k h1 h2 => h.1 k (by omega), zfl_ea (h.1 0 (by decide))⟩
theorem c6 {j : Nat} {av : List Value} (hJ : J6 a b t u Y Z N M mem) (h : yC zpg d j av mem (pbU a' b t u Y Z)) (k : yC zpg d j av mem (fun _ m => FY mem m)) : yC zpg d j av mem (pb6 a' b t u Y Z N M) := yC_mono (fun r m q => ⟨J6_c hJ q.1.1 q.2, q.1.2⟩) (yC_and h k)
theorem c6x {j : Nat} {av : List Value} (hJ : J6 a b t u Y Z N M mem) (h : yC zpg d j av mem (pbU a' b t u Y Z)) (k : yC zpg d j av mem (fun _ m => FX mem m)) : yC zpg d j av mem (pb6 a' b t u Y Z N M) := c6 hJ h (yC_mono (fun _ _ q => FX_Y q) k)
theorem FM_N (F : FM mem m) (c : mN Z M mem) : mN Z M m := mN_z (fun k h1 h2 => F.2.1 k (by omega) h2) (fun i hi => by
  rcases hi with rfl | rfl | rfl
  · exact F.2.2.1
  · exact F.2.2.2.1
  · exact F.2.2.2.2) c
theorem m6 {j : Nat} {av : List Value} (hJ : J6 a b t u Y Z N M mem) (h : yC zpg d j av mem (pbU a b' t u Y Z)) (k : yC zpg d j av mem (fun _ m => FM mem m)) : yC zpg d j av mem (pb6 a b' t u Y Z N M) := yC_mono (fun r m q => ⟨J6_m hJ q.1.1 q.2.1 (FM_N q.2), q.1.2⟩) (yC_and h k)
theorem m6w {j : Nat} {av : List Value} (hJ : J6 a b t u Y Z N M mem) (h : yC zpg d j av mem (pbU a b t u Y Z)) (k : yC zpg d j av mem (WF mem)) : yC zpg d j av mem (pb6 a b t u Y Z N M) := yC_mono (fun r m q => by
  obtain ⟨⟨q1, q2⟩, v, -, -, F⟩ := q
  exact ⟨J6_m hJ q1 (fun k hk => F.1 k (by omega)) (mN_F hJ.2.2.2.1 F), q2⟩) (yC_and h k)
theorem WF_1 {r : Option Value} {A : Int32 → Prop} (h : ∃ v : Int32, r = some (.int v) ∧ aTm aT0 m ∧ (F1 mem m ∧ A v)) : WF mem r m := by
  obtain ⟨v, h1, h2, h3, -⟩ := h
  exact ⟨v, h1, h2, h3⟩
theorem fr_lo {ks is : List Nat} (F : fr ks is m0 m) (h : ks.all (fun k => decide (221 < k)) = true) : ∀ k, k ≤ 220 → zat m k = zat m0 k := fun k hk => F.1 k (by omega) (by
  cases hc : ks.contains k with
  | false => rfl
  | true =>
    have w := of_decide_eq_true (List.all_eq_true.1 h k (List.contains_iff_mem.1 hc))
    omega)
theorem fr_mid {ks is : List Nat} (F : fr ks is m0 m) (h : ks.all (fun k => decide (k < 249 ∨ 255 < k)) = true) : ∀ k, 249 ≤ k → k ≤ 255 → zat m k = zat m0 k := fun k h1 h2 => F.1 k (by omega) (by
  cases hc : ks.contains k with
  | false => rfl
  | true =>
    have w := of_decide_eq_true (List.all_eq_true.1 h k (List.contains_iff_mem.1 hc))
    omega)
theorem fr_N {ks is : List Nat} (F : fr ks is m0 m) (h : ks.all (fun k => decide (k < 249 ∨ 255 < k)) = true) (h4 : is.contains 54 = false) (h5 : is.contains 55 = false) (h6 : is.contains 56 = false) (c : mN Z M m0) : mN Z M m := mN_z (fr_mid F h) (fun i hi => by
  rcases hi with rfl | rfl | rfl
  · exact F.2 _ h4
  · exact F.2 _ h5
  · exact F.2 _ h6) c
theorem rfX_M {s : Nat} (h : rfX 248 s m0 m) : (∀ k, k ≤ 220 → zat m k = zat m0 k) ∧ (mN Z M m0 → mN Z M m) := ⟨fun k hk => h.1 k (by omega), fun c => mN_z (fun k h1 h2 => h.1 k (by omega)) (fun i _ => zfl_ea (h.1 221 (by decide))) c⟩
/-- what an act does: c: it can be done, w is answered and F comes; else z is answered -/
def acR (c : Prop) (w : Int) (z : Int32) (N N' F : Nd) (r : Option Value) : Prop := (c ∧ (∃ v : Int32, r = some (.int v) ∧ v.toInt = w) ∧ N' = F) ∨ (¬ c ∧ r = some (.int z) ∧ N' = N)
theorem acR_eq {c : Prop} {w : Int} {z : Int32} {F : Nd} {r s : Option Value} (h : acR c w z N N' F r) (k : acR c w z N M' F s) : N' = M' ∧ r = s ∧ ∃ v : Int32, r = some (.int v) := by
  rcases h with ⟨h1, ⟨v, h2, h3⟩, h4⟩ | ⟨h1, h2, h3⟩ <;> rcases k with ⟨k1, ⟨x, k2, k3⟩, k4⟩ | ⟨k1, k2, k3⟩
  · have e : v = x := Int32.toInt_inj.1 (h3.trans k3.symm)
    exact ⟨h4.trans k4.symm, by rw [h2, k2, e], v, h2⟩
  · exact absurd h1 k1
  · exact absurd k1 h1
  · exact ⟨h3.trans k3.symm, by rw [h2, k2], z, h2⟩
theorem acC {j : Nat} {av : List Value} {c : Prop} {w : Int} {z : Int32} {F : Nd} (hJ : J6 a b t u Y Z N M mem) (hF : c → okN Y F) (h : yC zpg d j av mem (pbU a b t u Y Z)) (hs : yC zpg d j av mem (fun _ m => supp m)) (k : yC zpg d j av mem (fun r m => (c ∧ (∃ v : Int32, r = some (.int v) ∧ v.toInt = w) ∧ (∀ k, 221 ≤ k → zat m k = zat mem k) ∧ tS 31 Y (huA Y) F.1 m ∧ kC 34 F.2.1 m ∧ rgC Y (huA Y) F.2.2.1 m ∧ (gi m 0 15).toInt = F.2.2.2) ∨ (¬ c ∧ r = some (.int z) ∧ ∃ s, rfX 220 s mem m))) : yC zpg d j av mem (fun r m => ∃ N', acR c w z N N' F r ∧ J6 a b t u Y Z N' M m) := yC_mono (fun r m q => by
  obtain ⟨⟨⟨q1, -⟩, q2⟩, q3⟩ := q
  rcases q3 with ⟨e1, e2, e3, e4, e5, e6, e7⟩ | ⟨e1, e2, s, e3⟩
  · exact ⟨F, Or.inl ⟨e1, e2, rfl⟩, q1, ⟨⟨e4, e5, e6, e7, q2⟩, hF e1⟩, mN_hi (fun k h1 _ => e3 k h1) hJ.2.2.1, hJ.2.2.2⟩
  · exact ⟨N, Or.inr ⟨e1, e2, rfl⟩, J6_c hJ q1 (rfX_Y e3)⟩) (yC_and (yC_and h hs) k)
theorem acM {j : Nat} {av : List Value} {c : Prop} {w : Int} {z : Int32} {F : Nd} (hJ : J6 a b t u Y Z N M mem) (hF : c → okN Z F) (h : yC zpg d j av mem (pbU a b t u Y Z)) (k : yC zpg d j av mem (fun r m => (c ∧ (∃ v : Int32, r = some (.int v) ∧ v.toInt = w) ∧ (∀ k, k < 221 → zat m k = zat mem k) ∧ tM 0 Z (huA Z) F.1 m ∧ kM 0 F.2.1 m ∧ rgM Z (huA Z) F.2.2.1 m ∧ (gL m 221 56).toInt = F.2.2.2) ∨ (¬ c ∧ r = some (.int z) ∧ ∃ s, rfX 248 s mem m))) : yC zpg d j av mem (fun r m => ∃ M', acR c w z M M' F r ∧ J6 a b t u Y Z N M' m) := yC_mono (fun r m q => by
  obtain ⟨⟨q1, -⟩, q3⟩ := q
  rcases q3 with ⟨e1, e2, e3, e4, e5, e6, e7⟩ | ⟨e1, e2, s, e3⟩
  · exact ⟨F, Or.inl ⟨e1, e2, rfl⟩, q1, ⟨cN_lo (fun k hk => e3 k (by omega)) hJ.2.1.1, hJ.2.1.2⟩, ⟨e4, e5, e6, e7⟩, hF e1⟩
  · exact ⟨M, Or.inr ⟨e1, e2, rfl⟩, J6_m hJ q1 (rfX_M (Z := Z) (M := M) e3).1 (rfX_M e3).2⟩) (yC_and h k)
theorem pd_w {P : Pd} {x : Sd × Kd} (hP : ∀ k, 0 ≤ k → k < P.1 → wS Y (P.2 k).1) (hx : wS Y x.1) : ∀ k, 0 ≤ k → k < (pdN P x).1 → wS Y ((pdN P x).2 k).1 := by
  have A : ∀ {R : Pd}, (∀ k, 0 ≤ k → k < R.1 → wS Y (R.2 k).1) → ∀ k, 0 ≤ k → k < (pdA R x).1 → wS Y ((pdA R x).2 k).1 := fun {R} hR k k0 k1 => by
    have k2 : k < R.1 + 1 := k1
    show wS Y (if k = R.1 then x else R.2 k).1
    by_cases w : k = R.1
    · rw [if_pos w]
      exact hx
    · rw [if_neg w]
      exact hR k k0 (by omega)
  unfold pdN
  by_cases w : P.1 = 20
  · rw [if_pos w]
    exact A (fun k k0 k1 => hP (k + 1) (by omega) (by have k2 : k < P.1 - 1 := k1; omega))
  · rw [if_neg w]
    exact A hP
theorem okN_F {S : Sd} {K : Kd} {x : Int} (h : okN Y N) (hS : wS Y S) (hx : 0 ≤ x ∧ x < 2147483648) : okN Y (S, K, pdN N.2.2.1 (N.1, N.2.1), x) := ⟨h.1, hS, pd_w h.2.2.1 h.2.1, hx.1, hx.2⟩
theorem okN_0 {S : Sd} (hW : WQ Y) (hS : wS Y S) (h : 0 ≤ N.2.2.2 ∧ N.2.2.2 < 2147483648) : okN Y (S, K0, P00, N.2.2.2) := ⟨hW, hS, fun k k0 k1 => by exfalso; have k2 : k < 0 := k1; omega, h.1, h.2⟩
theorem ldS_w {f x y : Int} (hW : WQ Y) {S : Sd} (hS : wS Y S) (h : leN Y S f x y) : wS Y (ldS S f (8 * y + x)) := by
  have c1 := hW.1.1.2
  obtain ⟨⟨f0, f1⟩, ⟨⟨x0, y0⟩, o1, o2, o3⟩, -⟩ := h
  refine ⟨hS.1, hS.2.1, hS.2.2.1, fun g g0 g1 => ?_⟩
  show frP Y (if g = f then 8 * y + x else Sp S g)
  by_cases w : g = f
  · rw [if_pos w]
    exact ⟨⟨by omega, by omega, by omega⟩, o3⟩
  · rw [if_neg w]
    exact hS.2.2.2 g g0 g1
/-- what an image that is taken leaves -/
noncomputable def onN (T : List Int32) (Y : Qd) : Sd := (gn T 0 * 256 + gn T 1, tnF (fun t => gn T (2 + 2 * t) = 1) (Qt Y).length, fun t => if t < 100 then gn T (3 + 2 * t) else 0, fun f => if f < 100 then 8 * gn T (2 + 2 * thN Y + 2 * f + 1) + gn T (2 + 2 * thN Y + 2 * f) else 0)
theorem tnF_c {P P' : Int → Prop} : ∀ n : Nat, (∀ i : Int, 0 ≤ i → i < (n : Int) → (P i ↔ P' i)) → tnF P n = tnF P' n
  | 0, _ => rfl
  | n + 1, h => by
    have e : P (n : Int) = P' (n : Int) := propext (h (n : Int) (by omega) (by omega))
    have ih := tnF_c n (fun i i0 i1 => h i i0 (by omega))
    show (if cdB (P (n : Int)) = true then tnF P n ||| ((1 : Int32) <<< (Int32.ofNat n &&& 31)) else tnF P n) = (if cdB (P' (n : Int)) = true then tnF P' n ||| ((1 : Int32) <<< (Int32.ofNat n &&& 31)) else tnF P' n)
    rw [e, ih]
theorem onN_sm {T U : List Int32} (h : smT T U) (hW : WQ Y) : onN T Y = onN U Y := by
  have t9 : thN Y ≤ 9 := by
    have := hW.2.1.1
    unfold thN
    omega
  have t0 : (Qt Y).length ≤ 9 := hW.2.1.1
  unfold onN
  rw [h 0 (by decide), h 1 (by decide), tnF_c (P := fun t => gn T (2 + 2 * t) = 1) (P' := fun t => gn U (2 + 2 * t) = 1) _ (fun i i0 i1 => by rw [h (2 + 2 * i) (by omega)])]
  have e1 : (fun t : Int => if t < 100 then gn T (3 + 2 * t) else 0) = fun t : Int => if t < 100 then gn U (3 + 2 * t) else 0 := funext fun t => by
    by_cases w : t < 100
    · rw [if_pos w, if_pos w, h (3 + 2 * t) (by omega)]
    · rw [if_neg w, if_neg w]
  have e2 : (fun f : Int => if f < 100 then 8 * gn T (2 + 2 * thN Y + 2 * f + 1) + gn T (2 + 2 * thN Y + 2 * f) else 0) = fun f : Int => if f < 100 then 8 * gn U (2 + 2 * thN Y + 2 * f + 1) + gn U (2 + 2 * thN Y + 2 * f) else 0 := funext fun f => by
    by_cases w : f < 100
    · rw [if_pos w, if_pos w, h (2 + 2 * thN Y + 2 * f + 1) (by omega), h (2 + 2 * thN Y + 2 * f) (by omega)]
    · rw [if_neg w, if_neg w]
  rw [e1, e2]
theorem on_l (hW : WQ Y) : thN Y ≤ 9 ∧ foN Y ≤ 6 := by
  have a := hW.2.1.1
  have b := hW.2.1.2.1
  unfold thN foN
  omega
theorem onN_w {T : List Int32} (hW : WQ Y) (h : wS Y (onS T Y)) : wS Y (onN T Y) := by
  have l := on_l hW
  refine ⟨h.1, h.2.1, fun t t0 t1 => ?_, fun f f0 f1 => ?_⟩
  · show 0 ≤ (if t < 100 then gn T (3 + 2 * t) else 0) ∧ (if t < 100 then gn T (3 + 2 * t) else 0) ≤ 99
    rw [if_pos (by omega)]
    exact h.2.2.1 t t0 t1
  · show frP Y (if f < 100 then 8 * gn T (2 + 2 * thN Y + 2 * f + 1) + gn T (2 + 2 * thN Y + 2 * f) else 0)
    rw [if_pos (by omega)]
    exact h.2.2.2 f f0 f1
theorem onN_c {T : List Int32} {hu : Int → Int} (hW : WQ Y) (h : tS 31 Y hu (onS T Y) m) : tS 31 Y hu (onN T Y) m := by
  have l := on_l hW
  refine ⟨h.1, fun t t0 t1 => ?_, fun f f0 f1 => ?_, h.2.2.2⟩
  · show _ = if t < 100 then gn T (3 + 2 * t) else 0
    rw [if_pos (by omega)]
    exact h.2.1 t t0 t1
  · show _ = if f < 100 then 8 * gn T (2 + 2 * thN Y + 2 * f + 1) + gn T (2 + 2 * thN Y + 2 * f) else 0
    rw [if_pos (by omega)]
    exact h.2.2.1 f f0 f1
theorem onN_m {T : List Int32} {hu : Int → Int} {v : Int} (hW : WQ Y) (h : tM v Y hu (onS T Y) m) : tM v Y hu (onN T Y) m := by
  have l := on_l hW
  refine ⟨h.1, fun t t0 t1 => ?_, fun f f0 f1 => ?_, h.2.2.2⟩
  · show _ = if t < 100 then gn T (3 + 2 * t) else 0
    rw [if_pos (by omega)]
    exact h.2.1 t t0 t1
  · show _ = if f < 100 then 8 * gn T (2 + 2 * thN Y + 2 * f + 1) + gn T (2 + 2 * thN Y + 2 * f) else 0
    rw [if_pos (by omega)]
    exact h.2.2.1 f f0 f1
/-- all anew but the seed -/
theorem cN_new {S : Sd} (hm : aTm aT0 m) (hS : tS 31 Y' (huA Y') S m) (h4 : (gi m 34 3).toInt = 0) (h8 : (gi m 38 3).toInt = 0) (F : ∀ k, 39 ≤ k → k ≤ 180 → zat m k = zat m0 k) (hf : zfl m 0 15 = zfl m0 0 15) (e4 : gi m 31 4 = gi m0 31 4) (c : cN Y N m0) : cN Y' (S, K0, P00, N.2.2.2) m := by
  have r2 := rngO_r2 hm
  refine ⟨hS, ⟨⟨show (0 : Int) ≤ 0 by decide, show (0 : Int) ≤ 40 by decide⟩, h4, fun i i0 i1 => by exfalso; have j : i < 0 := i1; omega⟩, ⟨⟨show (0 : Int) ≤ 0 by decide, show (0 : Int) ≤ 20 by decide⟩, ⟨h8, r2.1, by omega⟩, rcE_q (F 39 (by decide) (by decide)) (F 40 (by decide) (by decide)) c.2.2.1.2.2.1, fun i i0 i1 => by exfalso; have j : i < 0 := i1; omega⟩, by rw [gi_zf hf]; exact c.2.2.2.1, by rw [e4]; exact c.2.2.2.2.1, fun n hn => by rw [gi_zq (F (41 + 7 * n) (by omega) (by omega))]; exact c.2.2.2.2.2 n hn⟩
theorem mN_new {S : Sd} (hm : aTm aT0 m) (hS : tM 0 Z' (huA Z') S m) (h3 : gn (ga m 253) 0 = 0) (h5 : (gi m 221 55).toInt = 0) (h6 : zfl m 221 56 = zfl m0 221 56) (c : mN Z M m0) : mN Z' (S, K0, P00, M.2.2.2) m := by
  have r2 := mO_r54 hm
  exact ⟨hS, ⟨⟨show (0 : Int) ≤ 0 by decide, show (0 : Int) ≤ 40 by decide⟩, h3, fun i i0 i1 => by exfalso; have j : i < 0 := i1; omega⟩, ⟨⟨show (0 : Int) ≤ 0 by decide, show (0 : Int) ≤ 20 by decide⟩, ⟨h5, r2.1, by omega⟩, fun i i0 i1 => by exfalso; have j : i < 0 := i1; omega⟩, by rw [gL_zf h6]; exact c.2.2.2⟩
end JSX
