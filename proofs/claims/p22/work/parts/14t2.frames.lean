/-! the reading of sums: frames with the operators that are held back -/
def rkI (o : Int) : Int := if o = 42 then 1 else if o = 41 then 2 else if o = 43 then 3 else if o = 38 ∨ o = 39 ∨ o = 40 then 4 else if o = 31 ∨ o = 32 then 5 else 6
/-- kind, pair, phase, begins, operators (the last one first) -/
abbrev Fm : Type := Int × Int × Int × Int × List Int
def rp (m : zM) : List Fm → Int → Int → Prop
  | [], D, n => D = 0 ∧ n = 0
  | f :: r, D, n => (gn (ga m 242) (D - 1) = f.1 ∧ gn (ga m 245) (D - 1) = f.2.1 ∧ gn (ga m 243) (D - 1) = f.2.2.1 ∧ gn (ga m 244) (D - 1) = f.2.2.2.1 ∧ gn (ga m 246) (D - 1) = n - (f.2.2.2.2.length : Int)) ∧ (∀ i : Nat, i < f.2.2.2.2.length → gn (ga m 247) (n - 1 - (i : Int)) = f.2.2.2.2.getD i 0) ∧ rp m r (D - 1) (n - (f.2.2.2.2.length : Int))
def nb : List Int → Int
  | [] => 0
  | o :: r => (if o = 43 then 0 else 1) + nb r
def nn : List Int → Int
  | [] => 0
  | o :: r => (if o = 43 then 1 else 0) + nn r
theorem nb_nn : ∀ l : List Int, nb l + nn l = (l.length : Int) ∧ 0 ≤ nb l ∧ 0 ≤ nn l
  | [] => by decide
  | o :: r => by
    have h := nb_nn r
    simp only [nb, nn, List.length_cons]
    split <;> omega
def arF (f : Fm) : Int := if f.1 = 4 then (if f.2.1 = 44 then 2 else 1) else if f.1 = 3 then (if f.2.1 = 44 then 1 else 0) else 0
theorem arF_b (f : Fm) : 0 ≤ arF f ∧ arF f ≤ 2 := by
  unfold arF
  split
  · split <;> omega
  · split
    · split <;> omega
    · omega
def hS : List Fm → Int
  | [] => 0
  | f :: r => nb f.2.2.2.2 + arF f + hS r
def nS : List Fm → Int
  | [] => 0
  | f :: r => nn f.2.2.2.2 + nS r
def chn : List Int → Prop
  | [] => True
  | [_] => True
  | a :: b :: t => (rkI b < rkI a ∨ (a = 43 ∧ b = 43)) ∧ chn (b :: t)
theorem chn_t {a : Int} : ∀ {l : List Int}, chn (a :: l) → chn l
  | [], _ => trivial
  | _ :: _, h => h.2
def opI (o : Int) : Prop := (31 ≤ o ∧ o ≤ 35) ∨ (38 ≤ o ∧ o ≤ 43)
theorem rk_b (o : Int) : 1 ≤ rkI o ∧ rkI o ≤ 6 := by
  unfold rkI
  repeat' split
  all_goals omega
theorem rk_3 {o : Int} (h : rkI o = 3) : o = 43 := by
  unfold rkI at h
  split at h
  · omega
  · split at h
    · omega
    · split at h
      · assumption
      · split at h
        · omega
        · split at h <;> omega
def lv (r : Int) : Int := if r ≤ 1 then 1 else if r ≤ 3 then 2 else if r = 4 then 3 else if r = 5 then 4 else 5
theorem chn_nb : ∀ {l : List Int} {a : Int}, chn (a :: l) → nb (a :: l) ≤ lv (rkI a)
  | [], a, _ => by
    have := rk_b a
    unfold lv nb nb
    repeat' split
    all_goals omega
  | b :: t, a, h => by
    have ih := chn_nb h.2
    have ra := rk_b a
    have rb := rk_b b
    have e : nb (a :: b :: t) = (if a = 43 then 0 else 1) + nb (b :: t) := rfl
    rw [e]
    rcases h.1 with h1 | ⟨h1, h2⟩
    · by_cases q : a = 43
      · have r3 : rkI a = 3 := by rw [q]; decide
        rw [if_pos q]
        unfold lv at ih ⊢
        repeat' split at ih
        all_goals repeat' split
        all_goals omega
      · have r3 : ¬ rkI a = 3 := fun w => q (rk_3 w)
        rw [if_neg q]
        unfold lv at ih ⊢
        repeat' split at ih
        all_goals repeat' split
        all_goals omega
    · subst h1 h2
      rw [if_pos rfl]
      omega
theorem chn_5 {l : List Int} (h : chn l) : nb l ≤ 5 := by
  cases l with
  | nil => decide
  | cons a r =>
    have := chn_nb h
    unfold lv at this
    repeat' split at this
    all_goals omega
def okF (f : Fm) : Prop := chn f.2.2.2.2 ∧ (∀ o ∈ f.2.2.2.2, opI o) ∧ (f.2.2.1 = 0 → ∀ o ∈ f.2.2.2.2, ¬ rkI o = 4) ∧ (¬ f.2.2.2.1 = 0 → ∀ o ∈ f.2.2.2.2, rkI o ≤ 3)
def kd : List Fm → Prop
  | [] => False
  | [f] => 0 ≤ f.1 ∧ f.1 ≤ 1
  | f :: g :: r => (2 ≤ f.1 ∧ f.1 ≤ 6) ∧ (f.1 = 3 ∨ f.1 = 4 → f.2.1 = 36 ∨ f.2.1 = 37 ∨ f.2.1 = 44) ∧ (f.1 = 6 → f.2.1 = 44) ∧ kd (g :: r)
def okL (l : List Fm) : Prop := ∀ f ∈ l, okF f
theorem hS_b : ∀ {l : List Fm}, okL l → 0 ≤ hS l ∧ hS l ≤ 7 * (l.length : Int)
  | [], _ => by decide
  | f :: r, h => by
    have ih := hS_b (l := r) (fun g hg => h g (List.mem_cons_of_mem _ hg))
    have a := arF_b f
    have b := chn_5 (h f List.mem_cons_self).1
    have c := nb_nn f.2.2.2.2
    simp only [hS, List.length_cons]
    omega
theorem nS_0 : ∀ l : List Fm, 0 ≤ nS l
  | [] => by decide
  | f :: r => by
    have ih := nS_0 r
    have c := nb_nn f.2.2.2.2
    simp only [nS]
    omega
theorem rp_D {m : zM} : ∀ {l : List Fm} {D n : Int}, rp m l D n → okL l → D = (l.length : Int) ∧ 0 ≤ n ∧ n ≤ 5 * (l.length : Int) + nS l
  | [], D, n, h, _ => by
    obtain ⟨h1, h2⟩ := h
    subst h1 h2
    decide
  | f :: r, D, n, h, hk => by
    have ih := rp_D h.2.2 (fun g hg => hk g (List.mem_cons_of_mem _ hg))
    have b := chn_5 (hk f List.mem_cons_self).1
    have c := nb_nn f.2.2.2.2
    simp only [nS, List.length_cons]
    omega
theorem rp_eq {m m' : zM} : ∀ {l : List Fm} {D n : Int}, rp m l D n → okL l → (∀ k, k = 242 ∨ k = 243 ∨ k = 244 ∨ k = 245 ∨ k = 246 → ∀ i, 0 ≤ i → i < D → gn (ga m' k) i = gn (ga m k) i) → (∀ i, 0 ≤ i → i < n → gn (ga m' 247) i = gn (ga m 247) i) → rp m' l D n
  | [], _, _, h, _, _, _ => h
  | f :: r, D, n, h, hk, h1, h2 => by
    have hD := rp_D h hk
    have hk' : okL r := fun g hg => hk g (List.mem_cons_of_mem _ hg)
    have hD2 := rp_D h.2.2 hk'
    have c := nb_nn f.2.2.2.2
    simp only [List.length_cons] at hD
    obtain ⟨⟨a1, a2, a3, a4, a5⟩, b, e⟩ := h
    have g : ∀ k, k = 242 ∨ k = 243 ∨ k = 244 ∨ k = 245 ∨ k = 246 → gn (ga m' k) (D - 1) = gn (ga m k) (D - 1) := fun k q => h1 k q (D - 1) (by omega) (by omega)
    refine ⟨⟨by rw [g 242 (by simp)]; exact a1, by rw [g 245 (by simp)]; exact a2, by rw [g 243 (by simp)]; exact a3, by rw [g 244 (by simp)]; exact a4, by rw [g 246 (by simp)]; exact a5⟩, fun i hi => ?_, rp_eq e hk' (fun k q i i0 i1 => h1 k q i i0 (by omega)) (fun i i0 i1 => h2 i i0 (by omega))⟩
    rw [h2 _ (by omega) (by omega)]
    exact b i hi
theorem hgt_ex {cs cs' : List Int32} {a : Nat} : ∀ {n : Nat}, (∀ i, a ≤ i → i < a + n → cs'.getD i 0 = cs.getD i 0) → hgt cs' a n = hgt cs a n
  | 0, _ => rfl
  | n + 1, h => by
    unfold hgt
    rw [hgt_ex (n := n) (fun i h1 h2 => h i h1 (by omega)), h (a + n) (by omega) (by omega)]
/-- one code more -/
theorem hgt_add {cs : List Int32} {a n H h' : Nat} {s : Int32} (hH : hgt cs a n = some H) (hl : a + n < cs.length) (hs : hst s H = some h') : hgt (cs.set (a + n) s) a (n + 1) = some h' := by
  have e := hgt_ex (cs := cs) (cs' := cs.set (a + n) s) (a := a) (n := n) (fun i h1 h2 => getD_set_ne (by omega))
  unfold hgt
  rw [e, hH]
  show hst ((cs.set (a + n) s).getD (a + n) 0) H = some h'
  rw [getD_set_eq hl]
  exact hs
