/-! Words of the same letters: counted forwards and backwards. -/

def fo (m : eW) (e j : Nat) : Nat := (m 80 (5 * e + j)).toNat
theorem fo_lt {m : eW} (he : WFe m) {e j : Nat} (h : e < nE m) (hj : j < fmN m e) : fo m e j < 27 := by
  have h1 := (he.2 e h).2.2.2 j (by have := (he.fm h).2.2; omega)
  unfold fo
  omega
def tC (m : eW) : List Nat → Nat → Nat → Nat
  | [], e, j => if j = fmN m e then (if m 78 e = -1 then 1 else 0) else 0
  | c :: q, e, j => if j = fmN m e then (if m 78 e = -1 then 0 else sm (fun e2 => if m 77 e2 = m 78 e then (if fo m e2 0 = c then tC m q e2 1 else 0) else 0) (nE m)) else (if fo m e j = c then tC m q e (j + 1) else 0)
def tC0 (m : eW) (q : List Nat) (e : Nat) : Nat := match q with
  | [] => 0
  | c :: q => if fo m e 0 = c then tC m q e 1 else 0
def tB (m : eW) (q : List Nat) (g : Int) : Nat := sm (fun e => if m 77 e = g then tC0 m q e else 0) (nE m)
theorem tC_len (m : eW) (q : List Nat) (e : Nat) : tC m q e (fmN m e) = if m 78 e = -1 then (if q = [] then 1 else 0) else tB m q (m 78 e) := by
  cases q with
  | nil =>
    unfold tC
    rw [if_pos rfl]
    by_cases h : m 78 e = -1
    · rw [if_pos h, if_pos h, if_pos rfl]
    · rw [if_neg h, if_neg h]
      symm
      unfold tB
      rw [sm_zero]
      intro i _
      show (if m 77 i = m 78 e then 0 else 0) = 0
      split <;> rfl
  | cons c q =>
    unfold tC
    rw [if_pos rfl]
    by_cases h : m 78 e = -1
    · rw [if_pos h, if_pos h, if_neg (by simp)]
    · rw [if_neg h, if_neg h]
      rfl
theorem tC_0 {m : eW} (q : List Nat) {e : Nat} (h : 1 ≤ fmN m e) : tC m q e 0 = tC0 m q e := by
  cases q with
  | nil => unfold tC; rw [if_neg (by omega)]; rfl
  | cons c q => unfold tC; rw [if_neg (by omega)]; rfl
theorem tC_j {m : eW} (c : Nat) (q : List Nat) {e j : Nat} (h : j < fmN m e) : tC m (c :: q) e j = if fo m e j = c then tC m q e (j + 1) else 0 := by
  rw [tC, if_neg (by omega)]
def tEw (m : eW) (R : Nat → Nat → Nat → List Nat) (e : Nat) : Nat → Nat → Nat → List Nat
  | 0, l, x => if m 78 e = -1 then (if l = 0 then [x] else []) else R l (m 78 e).toNat x
  | _ + 1, 0, _ => []
  | r + 1, l + 1, x => tEw m R e r l (27 * x + fo m e (fmN m e - (r + 1)))
theorem tEw_eq {m : eW} {R : Nat → Nat → Nat → List Nat} {e x : Nat} : ∀ (r l : Nat), r ≤ fmN m e → tEw m R e r l (fcd m e x (fmN m e - r)) = if r ≤ l then (if m 78 e = -1 then (if r = l then [fcd m e x (fmN m e)] else []) else R (l - r) (m 78 e).toNat (fcd m e x (fmN m e))) else [] := by
  intro r
  induction r with
  | zero =>
    intro l _
    rw [if_pos (Nat.zero_le _), Nat.sub_zero, Nat.sub_zero]
    unfold tEw
    by_cases h : m 78 e = -1
    · rw [if_pos h, if_pos h]
      by_cases h2 : l = 0
      · rw [if_pos h2, if_pos h2.symm]
      · rw [if_neg h2, if_neg (fun h3 => h2 h3.symm)]
    · rw [if_neg h, if_neg h]
  | succ r ih =>
    intro l hr
    cases l with
    | zero => rw [if_neg (by omega)]; rfl
    | succ l =>
      unfold tEw
      have e1 : 27 * fcd m e x (fmN m e - (r + 1)) + fo m e (fmN m e - (r + 1)) = fcd m e x (fmN m e - r) := by
        rw [show fmN m e - r = (fmN m e - (r + 1)) + 1 by omega]
        rfl
      rw [e1, ih l (by omega)]
      by_cases h : r ≤ l
      · rw [if_pos h, if_pos (show r + 1 ≤ l + 1 by omega), show l + 1 - (r + 1) = l - r by omega]
        by_cases h2 : r = l
        · rw [if_pos h2, if_pos (show r + 1 = l + 1 by omega)]
        · rw [if_neg h2, if_neg (show ¬ r + 1 = l + 1 by omega)]
      · rw [if_neg h, if_neg (show ¬ r + 1 ≤ l + 1 by omega)]
theorem tlG_eq {m : eW} {R : Nat → Nat → Nat → List Nat} {l g x e : Nat} : tlG m R l g x e = if m 77 e = (g : Int) then tEw m R e (fmN m e) l x else [] := by
  have h := tEw_eq (m := m) (R := R) (e := e) (x := x) (fmN m e) l (Nat.le_refl _)
  rw [Nat.sub_self, show fcd m e x 0 = x from rfl] at h
  unfold tlG
  by_cases h1 : m 77 e = (g : Int)
  · rw [if_pos h1, h]
    by_cases h2 : fmN m e ≤ l
    · rw [if_pos ⟨h1, h2⟩, if_pos h2]
    · rw [if_neg (fun h9 => h2 h9.2), if_neg h2]
  · rw [if_neg (fun h9 => h1 h9.1), if_neg h1]
def dg : Nat → Nat → List Nat
  | 0, _ => []
  | l + 1, z => (z / 27 ^ l % 27) :: dg l z
theorem cnt_lsD (f : Nat → List Nat) (z : Nat) : ∀ n, (lsD f n).count z = sm (fun e => (f e).count z) n := by
  intro n
  induction n with
  | zero => rfl
  | succ n ih => unfold lsD sm; rw [List.count_append, ih]
theorem tEw_cnt {m : eW} (he : WFe m) {N e : Nat} (hx : e < nE m) (H : ∀ l g x z, l < N → (tl m l g x).count z = if z / 27 ^ l = x then tB m (dg l z) (g : Int) else 0) : ∀ (r l x z : Nat), r ≤ fmN m e → l < N + r → (tEw m (tl m) e r l x).count z = if z / 27 ^ l = x then tC m (dg l z) e (fmN m e - r) else 0 := by
  intro r
  induction r with
  | zero =>
    intro l x z _ hl
    rw [Nat.sub_zero, tC_len]
    unfold tEw
    have hn := (he.2 e hx).2.1
    by_cases h : m 78 e = -1
    · rw [if_pos h, if_pos h]
      cases l with
      | zero =>
        rw [if_pos rfl]
        show List.count z [x] = if z / 1 = x then (if ([] : List Nat) = [] then 1 else 0) else 0
        rw [Nat.div_one, if_pos rfl]
        by_cases h2 : z = x
        · rw [if_pos h2, h2]; simp
        · rw [if_neg h2, List.count_singleton]
          rw [if_neg (by simp; omega)]
      | succ l =>
        rw [if_neg (by omega), if_neg (show ¬ dg (l + 1) z = [] by unfold dg; simp)]
        split <;> rfl
    · rw [if_neg h, if_neg h, H l _ x z (by omega), show (((m 78 e).toNat : Nat) : Int) = m 78 e by omega]
  | succ r ih =>
    intro l x z hr hl
    cases l with
    | zero =>
      have : tC m (dg 0 z) e (fmN m e - (r + 1)) = 0 := by
        show tC m [] e _ = 0
        unfold tC
        rw [if_neg (by omega)]
      rw [this]
      unfold tEw
      split <;> rfl
    | succ l =>
      have hf := fo_lt he hx (j := fmN m e - (r + 1)) (by omega)
      unfold tEw
      rw [ih l _ z (by omega) (by omega), show dg (l + 1) z = (z / 27 ^ l % 27) :: dg l z from rfl, tC_j _ _ (by omega), show fmN m e - (r + 1) + 1 = fmN m e - r by omega, show z / 27 ^ (l + 1) = z / 27 ^ l / 27 by rw [Nat.pow_succ, Nat.div_div_eq_div_mul]]
      by_cases h1 : z / 27 ^ l = 27 * x + fo m e (fmN m e - (r + 1))
      · rw [if_pos h1, if_pos (by omega), if_pos (by omega)]
      · rw [if_neg h1]
        by_cases h2 : z / 27 ^ l / 27 = x
        · rw [if_pos h2, if_neg (by omega)]
        · rw [if_neg h2]
theorem tl_cnt {m : eW} (he : WFe m) : ∀ (N l g x z : Nat), l < N → l ≤ 4 → (tl m l g x).count z = if z / 27 ^ l = x then tB m (dg l z) (g : Int) else 0 := by
  intro N
  induction N with
  | zero => intro l g x z h; omega
  | succ N ih =>
    intro l g x z hl h4
    rw [tl_eq he h4, cnt_lsD]
    have H : ∀ l2 g x z, l2 < l → (tl m l2 g x).count z = if z / 27 ^ l2 = x then tB m (dg l2 z) (g : Int) else 0 := fun l2 g x z h => ih l2 g x z (by omega) (by omega)
    unfold tB
    have e1 : sm (fun e => (tlG m (tl m) l g x e).count z) (nE m) = sm (fun e => if z / 27 ^ l = x then (if m 77 e = (g : Int) then tC0 m (dg l z) e else 0) else 0) (nE m) := by
      refine sm_congr (fun e hx => ?_)
      have hfm := he.fm hx
      rw [tlG_eq]
      by_cases h1 : m 77 e = (g : Int)
      · rw [if_pos h1, if_pos h1, tEw_cnt he hx H (fmN m e) l x z (Nat.le_refl _) (by omega), Nat.sub_self, tC_0 _ hfm.1]
      · rw [if_neg h1, if_neg h1]
        split <;> rfl
    rw [e1]
    by_cases h1 : z / 27 ^ l = x
    · simp only [if_pos h1]
    · simp only [if_neg h1]
      rw [sm_zero]
      intro i _
      rfl
theorem sm_swap (f : Nat → Nat → Nat) (a : Nat) : ∀ b, sm (fun i => sm (fun j => f i j) b) a = sm (fun j => sm (fun i => f i j) a) b := by
  intro b
  induction b with
  | zero =>
    show sm (fun _ => 0) a = 0
    rw [sm_zero]
    intro _ _; rfl
  | succ b ih =>
    show sm (fun i => sm (fun j => f i j) b + f i b) a = sm (fun j => sm (fun i => f i j) a) b + sm (fun i => f i b) a
    rw [sm_add, ih]
def nsp (m : eW) (s : (Nat → Nat) × (Nat → Nat → Nat)) (c e k : Nat) : Nat := if fo m e k = c then (if k = 0 then s.1 (m 77 e).toNat else s.2 e (k - 1)) else 0
def nst (m : eW) (s : (Nat → Nat) × (Nat → Nat → Nat)) (c g : Nat) : Nat := sm (fun e => if m 78 e = (g : Int) then nsp m s c e (fmN m e - 1) else 0) (nE m)
def nxs (m : eW) (s : (Nat → Nat) × (Nat → Nat → Nat)) (c : Nat) : (Nat → Nat) × (Nat → Nat → Nat) := (fun g => nst m s c g, fun e k => nsp m s c e k)
def tw0 : (Nat → Nat) × (Nat → Nat → Nat) := (fun g => if g = 0 then 1 else 0, fun _ _ => 0)
def tD (m : eW) (q : List Nat) (e j : Nat) : Nat := if j < fmN m e then tC m q e j else if m 78 e = -1 ∧ q = [] then 1 else 0
def tT (m : eW) (s : (Nat → Nat) × (Nat → Nat → Nat)) (q : List Nat) : Nat := sm (fun e => s.1 (m 77 e).toNat * tC0 m q e + sm (fun k => s.2 e k * tD m q e (k + 1)) (fmN m e)) (nE m)
theorem tT_0 {m : eW} (he : WFe m) (q : List Nat) : tT m tw0 q = tB m q 0 := by
  unfold tT tB
  refine sm_congr (fun e hx => ?_)
  have h1 := (he.2 e hx).1
  have : sm (fun k => tw0.2 e k * tD m q e (k + 1)) (fmN m e) = 0 := by
    rw [sm_zero]
    intro i _
    exact Nat.zero_mul _
  rw [this, Nat.add_zero]
  show (if (m 77 e).toNat = 0 then 1 else 0) * tC0 m q e = _
  by_cases h2 : m 77 e = 0
  · rw [if_pos h2, if_pos (by omega), Nat.one_mul]
  · rw [if_neg h2, if_neg (by omega), Nat.zero_mul]
theorem tT_e {m : eW} (he : WFe m) (s : (Nat → Nat) × (Nat → Nat → Nat)) : tT m s [] = sm (fun e => if m 78 e = -1 then s.2 e (fmN m e - 1) else 0) (nE m) := by
  unfold tT
  refine sm_congr (fun e hx => ?_)
  have hf := he.fm hx
  obtain ⟨L, hL⟩ : ∃ L, fmN m e = L + 1 := ⟨fmN m e - 1, by omega⟩
  show s.1 _ * 0 + _ = _
  rw [Nat.mul_zero, Nat.zero_add, hL]
  show sm (fun k => s.2 e k * tD m [] e (k + 1)) L + s.2 e L * tD m [] e (L + 1) = _
  have : sm (fun k => s.2 e k * tD m [] e (k + 1)) L = 0 := by
    rw [sm_zero]
    intro i hi
    unfold tD tC
    rw [if_pos (by omega), if_neg (by omega), Nat.mul_zero]
  rw [this, Nat.zero_add]
  unfold tD
  rw [if_neg (by omega), show L + 1 - 1 = L by omega]
  by_cases h : m 78 e = -1
  · rw [if_pos ⟨h, rfl⟩, if_pos h, Nat.mul_one]
  · rw [if_neg (fun h9 => h h9.1), if_neg h, Nat.mul_zero]
theorem tT_s {m : eW} (he : WFe m) (s : (Nat → Nat) × (Nat → Nat → Nat)) (c : Nat) (q : List Nat) : tT m s (c :: q) = tT m (nxs m s c) q := by
  have L1 : tT m s (c :: q) = sm (fun e => sm (fun k => nsp m s c e k * tC m q e (k + 1)) (fmN m e)) (nE m) := by
    unfold tT
    refine sm_congr (fun e hx => ?_)
    have hf := he.fm hx
    obtain ⟨L, hL⟩ : ∃ L, fmN m e = L + 1 := ⟨fmN m e - 1, by omega⟩
    have hD : ∀ k, tD m (c :: q) e (k + 1) = if k < L then (if fo m e (k + 1) = c then tC m q e (k + 2) else 0) else 0 := by
      intro k
      unfold tD
      by_cases h : k < L
      · rw [if_pos h, if_pos (by omega), tC_j _ _ (by omega)]
      · rw [if_neg h, if_neg (by omega), if_neg (by simp)]
    rw [hL]
    rw [show L + 1 = 1 + L by omega, sm_split (fun k => nsp m s c e k * tC m q e (k + 1)) 1 L]
    have a1 : sm (fun k => nsp m s c e k * tC m q e (k + 1)) 1 = s.1 (m 77 e).toNat * tC0 m (c :: q) e := by
      show 0 + nsp m s c e 0 * tC m q e 1 = s.1 _ * (if fo m e 0 = c then tC m q e 1 else 0)
      unfold nsp
      by_cases h : fo m e 0 = c
      · rw [if_pos h, if_pos rfl, if_pos h, Nat.zero_add]
      · rw [if_neg h, if_neg h, Nat.zero_mul, Nat.mul_zero]
    rw [a1]
    congr 1
    rw [show 1 + L = L + 1 by omega]
    show sm (fun k => s.2 e k * tD m (c :: q) e (k + 1)) L + s.2 e L * tD m (c :: q) e (L + 1) = _
    rw [hD L, if_neg (by omega), Nat.mul_zero, Nat.add_zero]
    refine sm_congr (fun k hk => ?_)
    rw [hD k, if_pos hk]
    unfold nsp
    rw [show 1 + k = k + 1 by omega]
    by_cases h : fo m e (k + 1) = c
    · rw [if_pos h, if_pos h, if_neg (by omega), show k + 1 - 1 = k by omega]
    · rw [if_neg h, if_neg h, Nat.zero_mul, Nat.mul_zero]
  have L2 : sm (fun e => sm (fun k => nsp m s c e k * tC m q e (k + 1)) (fmN m e)) (nE m) = sm (fun e => nsp m s c e (fmN m e - 1) * tB m q (m 78 e)) (nE m) + sm (fun e => sm (fun k => nsp m s c e k * tD m q e (k + 1)) (fmN m e)) (nE m) := by
    rw [← sm_add]
    refine sm_congr (fun e hx => ?_)
    have hf := he.fm hx
    obtain ⟨L, hL⟩ : ∃ L, fmN m e = L + 1 := ⟨fmN m e - 1, by omega⟩
    rw [hL, show L + 1 - 1 = L by omega]
    show sm (fun k => nsp m s c e k * tC m q e (k + 1)) L + nsp m s c e L * tC m q e (L + 1) = _ + (sm (fun k => nsp m s c e k * tD m q e (k + 1)) L + nsp m s c e L * tD m q e (L + 1))
    have a1 : sm (fun k => nsp m s c e k * tD m q e (k + 1)) L = sm (fun k => nsp m s c e k * tC m q e (k + 1)) L := by
      refine sm_congr (fun k hk => ?_)
      unfold tD
      rw [if_pos (by omega)]
    have a2 : tC m q e (L + 1) = tB m q (m 78 e) + tD m q e (L + 1) := by
      rw [← hL, tC_len]
      unfold tD
      rw [if_neg (show ¬ fmN m e < fmN m e by omega)]
      by_cases h : m 78 e = -1
      · rw [if_pos h]
        have : tB m q (m 78 e) = 0 := by
          unfold tB
          rw [sm_zero]
          intro i hi
          rw [if_neg (by have := (he.2 i hi).1; omega)]
        rw [this, Nat.zero_add]
        by_cases h2 : q = []
        · rw [if_pos h2, if_pos ⟨h, h2⟩]
        · rw [if_neg h2, if_neg (fun h9 => h2 h9.2)]
      · rw [if_neg h, if_neg (fun h9 => h h9.1), Nat.add_zero]
    rw [a1, a2, Nat.mul_add]
    omega
  have L3 : sm (fun e => nsp m s c e (fmN m e - 1) * tB m q (m 78 e)) (nE m) = sm (fun e => nst m s c (m 77 e).toNat * tC0 m q e) (nE m) := by
    unfold tB nst
    have b1 : ∀ e, nsp m s c e (fmN m e - 1) * sm (fun e2 => if m 77 e2 = m 78 e then tC0 m q e2 else 0) (nE m) = sm (fun e2 => nsp m s c e (fmN m e - 1) * (if m 77 e2 = m 78 e then tC0 m q e2 else 0)) (nE m) := fun e => (sm_mul _ _ _).symm
    have b2 : ∀ e, sm (fun e2 => if m 78 e2 = (((m 77 e).toNat : Nat) : Int) then nsp m s c e2 (fmN m e2 - 1) else 0) (nE m) * tC0 m q e = sm (fun e2 => tC0 m q e * (if m 78 e2 = (((m 77 e).toNat : Nat) : Int) then nsp m s c e2 (fmN m e2 - 1) else 0)) (nE m) := fun e => by rw [sm_mul, Nat.mul_comm]
    simp only [b1, b2]
    rw [sm_swap]
    refine sm_congr (fun e hx => sm_congr (fun e2 hx2 => ?_))
    have h1 := (he.2 e hx).1
    by_cases h : m 77 e = m 78 e2
    · rw [if_pos h, if_pos (by omega), Nat.mul_comm]
    · rw [if_neg h, if_neg (by omega), Nat.mul_zero, Nat.mul_zero]
  rw [L1, L2, L3, ← sm_add]
  rfl
theorem tT_z {m : eW} {s : (Nat → Nat) × (Nat → Nat → Nat)} {c : Nat} (h : ∀ e k, e < nE m → k < fmN m e → nsp m s c e k = 0) (he : WFe m) (q : List Nat) : tT m (nxs m s c) q = 0 := by
  unfold tT
  rw [sm_zero]
  intro e hx
  have h1 : (nxs m s c).1 (m 77 e).toNat = 0 := by
    show nst m s c _ = 0
    unfold nst
    rw [sm_zero]
    intro e2 hx2
    have := he.fm hx2
    rw [h e2 _ hx2 (by omega)]
    split <;> rfl
  have h2 : sm (fun k => (nxs m s c).2 e k * tD m q e (k + 1)) (fmN m e) = 0 := by
    rw [sm_zero]
    intro k hk
    show nsp m s c e k * _ = 0
    rw [h e k hx hk, Nat.zero_mul]
  rw [h1, h2, Nat.zero_mul]

