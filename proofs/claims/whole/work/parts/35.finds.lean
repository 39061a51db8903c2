/-! Readings of the lexicon. -/
abbrev fT : Type := List (List Nat × List Nat)
def fmN (m : eW) (e : Nat) : Nat := (m 79 e).toNat
/-- a pair goes on with a form: its next letter, or nothing above -/
def isFm (m : eW) (e done d : Nat) : Bool := decide (m 68 d = 27) || decide (m 68 d = m 80 (5 * e + done))
def dnT (m : eW) (done d : Nat) : Nat := if m 68 d = 27 then done else done + 1
def isLs (m : eW) (ll : Nat → Int) (nl j a b c d : Nat) : Bool := decide (m 68 d = 27) && decide (loT m ll nl j d = some nl) && goes m (-1) a b c d && isE m (-1) b c d
/-- behind the last entry: nothing, or one insert -/
def enL (m : eW) (ll : Nat → Int) (nl j a b c : Nat) : fT := (if j = nl ∧ isE m (-1) a b c = true then [([], [])] else []) ++ lsD (fun d => if isLs m ll nl j a b c d then [([d], [])] else []) (nP m)
def beL (m : eW) (ll : Nat → Int) (nl : Nat) (R : Nat → Nat → Nat → Nat → Nat → Nat → Nat → Nat → fT) (e done all j a b c : Nat) : fT := if done < fmN m e then R 0 e done all j a b c else if m 78 e = -1 then enL m ll nl j a b c else R 1 (m 78 e).toNat 0 all j a b c
/-- readings from within entry e (0), or from the choice of an entry of class e on (1) -/
def fL (m : eW) (ll : Nat → Int) (nl : Nat) : Nat → Nat → Nat → Nat → Nat → Nat → Nat → Nat → Nat → fT
  | 0, _, _, _, _, _, _, _, _ => []
  | f + 1, 0, e, done, all, j, a, b, c => lsD (fun d => match loT m ll nl j d with
    | none => []
    | some j2 => if isFm m e done d && goes m (-1) a b c d then (beL m ll nl (fL m ll nl f) e (dnT m done d) all j2 b c d).map (fun x => (d :: x.1, x.2)) else []) (nP m)
  | f + 1, _ + 1, g, _, all, j, a, b, c => lsD (fun e => if m 77 e = (g : Int) ∧ all + fmN m e ≤ 6 then (fL m ll nl f 0 e 0 (all + fmN m e) j a b c).map (fun x => (x.1, e :: x.2)) else []) (nE m)
/-- steps that may still come -/
def mF (m : eW) (nl md e done all j : Nat) : Nat := (if md = 0 then fmN m e - done else 0) + 2 * (6 - all) + (nl - j)
theorem loT_ins {m : eW} (hp : WFp m) {ll : Nat → Int} {nl j d j2 : Nat} (hd : d < nP m) (h : loT m ll nl j d = some j2) (h27 : m 68 d = 27) : j < nl ∧ j2 = j + 1 := by
  have := (hp.2.1 d hd).2.2
  unfold loT at h
  rw [if_neg (fun h9 => this ⟨h27, h9⟩)] at h
  split at h
  · next he => cases h; exact ⟨he.1, rfl⟩
  · cases h
theorem loT_j {m : eW} {ll : Nat → Int} {nl j d j2 : Nat} (h : loT m ll nl j d = some j2) (hj : j ≤ nl) : j ≤ j2 ∧ j2 ≤ nl := by
  unfold loT at h
  split at h
  · cases h; omega
  · split at h
    · cases h; omega
    · cases h
theorem mF_be {m : eW} (hp : WFp m) {ll : Nat → Int} {nl e done all j d j2 : Nat} (hd : d < nP m) (hj : j ≤ nl) (hdn : done < fmN m e) (h : loT m ll nl j d = some j2) : (dnT m done d < fmN m e → mF m nl 0 e (dnT m done d) all j2 < mF m nl 0 e done all j) ∧ (¬ dnT m done d < fmN m e → ∀ g k, mF m nl 1 g k all j2 < mF m nl 0 e done all j) := by
  have h1 := loT_j h hj
  unfold dnT mF
  by_cases h27 : m 68 d = 27
  · have h2 := loT_ins hp hd h h27
    rw [if_pos h27]
    refine ⟨fun _ => ?_, fun h9 => absurd hdn h9⟩
    rw [if_pos rfl]
    omega
  · rw [if_neg h27]
    refine ⟨fun h3 => ?_, fun h3 g k => ?_⟩
    · rw [if_pos rfl, if_pos rfl]; omega
    · rw [if_pos rfl, if_neg (by decide)]; omega
theorem mF_ne {m : eW} {nl e all j : Nat} (h1 : 1 ≤ fmN m e) (h2 : all + fmN m e ≤ 6) (g k : Nat) : mF m nl 0 e 0 (all + fmN m e) j < mF m nl 1 g k all j := by
  unfold mF
  rw [if_pos rfl, if_neg (by decide)]
  omega
theorem WFe.fm {m : eW} (h : WFe m) {e : Nat} (he : e < nE m) : 1 ≤ fmN m e ∧ fmN m e ≤ 5 ∧ (fmN m e : Int) = m 79 e := by
  have := (h.2 e he).2.2.1
  unfold fmN
  omega
/-- what a state of the search must keep to -/
def okF (m : eW) (nl md e done all j : Nat) : Prop := j ≤ nl ∧ all ≤ 6 ∧ (md = 0 → e < nE m ∧ done < fmN m e)
theorem fL_stab {m : eW} (hp : WFp m) (he : WFe m) {ll : Nat → Int} {nl : Nat} : ∀ (f g md e done all j a b c : Nat), md ≤ 1 → okF m nl md e done all j → mF m nl md e done all j < f → mF m nl md e done all j < g → fL m ll nl f md e done all j a b c = fL m ll nl g md e done all j a b c := by
  intro f
  induction f with
  | zero => intro g md e done all j a b c _ _ h; omega
  | succ f ih =>
    intro g md e done all j a b c hmd hok h1 h2
    match g, h2 with
    | 0, h2 => omega
    | g + 1, h2 =>
      match md, hmd with
      | 0, _ =>
        unfold fL
        refine lsD_congr (fun d hd => ?_)
        cases hl : loT m ll nl j d with
        | none => rfl
        | some j2 =>
          dsimp only
          cases hc : (isFm m e done d && goes m (-1) a b c d)
          · rfl
          · rw [if_pos rfl, if_pos rfl]
            congr 1
            have hb := mF_be (all := all) hp hd hok.1 (hok.2.2 rfl).2 hl
            have hj := loT_j hl hok.1
            unfold beL
            by_cases hdn : dnT m done d < fmN m e
            · rw [if_pos hdn, if_pos hdn]
              have := hb.1 hdn
              exact ih g 0 e _ all j2 b c d (by decide) ⟨hj.2, hok.2.1, fun _ => ⟨(hok.2.2 rfl).1, hdn⟩⟩ (by omega) (by omega)
            · rw [if_neg hdn, if_neg hdn]
              by_cases hn : m 78 e = -1
              · rw [if_pos hn, if_pos hn]
              · rw [if_neg hn, if_neg hn]
                have := hb.2 hdn (m 78 e).toNat 0
                exact ih g 1 _ 0 all j2 b c d (by decide) ⟨hj.2, hok.2.1, fun h9 => by cases h9⟩ (by omega) (by omega)
      | 1, _ =>
        unfold fL
        refine lsD_congr (fun x hx => ?_)
        by_cases hc : m 77 x = (e : Int) ∧ all + fmN m x ≤ 6
        · rw [if_pos hc, if_pos hc]
          have hfm := he.fm hx
          have := mF_ne (nl := nl) (j := j) hfm.1 hc.2 e done
          rw [ih g 0 x 0 _ j a b c (by decide) ⟨hok.1, hc.2, fun _ => ⟨hx, hfm.1⟩⟩ (by omega) (by omega)]
        · rw [if_neg hc, if_neg hc]
def fl (m : eW) (ll : Nat → Int) (nl md e done all j a b c : Nat) : fT := fL m ll nl 20 md e done all j a b c
theorem mF_le {m : eW} (he : WFe m) {nl md e done all j : Nat} (hn : nl ≤ 6) (hok : okF m nl md e done all j) (ha : md = 0 → fmN m e ≤ all) : mF m nl md e done all j ≤ 18 := by
  unfold mF
  by_cases hm : md = 0
  · rw [if_pos hm]; have := ha hm; have := hok.2.1; omega
  · rw [if_neg hm]; omega
theorem fL_step0 {m : eW} (hp : WFp m) (he : WFe m) {ll : Nat → Int} {nl f e done all j a b c : Nat} (hok : okF m nl 0 e done all j) (hf : mF m nl 0 e done all j ≤ f) : fL m ll nl (f + 1) 0 e done all j a b c = lsD (fun d => match loT m ll nl j d with
    | none => []
    | some j2 => if isFm m e done d && goes m (-1) a b c d then (beL m ll nl (fL m ll nl (f + 1)) e (dnT m done d) all j2 b c d).map (fun x => (d :: x.1, x.2)) else []) (nP m) := by
  rw [fL]
  refine lsD_congr (fun d hd => ?_)
  cases hl : loT m ll nl j d with
  | none => rfl
  | some j2 =>
    dsimp only
    cases hc : (isFm m e done d && goes m (-1) a b c d)
    · rfl
    · rw [if_pos rfl, if_pos rfl]
      congr 1
      have hb := mF_be (all := all) hp hd hok.1 (hok.2.2 rfl).2 hl
      have hj := loT_j hl hok.1
      unfold beL
      by_cases hdn : dnT m done d < fmN m e
      · rw [if_pos hdn, if_pos hdn]
        have := hb.1 hdn
        exact fL_stab hp he f (f + 1) 0 e _ all j2 b c d (by decide) ⟨hj.2, hok.2.1, fun _ => ⟨(hok.2.2 rfl).1, hdn⟩⟩ (by omega) (by omega)
      · rw [if_neg hdn, if_neg hdn]
        by_cases hn : m 78 e = -1
        · rw [if_pos hn, if_pos hn]
        · rw [if_neg hn, if_neg hn]
          have := hb.2 hdn (m 78 e).toNat 0
          exact fL_stab hp he f (f + 1) 1 _ 0 all j2 b c d (by decide) ⟨hj.2, hok.2.1, fun h9 => by cases h9⟩ (by omega) (by omega)
theorem fL_step1 {m : eW} (hp : WFp m) (he : WFe m) {ll : Nat → Int} {nl f g k all j a b c : Nat} (hok : okF m nl 1 g k all j) (hf : mF m nl 1 g k all j ≤ f) : fL m ll nl (f + 1) 1 g k all j a b c = lsD (fun e => if m 77 e = (g : Int) ∧ all + fmN m e ≤ 6 then (fL m ll nl (f + 1) 0 e 0 (all + fmN m e) j a b c).map (fun x => (x.1, e :: x.2)) else []) (nE m) := by
  rw [fL]
  refine lsD_congr (fun x hx => ?_)
  by_cases hc : m 77 x = (g : Int) ∧ all + fmN m x ≤ 6
  · rw [if_pos hc, if_pos hc]
    have hfm := he.fm hx
    have := mF_ne (nl := nl) (j := j) hfm.1 hc.2 g k
    rw [fL_stab hp he f (f + 1) 0 x 0 _ j a b c (by decide) ⟨hok.1, hc.2, fun _ => ⟨hx, hfm.1⟩⟩ (by omega) (by omega)]
  · rw [if_neg hc, if_neg hc]
theorem fl_0 {m : eW} (hp : WFp m) (he : WFe m) {ll : Nat → Int} {nl e done all j a b c : Nat} (hn : nl ≤ 6) (hok : okF m nl 0 e done all j) (ha : fmN m e ≤ all) : fl m ll nl 0 e done all j a b c = lsD (fun d => match loT m ll nl j d with
    | none => []
    | some j2 => if isFm m e done d && goes m (-1) a b c d then (beL m ll nl (fl m ll nl) e (dnT m done d) all j2 b c d).map (fun x => (d :: x.1, x.2)) else []) (nP m) := fL_step0 hp he hok (Nat.le_trans (mF_le he hn hok (fun _ => ha)) (by decide))
theorem fl_1 {m : eW} (hp : WFp m) (he : WFe m) {ll : Nat → Int} {nl g k all j a b c : Nat} (hn : nl ≤ 6) (hok : okF m nl 1 g k all j) : fl m ll nl 1 g k all j a b c = lsD (fun e => if m 77 e = (g : Int) ∧ all + fmN m e ≤ 6 then (fl m ll nl 0 e 0 (all + fmN m e) j a b c).map (fun x => (x.1, e :: x.2)) else []) (nE m) := fL_step1 hp he hok (Nat.le_trans (mF_le he hn hok (fun h9 => by cases h9)) (by decide))

