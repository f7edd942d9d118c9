/-! the search backward: from the maps of a goal to those of which they come -/
def pS (k : Nat) (b : Nat → Bool) (S : Nat → Prop) (d x : Nat) : Prop := ∃ g, g < 5 ^ k ∧ S g ∧ pth k b g d x
theorem pS_step {k t x y d : Nat} {b : Nat → Bool} {S : Nat → Prop} (hs : stp k b t x y) (h : pS k b S d y) : pS k b S (d + 1) x := by
  obtain ⟨g, g1, g2, g3⟩ := h
  exact ⟨g, g1, g2, t, hs.1, hs.2.1, by rw [hs.2.2]; exact g3⟩
theorem pS_first {k x d : Nat} {b : Nat → Bool} {S : Nat → Prop} (hx : x < 5 ^ k) (h : pS k b S (d + 1) x) : ∃ t y, y < 5 ^ k ∧ stp k b t x y ∧ pS k b S d y := by
  obtain ⟨g, g1, g2, t, t1, t2, t3⟩ := h
  exact ⟨t, _, slN_lt hx (mvAt_ok t1), ⟨t1, t2, rfl⟩, g, g1, g2, t3⟩
theorem pS_0 {k x : Nat} {b : Nat → Bool} {S : Nat → Prop} : pS k b S 0 x ↔ x < 5 ^ k ∧ S x := by
  constructor
  · rintro ⟨g, g1, g2, g3⟩
    have e : x = g := g3
    rw [e]; exact ⟨g1, g2⟩
  · rintro ⟨h1, h2⟩
    exact ⟨x, h1, h2, rfl⟩
theorem pS_72 {k x d : Nat} {b : Nat → Bool} {S : Nat → Prop} (hk : k ≤ 6) (hx : x < 5 ^ k) (h : pS k b S d x) (hm : ∀ d2, d2 < d → ¬ pS k b S d2 x) : d ≤ 72 := by
  obtain ⟨g, g1, g2, g3⟩ := h
  obtain ⟨d2, a1, a2⟩ := pth72 hk g1 hx g3
  rcases Nat.lt_or_ge 72 d with q | q
  · exact absurd ⟨g, g1, g2, a2⟩ (hm d2 (by omega))
  · exact q
/-- the map that a code of the class is -/
def un (k c : Nat) : Nat := c / 5 ^ (6 - k)
theorem un_sc {k a : Nat} : un k (sc k a) = a := by unfold un sc; exact Nat.mul_div_cancel _ (p5_pos _)
/-- how far a map is, by the table -/
def fS (k : Nat) (fs : Nat → Int32) (x : Nat) : Int32 := fs (sc k x)
def nQ (k : Nat) (fq : Nat → Int32) (i : Nat) : Nat := un k (tN fq i)
theorem fS_us {k x : Nat} {fs : Nat → Int32} {v : Int32} : fS k (upd fs (sc k x) v) x = v := pk_us
theorem fS_un {k x y : Nat} {fs : Nat → Int32} {v : Int32} (h : ¬ y = x) : fS k (upd fs (sc k x) v) y = fS k fs y := pk_un (fun e => h (sc_inj e))
theorem fS_upd {k x : Nat} {fs : Nat → Int32} {v : Int32} : fS k (upd fs (sc k x) v) = upd (fS k fs) x v := by
  funext y
  by_cases e : y = x
  · rw [e, fS_us, pk_us]
  · rw [fS_un e, pk_un e]
theorem nQ_us {k i x : Nat} {fq : Nat → Int32} (hk : k ≤ 6) (hx : x < 5 ^ k) : nQ k (upd fq i (nI (sc k x))) i = x := by
  have h := sc_lt hk hx
  have h15 : (5 : Nat) ^ 6 = 15625 := by decide
  unfold nQ
  rw [tN_us (by omega), un_sc]
theorem nQ_un {k i j : Nat} {fq : Nat → Int32} {v : Int32} (h : ¬ j = i) : nQ k (upd fq i v) j = nQ k fq j := by unfold nQ; rw [tN_un h]
/-- the table, as far as it was searched: c maps in the queue, y of them done -/
def BK (k : Nat) (b : Nat → Bool) (S : Nat → Prop) (y c : Nat) (fs fq : Nat → Int32) : Prop :=
  (∀ i, i < c → fq i = nI (sc k (nQ k fq i)) ∧ nQ k fq i < 5 ^ k ∧ ¬ fS k fs (nQ k fq i) < 0) ∧
  (∀ x, x < 5 ^ k → fS k fs x = (-6) ∨ ∃ i, i < c ∧ nQ k fq i = x) ∧
  (∀ x, x < 5 ^ k → ¬ fS k fs x < 0 → fS k fs x = nI (tN (fS k fs) x) ∧ pS k b S (tN (fS k fs) x) x ∧ ∀ d, d < tN (fS k fs) x → ¬ pS k b S d x) ∧
  (∀ i j, i < j → j < c → tN (fS k fs) (nQ k fq i) ≤ tN (fS k fs) (nQ k fq j)) ∧
  (y < c → ∀ j, j < c → tN (fS k fs) (nQ k fq j) ≤ tN (fS k fs) (nQ k fq y) + 1) ∧
  (∀ i, i < y → i < c → ∀ t x, x < 5 ^ k → stp k b t x (nQ k fq i) → ¬ fS k fs x < 0) ∧
  (y < c → ∀ x, x < 5 ^ k → ∀ d, d ≤ tN (fS k fs) (nQ k fq y) → pS k b S d x → ¬ fS k fs x < 0) ∧
  (∀ x, x < 5 ^ k → S x → ¬ fS k fs x < 0) ∧
  c + cneg (fS k fs) (5 ^ k) = 5 ^ k ∧ y ≤ c
theorem BK_in {k y c x : Nat} {b : Nat → Bool} {S : Nat → Prop} {fs fq : Nat → Int32} (h : BK k b S y c fs fq) (hx : x < 5 ^ k) (hn : ¬ fS k fs x < 0) : ∃ i, i < c ∧ nQ k fq i = x := by
  rcases h.2.1 x hx with e | e
  · rw [e] at hn; exact absurd (by decide) hn
  · exact e
theorem BK_room {k y c x : Nat} {b : Nat → Bool} {S : Nat → Prop} {fs fq : Nat → Int32} (h : BK k b S y c fs fq) (hx : x < 5 ^ k) (hn : fS k fs x < 0) : c < 5 ^ k := by
  have h1 := cneg_pos hn (5 ^ k) hx
  have h2 := h.2.2.2.2.2.2.2.2.1
  omega
/-- a map is met from node y -/
theorem BK_add {k y c to t : Nat} {b : Nat → Bool} {S : Nat → Prop} {fs fq : Nat → Int32} (hk : k ≤ 6) (h : BK k b S y c fs fq) (hy : y < c) (hto : to < 5 ^ k) (hs : stp k b t to (nQ k fq y)) (hn : fS k fs to < 0) :
    BK k b S y (c + 1) (upd fs (sc k to) (nI (tN (fS k fs) (nQ k fq y) + 1))) (upd fq c (nI (sc k to))) := by
  have hroom := BK_room h hto hn
  have hin := fun x hx hq => BK_in (x := x) h hx hq
  obtain ⟨h1, h2, h3, h4, h5, h6, h7, h8, h9, h10⟩ := h
  have h55 := p5le hk
  have hny := h1 y hy
  have hdy := h3 _ hny.2.1 hny.2.2
  have hb72 := pS_72 hk hny.2.1 hdy.2.1 hdy.2.2
  have hne : ∀ x, ¬ fS k fs x < 0 → ¬ x = to := fun x hx e => hx (by rw [e]; exact hn)
  have hq : ∀ i, i < c → nQ k (upd fq c (nI (sc k to))) i = nQ k fq i := fun i hi => nQ_un (by omega)
  have hqc : nQ k (upd fq c (nI (sc k to))) c = to := nQ_us hk hto
  rw [BK, fS_upd]
  have hd : ∀ x, ¬ x = to → tN (upd (fS k fs) to (nI (tN (fS k fs) (nQ k fq y) + 1))) x = tN (fS k fs) x := fun x hx => tN_un hx
  have hdt : tN (upd (fS k fs) to (nI (tN (fS k fs) (nQ k fq y) + 1))) to = tN (fS k fs) (nQ k fq y) + 1 := tN_us (by omega)
  have hnn : ∀ x, ¬ fS k fs x < 0 → ¬ upd (fS k fs) to (nI (tN (fS k fs) (nQ k fq y) + 1)) x < 0 := fun x hx => by rw [pk_un (hne x hx)]; exact hx
  have hnt : ¬ upd (fS k fs) to (nI (tN (fS k fs) (nQ k fq y) + 1)) to < 0 := by rw [pk_us]; exact nI_pos (by omega)
  have hqn : ∀ i, i < c → ¬ nQ k fq i = to := fun i hi => hne _ (h1 i hi).2.2
  have hor : ∀ x, ¬ x = to → ¬ upd (fS k fs) to (nI (tN (fS k fs) (nQ k fq y) + 1)) x < 0 → ¬ fS k fs x < 0 := fun x hx q => by rw [pk_un hx] at q; exact q
  refine ⟨fun i hi => ?_, fun x hx => ?_, fun x hx hx2 => ?_, fun i j hij hj => ?_, fun _ j hj => ?_, fun i hi hic t2 x hx hst => ?_, fun _ x hx d hdd hp => ?_, fun x hx hS => hnn x (h8 x hx hS), ?_, by omega⟩
  · by_cases e : i = c
    · rw [e, hqc]; exact ⟨pk_us, hto, hnt⟩
    · have hi2 : i < c := by omega
      rw [hq i hi2]
      exact ⟨by rw [pk_un e]; exact (h1 i hi2).1, (h1 i hi2).2.1, hnn _ (h1 i hi2).2.2⟩
  · by_cases e : x = to
    · exact Or.inr ⟨c, by omega, by rw [hqc, e]⟩
    · rcases h2 x hx with g | ⟨i, hi, ei⟩
      · exact Or.inl (by rw [pk_un e]; exact g)
      · exact Or.inr ⟨i, by omega, by rw [hq i hi]; exact ei⟩
  · by_cases e : x = to
    · rw [e, hdt]
      refine ⟨pk_us, pS_step hs hdy.2.1, fun d2 hd2 hp => absurd hn (h7 hy to hto d2 (by omega) hp)⟩
    · rw [hd x e, pk_un e]; exact h3 x hx (hor x e hx2)
  · by_cases e : j = c
    · rw [e, hqc, hq i (by omega), hdt, hd _ (hqn i (by omega))]
      exact h5 hy i (by omega)
    · rw [hq i (by omega), hq j (by omega), hd _ (hqn i (by omega)), hd _ (hqn j (by omega))]
      exact h4 i j hij (by omega)
  · rw [hq y hy, hd _ (hqn y hy)]
    by_cases e : j = c
    · rw [e, hqc, hdt]; omega
    · rw [hq j (by omega), hd _ (hqn j (by omega))]; exact h5 hy j (by omega)
  · rw [hq i (by omega)] at hst
    exact hnn x (h6 i hi (by omega) t2 x hx hst)
  · rw [hq y hy, hd _ (hqn y hy)] at hdd
    exact hnn x (h7 hy x hx d hdd hp)
  · have g := cneg_up (f := fS k fs) (j := to) (v := nI (tN (fS k fs) (nQ k fq y) + 1)) hn (nI_pos (by omega)) (5 ^ k) hto
    omega
/-- all maps of which node y comes were met -/
theorem BK_next {k y c : Nat} {b : Nat → Bool} {S : Nat → Prop} {fs fq : Nat → Int32} (h : BK k b S y c fs fq) (hy : y < c) (hall : ∀ t x, x < 5 ^ k → stp k b t x (nQ k fq y) → ¬ fS k fs x < 0) : BK k b S (y + 1) c fs fq := by
  have hin := fun x hx hq => BK_in (x := x) h hx hq
  obtain ⟨h1, h2, h3, h4, h5, h6, h7, h8, h9, h10⟩ := h
  have hcl : ∀ i, i < y + 1 → i < c → ∀ t x, x < 5 ^ k → stp k b t x (nQ k fq i) → ¬ fS k fs x < 0 := by
    intro i hi hic t x hx hst
    by_cases e : i = y
    · rw [e] at hst; exact hall t x hx hst
    · exact h6 i (by omega) hic t x hx hst
  refine ⟨h1, h2, h3, h4, fun hy1 j hj => ?_, hcl, fun hy1 x hx d hd hp => ?_, h8, h9, hy⟩
  · have g := h5 hy j hj
    have g2 := h4 y (y + 1) (by omega) hy1
    omega
  · rcases Nat.lt_or_ge (tN (fS k fs) (nQ k fq y)) d with q | q
    · have g3 := h5 hy (y + 1) hy1
      have ed : d = tN (fS k fs) (nQ k fq y) + 1 := by omega
      subst ed
      obtain ⟨t, v, hv, hst, hpv⟩ := pS_first hx hp
      have hvr := h7 hy v hv _ (Nat.le_refl _) hpv
      obtain ⟨i, hi, ei⟩ := hin v hv hvr
      have hvd : tN (fS k fs) v ≤ tN (fS k fs) (nQ k fq y) := by
        rcases Nat.lt_or_ge (tN (fS k fs) (nQ k fq y)) (tN (fS k fs) v) with g | g
        · exact absurd hpv ((h3 v hv hvr).2.2 _ g)
        · exact g
      rcases Nat.lt_or_ge i (y + 1) with g | g
      · exact hcl i g hi t x hx (by rw [ei]; exact hst)
      · rcases Nat.eq_or_lt_of_le g with e | e
        · rw [← e] at ei; rw [ei] at hd; omega
        · have g4 := h4 (y + 1) i e hi
          rw [ei] at g4
          omega
    · exact h7 hy x hx d q hp
/-- nothing is left in the queue: what wasn't met leads to no goal -/
theorem BK_done {k c : Nat} {b : Nat → Bool} {S : Nat → Prop} {fs fq : Nat → Int32} (h : BK k b S c c fs fq) : ∀ (d x : Nat), x < 5 ^ k → pS k b S d x → ¬ fS k fs x < 0
  | 0, x, hx, hp => h.2.2.2.2.2.2.2.1 x hx (pS_0.mp hp).2
  | d + 1, x, hx, hp => by
    obtain ⟨t, v, hv, hst, hpv⟩ := pS_first hx hp
    obtain ⟨i, hi, ei⟩ := BK_in h hv (BK_done h d v hv hpv)
    exact h.2.2.2.2.2.1 i hi hi t x hx (by rw [ei]; exact hst)
/-- all maps were met -/
theorem BK_full {k y : Nat} {b : Nat → Bool} {S : Nat → Prop} {fs fq : Nat → Int32} {c : Nat} (h : BK k b S y c fs fq) (hc : 5 ^ k ≤ c) {x : Nat} (hx : x < 5 ^ k) : ¬ fS k fs x < 0 := by
  intro hn
  have := BK_room h hx hn
  omega
/-- what the table says of a map, and that of all that are nearer, once it is asked for -/
def askd (k : Nat) (b : Nat → Bool) (S : Nat → Prop) (fs : Nat → Int32) (x : Nat) : Prop := (fS k fs x = (-6) ∧ ∀ d, ¬ pS k b S d x) ∨ ∃ d, fS k fs x = nI d ∧ d ≤ 72 ∧ pS k b S d x ∧ (∀ d2, d2 < d → ¬ pS k b S d2 x) ∧ ∀ v d2, v < 5 ^ k → d2 < d → pS k b S d2 v → ¬ fS k fs v < 0
theorem BK_ask {k y c x : Nat} {b : Nat → Bool} {S : Nat → Prop} {fs fq : Nat → Int32} (hk : k ≤ 6) (h : BK k b S y c fs fq) (hx : x < 5 ^ k) (he : ¬ fS k fs x = (-6) ∨ 5 ^ k ≤ c ∨ c ≤ y) : askd k b S fs x := by
  have hyc := h.2.2.2.2.2.2.2.2.2
  rcases h.2.1 x hx with e | ⟨i, hi, ei⟩
  · left
    refine ⟨e, fun d hp => ?_⟩
    have hneg : fS k fs x < 0 := by rw [e]; decide
    rcases he with q | q | q
    · exact q e
    · exact BK_full h q hx hneg
    · have : y = c := by omega
      subst this
      exact BK_done h d x hx hp hneg
  · right
    have hn : ¬ fS k fs x < 0 := by rw [← ei]; exact (h.1 i hi).2.2
    have hm := h.2.2.1 x hx hn
    refine ⟨_, hm.1, pS_72 hk hx hm.2.1 hm.2.2, hm.2.1, hm.2.2, fun v d2 hv hd2 hp => ?_⟩
    rcases Nat.lt_or_ge y c with q | q
    · have g := h.2.2.2.2.1 q i hi
      rw [ei] at g
      exact h.2.2.2.2.2.2.1 q v hv d2 (by omega) hp
    · have : y = c := by omega
      subst this
      exact BK_done h d2 v hv hp
/-! goals: maps of which the first are put into the queue -/
def BG (k : Nat) (S : Nat → Prop) (c : Nat) (fs fq : Nat → Int32) : Prop :=
  (∀ i, i < c → fq i = nI (sc k (nQ k fq i)) ∧ nQ k fq i < 5 ^ k ∧ fS k fs (nQ k fq i) = 0) ∧
  (∀ x, x < 5 ^ k → (fS k fs x = (-6) ∧ ∀ i, i < c → ¬ nQ k fq i = x) ∨ (fS k fs x = 0 ∧ S x ∧ ∃ i, i < c ∧ nQ k fq i = x)) ∧
  c + cneg (fS k fs) (5 ^ k) = 5 ^ k
theorem BG_start {k : Nat} {S : Nat → Prop} {fs fq : Nat → Int32} (h : ∀ x, x < 5 ^ k → fS k fs x = (-6)) : BG k S 0 fs fq :=
  ⟨fun i hi => absurd hi (Nat.not_lt_zero _), fun x hx => Or.inl ⟨h x hx, fun i hi => absurd hi (Nat.not_lt_zero _)⟩, by rw [cneg_all (f := fS k fs) (5 ^ k) (fun j hj => by rw [h j hj]; decide)]; omega⟩
theorem BG_room {k c x : Nat} {S : Nat → Prop} {fs fq : Nat → Int32} (h : BG k S c fs fq) (hx : x < 5 ^ k) (hn : fS k fs x < 0) : c < 5 ^ k := by
  have h1 := cneg_pos hn (5 ^ k) hx
  have h2 := h.2.2
  omega
theorem BG_add {k c to : Nat} {S : Nat → Prop} {fs fq : Nat → Int32} (hk : k ≤ 6) (h : BG k S c fs fq) (hto : to < 5 ^ k) (hS : S to) (hn : fS k fs to < 0) : BG k S (c + 1) (upd fs (sc k to) 0) (upd fq c (nI (sc k to))) := by
  have hroom := BG_room h hto hn
  obtain ⟨h1, h2, h3⟩ := h
  have hqc : nQ k (upd fq c (nI (sc k to))) c = to := nQ_us hk hto
  have hq : ∀ i, i < c → nQ k (upd fq c (nI (sc k to))) i = nQ k fq i := fun i hi => nQ_un (by omega)
  have hqn : ∀ i, i < c → ¬ nQ k fq i = to := fun i hi e => by
    have g := (h1 i hi).2.2
    rw [e] at g
    rw [g] at hn
    exact absurd hn (by decide)
  refine ⟨fun i hi => ?_, fun x hx => ?_, ?_⟩
  · by_cases e : i = c
    · rw [e, hqc, fS_us]; exact ⟨pk_us, hto, rfl⟩
    · have hi2 : i < c := by omega
      rw [hq i hi2, fS_un (hqn i hi2), pk_un e]; exact h1 i hi2
  · by_cases e : x = to
    · rw [e, fS_us]; exact Or.inr ⟨rfl, hS, c, by omega, hqc⟩
    · rw [fS_un e]
      rcases h2 x hx with ⟨g1, g2⟩ | ⟨g1, g2, i, hi, ei⟩
      · refine Or.inl ⟨g1, fun i hi ei => ?_⟩
        by_cases e2 : i = c
        · rw [e2, hqc] at ei; exact e ei.symm
        · rw [hq i (by omega)] at ei; exact g2 i (by omega) ei
      · exact Or.inr ⟨g1, g2, i, by omega, by rw [hq i hi]; exact ei⟩
  · have g := cneg_up (f := fS k fs) (j := to) (v := 0) hn (by decide) (5 ^ k) hto
    rw [fS_upd]
    omega
theorem BG_end {k c : Nat} {b : Nat → Bool} {S : Nat → Prop} {fs fq : Nat → Int32} (h : BG k S c fs fq) (hall : ∀ x, x < 5 ^ k → S x → ¬ fS k fs x < 0) : BK k b S 0 c fs fq := by
  obtain ⟨h1, h2, h3⟩ := h
  have hz : ∀ x, fS k fs x = 0 → tN (fS k fs) x = 0 := fun x hx => tN_of (a := 0) (by rw [hx]; rfl) (by decide)
  have hr : ∀ x, x < 5 ^ k → ¬ fS k fs x < 0 → fS k fs x = 0 ∧ S x := fun x hx hn => by
    rcases h2 x hx with ⟨g, -⟩ | ⟨g1, g2, -⟩
    · rw [g] at hn; exact absurd (by decide) hn
    · exact ⟨g1, g2⟩
  refine ⟨fun i hi => ⟨(h1 i hi).1, (h1 i hi).2.1, by rw [(h1 i hi).2.2]; decide⟩, fun x hx => ?_, fun x hx hn => ?_, fun i j hij hj => ?_, fun _ j hj => ?_, fun i hi => absurd hi (Nat.not_lt_zero _), fun hy x hx d hd hp => ?_, hall, h3, Nat.zero_le _⟩
  · rcases h2 x hx with ⟨g, -⟩ | ⟨-, -, g⟩
    · exact Or.inl g
    · exact Or.inr g
  · obtain ⟨g1, g2⟩ := hr x hx hn
    rw [hz x g1, g1]
    exact ⟨rfl, pS_0.mpr ⟨hx, g2⟩, fun d hd => absurd hd (Nat.not_lt_zero _)⟩
  · rw [hz _ (h1 i (by omega)).2.2]; exact Nat.zero_le _
  · rw [hz _ (h1 j hj).2.2]; exact Nat.zero_le _
  · rw [hz _ (h1 0 hy).2.2] at hd
    have : d = 0 := by omega
    subst this
    exact hall x hx (pS_0.mp hp).2
