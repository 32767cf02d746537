/-! the search's start, its end, and the way that is followed -/
theorem sa_all {I : MI} : ∀ g j, lp sf_sa 12 0 I g j = if (g = 32 ∨ g = 33) ∧ j < 12 then 0 else I g j := by
  have key := lp_inv sf_sa (fun i I' => ∀ g j, I' g j = if (g = 32 ∨ g = 33) ∧ j < i then 0 else I g j) 12 ?_ 12 0 I rfl (fun g j => by rw [if_neg (by omega)])
  · exact key
  · intro i I' hi hI g j
    unfold sf_sa uI
    by_cases e : (g = 32 ∨ g = 33) ∧ j = i
    · rw [if_pos (show (g = 32 ∨ g = 33) ∧ j < i + 1 by omega)]
      split
      · rfl
      · rw [if_pos (by omega)]
    · rw [if_neg (by omega), if_neg (by omega), hI g j]
      by_cases q : (g = 32 ∨ g = 33) ∧ j < i
      · rw [if_pos q, if_pos (by omega)]
      · rw [if_neg q, if_neg (by omega)]
theorem sat_other {I : MI} {b g j : Nat} (h : ¬ (g = 32 ∨ g = 33 ∨ g = 34 ∨ g = 35)) : sp_sat I b g j = I g j := by
  unfold sp_sat
  rw [uI, if_neg (by omega), uI, if_neg (by omega), uI, if_neg (by omega), sa_all, if_neg (by omega)]
theorem dv_start {I : MI} {J : MJ} {op : Nat → Prop} {fe : Nat → Nat} {ow : Nat → Nat → Nat → Prop} {t : Nat} (hd : dc I J op fe ow) (ht : t < 12) (hot : op t) (hop : ∀ a, op a → a < 12) (hfe : ∀ a, a < 12 → fe a ≤ 100000) : dv (sp_sat I t) J op fe ow t 0 := by
  have h32 : ∀ a, a < 12 → sp_sat I t 32 a = if a = t then 1 else 0 := fun a ha => by
    unfold sp_sat
    rw [uI, if_neg (by omega), uI, if_neg (by omega), uI]
    by_cases e : a = t
    · rw [if_pos ⟨rfl, e⟩, if_pos e]
    · rw [if_neg (by omega), sa_all, if_pos (by omega), if_neg e]
  have h33 : ∀ a, a < 12 → sp_sat I t 33 a = 0 := fun a ha => by
    unfold sp_sat
    rw [uI, if_neg (by omega), uI, if_neg (by omega), uI, if_neg (by omega), sa_all, if_pos (by omega)]
  have h34 : sp_sat I t 34 t = nI (fe t) := by
    unfold sp_sat
    rw [uI, if_neg (by omega), uI, if_pos ⟨rfl, rfl⟩]
    unfold sp_fee
    rw [uI, if_neg (by omega), uI, if_neg (by omega), sa_all, if_neg (by omega), sa_all, if_neg (by omega)]
    exact hd.2.1 t ht
  have h35 : sp_sat I t 35 t = nI 1 := by
    unfold sp_sat
    rw [uI, if_pos ⟨rfl, rfl⟩]
    rfl
  have eF : dF (sp_sat I t) t = fe t := by
    unfold dF
    rw [h34, nI_clamp (by have := hfe t ht; omega)]
  have eN : dN (sp_sat I t) t = 0 := by
    unfold dN
    rw [h35, nI_clamp (by omega)]
  have hr : ∀ a, a < 12 → ¬ sp_sat I t 32 a = 0 → a = t := fun a ha h => by
    rw [h32 a ha] at h
    by_cases e : a = t
    · exact e
    · rw [if_neg e] at h; exact absurd rfl h
  have hs : ∀ a, a < 12 → ¬ ¬ sp_sat I t 33 a = 0 := fun a ha h => h (h33 a ha)
  refine ⟨⟨hd.congr (fun g j hg => sat_other (by omega)), ht, hot, hop, hfe⟩, fun a ha h => ?_, fun a ha h => absurd h (hs a ha), fun c a hc ha h => absurd h (hs c hc), fun c a hc ha h => absurd h (hs c hc), Or.inl ⟨fun _ => 0, fun i hi => by omega, fun i j hi => by omega⟩, ⟨by rw [h32 t ht, if_pos rfl]; decide, eN, eF⟩, fun a ha h hat => absurd (hr a ha h) hat, Or.inr hr⟩
  have e := hr a ha h
  subst e
  rw [eF, eN]
  have := hfe a ha
  exact ⟨hot, ⟨rfl, hot, rfl⟩, h34, h35, Nat.le_refl _, by omega⟩
theorem dv_end {I : MI} {J : MJ} {op : Nat → Prop} {fe : Nat → Nat} {ow : Nat → Nat → Nat → Prop} {t : Nat} (h : dv I J op fe ow t 0) : dv (lp (fun _ I => sp_rfb I J) 12 0 I) J op fe ow t 12 :=
  lp_inv (fun _ I => sp_rfb I J) (fun k I => dv I J op fe ow t k) 12 (fun k I hk hI => dv_step hI hk) 12 0 I rfl h
theorem dv_all {I : MI} {J : MJ} {op : Nat → Prop} {fe : Nat → Nat} {ow : Nat → Nat → Nat → Prop} {t : Nat} (h : dv I J op fe ow t 12) : ∀ a, a < 12 → ¬ I 32 a = 0 → ¬ I 33 a = 0 := by
  rcases h.2.2.2.2.2.1 with ⟨g, g1, g2⟩ | q
  · intro a ha hr hs
    have := pig 12 13 (fun i => if i = 12 then a else g i) (fun i hi => by
      by_cases e : i = 12
      · simp only [e, if_true]; exact ha
      · simp only [e, if_false]; exact (g1 i (by omega)).1) (fun i j hi hj e => by
      by_cases e1 : i = 12 <;> by_cases e2 : j = 12
      · omega
      · simp only [e1, e2, if_true, if_false] at e
        exact absurd hs (e ▸ (g1 j (by omega)).2)
      · simp only [e1, e2, if_true, if_false] at e
        exact absurd hs (e ▸ (g1 i (by omega)).2)
      · simp only [e1, e2, if_false] at e
        exact g2 i j (by omega) (by omega) e)
    omega
  · exact q
/-- the best value at a: fees f, n + 1 brokers -/
def bv (op : Nat → Prop) (fe : Nat → Nat) (ow : Nat → Nat → Nat → Prop) (t a f n : Nat) : Prop := rl op fe ow t n a f ∧ ∀ f' n', rl op fe ow t n' a f' → lx f n f' n'
theorem bv.one {op : Nat → Prop} {fe : Nat → Nat} {ow : Nat → Nat → Nat → Prop} {t a f n f' n' : Nat} (h : bv op fe ow t a f n) (h' : bv op fe ow t a f' n') : f = f' ∧ n = n' := (h.2 _ _ h'.1).as (h'.2 _ _ h.1)
theorem rl_op {op : Nat → Prop} {fe : Nat → Nat} {ow : Nat → Nat → Nat → Prop} {t : Nat} : ∀ {n a f : Nat}, rl op fe ow t n a f → op a
  | 0, _, _, h => h.1 ▸ h.2.1
  | _ + 1, _, _, h => h.2.1
theorem dv_opt {I : MI} {J : MJ} {op : Nat → Prop} {fe : Nat → Nat} {ow : Nat → Nat → Nat → Prop} {t : Nat} (h : dv I J op fe ow t 12) (hm : ∀ a c f f', f' ≤ f → ow a c f → ow a c f') : ∀ n a f, rl op fe ow t n a f → ¬ I 32 a = 0 ∧ lx (dF I a) (dN I a) f n := by
  have hall := dv_all h
  obtain ⟨⟨hd, ht, hot, hop, hfe⟩, h1, h2, h3, h4, h5, h6, h7, h8⟩ := h
  intro n
  induction n with
  | zero =>
    intro a f hr
    obtain ⟨rfl, -, rfl⟩ := hr
    refine ⟨h6.1, ?_⟩
    rw [h6.2.1, h6.2.2]
    exact lx.rf _ _
  | succ n ih =>
    intro a f hr
    obtain ⟨r1, r2, c, f', r3, r4, rfl⟩ := hr
    obtain ⟨i1, i2⟩ := ih c f' r3
    have hc := hop c (rl_op r3)
    have ha := hop a r2
    have hle : dF I c ≤ f' := by unfold lx at i2; omega
    obtain ⟨j1, j2⟩ := h4 c a hc ha (hall c hc i1) r2 r1 (hm a c f' _ hle r4)
    exact ⟨j1, j2.tr (i2.ad (fe a))⟩
theorem dv_bv {I : MI} {J : MJ} {op : Nat → Prop} {fe : Nat → Nat} {ow : Nat → Nat → Nat → Prop} {t : Nat} (h : dv I J op fe ow t 12) (hm : ∀ a c f f', f' ≤ f → ow a c f → ow a c f') {a : Nat} (ha : a < 12) (hr : ¬ I 32 a = 0) : bv op fe ow t a (dF I a) (dN I a) := ⟨(h.2.1 a ha hr).2.1, fun f' n' h' => (dv_opt h hm n' a f' h').2⟩
/-- the brokers of the best way, by how many are behind -/
theorem dv_chain {I : MI} {J : MJ} {op : Nat → Prop} {fe : Nat → Nat} {ow : Nat → Nat → Nat → Prop} {t : Nat} (h : dv I J op fe ow t 12) : ∀ n a, a < 12 → ¬ I 32 a = 0 → dN I a = n → ∃ g : Nat → Nat, ∀ k, k ≤ n → g k < 12 ∧ ¬ I 32 (g k) = 0 ∧ dN I (g k) = k := by
  obtain ⟨⟨hd, ht, hot, hop, hfe⟩, h1, h2, h3, h4, h5, h6, h7, h8⟩ := h
  intro n
  induction n with
  | zero => intro a ha hr hn; exact ⟨fun _ => a, fun k hk => ⟨ha, hr, by show dN I a = k; omega⟩⟩
  | succ n ih =>
    intro a ha hr hn
    have hat : a ≠ t := fun z => by
      subst z
      omega
    obtain ⟨c, c1, c2, c3, c4, c5⟩ := h7 a ha hr hat
    obtain ⟨g, hg⟩ := ih c c1 (h2 c c1 c2) (by omega)
    refine ⟨fun k => if k = n + 1 then a else g k, fun k hk => ?_⟩
    by_cases e : k = n + 1
    · simp only [e, if_true]; exact ⟨ha, hr, hn⟩
    · simp only [e, if_false]; exact hg k (by omega)
theorem dv_few {I : MI} {J : MJ} {op : Nat → Prop} {fe : Nat → Nat} {ow : Nat → Nat → Nat → Prop} {t : Nat} (h : dv I J op fe ow t 12) {a nb : Nat} (ha : a < 12) (hr : ¬ I 32 a = 0) (hnb : ∀ a, op a → a < nb) : dN I a + 1 ≤ nb := by
  obtain ⟨g, hg⟩ := dv_chain h _ a ha hr rfl
  refine pig nb _ g (fun i hi => ?_) (fun i j hi hj e => ?_)
  · obtain ⟨g1, g2, -⟩ := hg i (by omega)
    exact hnb _ (h.2.1 _ g1 g2).1
  · have a1 := (hg i (by omega)).2.2
    have a2 := (hg j (by omega)).2.2
    rw [e] at a1
    omega
/-- c may stand behind a on the best way -/
def nx (op : Nat → Prop) (fe : Nat → Nat) (ow : Nat → Nat → Nat → Prop) (t a c : Nat) : Prop := ∃ f f' n : Nat, bv op fe ow t a f (n + 1) ∧ bv op fe ow t c f' n ∧ f' + fe a = f ∧ ow a c f'
def lo (q : Nat → Prop) (c : Nat) : Prop := q c ∧ ∀ c', c' < c → ¬ q c'
theorem lo.one {q : Nat → Prop} {c c' : Nat} (h : lo q c) (h' : lo q c') : c = c' := by
  rcases Nat.lt_trichotomy c c' with z | z | z
  · exact absurd h.1 (h'.2 c z)
  · exact z
  · exact absurd h'.1 (h.2 c' z)
theorem sp_nx_spec (I : MI) (J : MJ) (b : Nat) : ∀ n i, i + n = 12 → (sp_nx I J b n i = -1 ∧ ∀ j, i ≤ j → j < 12 → sp_nq I J b j = false) ∨ ∃ k, i ≤ k ∧ k < 12 ∧ sp_nx I J b n i = nI k ∧ sp_nq I J b k = true ∧ ∀ j, i ≤ j → j < k → sp_nq I J b j = false := by
  intro n
  induction n with
  | zero => intro i hi; exact Or.inl ⟨rfl, fun j h1 h2 => by omega⟩
  | succ n ih =>
    intro i hi
    unfold sp_nx
    by_cases c : sp_nq I J b i = true
    · rw [if_pos c]
      exact Or.inr ⟨i, Nat.le_refl _, by omega, rfl, c, fun j h1 h2 => by omega⟩
    · rw [if_neg c]
      have c' : sp_nq I J b i = false := by
        cases h : sp_nq I J b i
        · rfl
        · exact absurd h c
      rcases ih (i + 1) (by omega) with ⟨h1, h2⟩ | ⟨k, h1, h2, h3, h4, h5⟩
      · refine Or.inl ⟨h1, fun j j1 j2 => ?_⟩
        rcases Nat.eq_or_lt_of_le j1 with e | e
        · rw [← e]; exact c'
        · exact h2 j e j2
      · refine Or.inr ⟨k, by omega, h2, h3, h4, fun j j1 j2 => ?_⟩
        rcases Nat.eq_or_lt_of_le j1 with e | e
        · rw [← e]; exact c'
        · exact h5 j e j2
theorem nq_iff {I : MI} {J : MJ} {op : Nat → Prop} {fe : Nat → Nat} {ow : Nat → Nat → Nat → Prop} {t : Nat} (h : dv I J op fe ow t 12) (hm : ∀ a c f f', f' ≤ f → ow a c f → ow a c f') {a c : Nat} (ha : a < 12) (hr : ¬ I 32 a = 0) (hc : c < 12) : sp_nq I J a c = true ↔ nx op fe ow t a c := by
  obtain ⟨a1, a2, a3, a4, a5, a6⟩ := h.2.1 a ha hr
  have hfa := h.1.2.2.2.2 a ha
  have hfee : sp_fee I a = nI (fe a) := h.1.1.2.1 a ha
  unfold sp_nq
  simp only [Bool.and_eq_true, decide_eq_true_eq]
  constructor
  · rintro ⟨q1, q2, q3, q4⟩
    obtain ⟨c1, c2, c3, c4, c5, c6⟩ := h.2.1 c hc q1
    rw [c4, a4, nI_1, nI_eq (by omega) (by omega)] at q2
    rw [c3, a3, hfee, nI_add, nI_eq (by omega) (by omega)] at q3
    rw [h.1.1.owe ha hc (by omega) c3] at q4
    have := dv_bv h hm ha hr
    rw [show dN I a = dN I c + 1 by omega] at this
    exact ⟨_, _, _, this, dv_bv h hm hc q1, q3, q4⟩
  · rintro ⟨f, f', n, b1, b2, b3, b4⟩
    have q1 := (dv_opt h hm _ _ _ b2.1).1
    obtain ⟨c1, c2, c3, c4, c5, c6⟩ := h.2.1 c hc q1
    obtain ⟨e1, e2⟩ := (dv_bv h hm ha hr).one b1
    obtain ⟨e3, e4⟩ := (dv_bv h hm hc q1).one b2
    refine ⟨q1, ?_, ?_, ?_⟩
    · rw [c4, a4, nI_1, nI_eq (by omega) (by omega)]; omega
    · rw [c3, a3, hfee, nI_add, nI_eq (by omega) (by omega)]; omega
    · rw [h.1.1.owe ha hc (by omega) c3, e3]; exact b4
theorem nx_some {I : MI} {J : MJ} {op : Nat → Prop} {fe : Nat → Nat} {ow : Nat → Nat → Nat → Prop} {t : Nat} (h : dv I J op fe ow t 12) (hm : ∀ a c f f', f' ≤ f → ow a c f → ow a c f') {a : Nat} (ha : a < 12) (hr : ¬ I 32 a = 0) (hat : a ≠ t) : ∃ c, c < 12 ∧ sp_nx I J a 12 0 = nI c ∧ lo (nx op fe ow t a) c ∧ ¬ I 32 c = 0 ∧ dN I c + 1 = dN I a := by
  obtain ⟨c0, c1, c2, c3, c4, c5⟩ := h.2.2.2.2.2.2.2.1 a ha hr hat
  have hr0 := h.2.2.1 c0 c1 c2
  have b0 := dv_bv h hm ha hr
  rw [← c3] at b0
  have hn0 : nx op fe ow t a c0 := ⟨_, _, _, b0, dv_bv h hm c1 hr0, c4, c5⟩
  rcases sp_nx_spec I J a 12 0 rfl with ⟨h1, h2⟩ | ⟨k, h1, h2, h3, h4, h5⟩
  · have := h2 c0 (Nat.zero_le _) c1
    rw [(nq_iff h hm ha hr c1).mpr hn0] at this
    cases this
  · have hk := (nq_iff h hm ha hr h2).mp h4
    obtain ⟨f, f', n, b1, b2, b3, b4⟩ := hk
    have q1 := (dv_opt h hm _ _ _ b2.1).1
    obtain ⟨e1, e2⟩ := (dv_bv h hm ha hr).one b1
    obtain ⟨e3, e4⟩ := (dv_bv h hm h2 q1).one b2
    refine ⟨k, h2, h3, ⟨⟨f, f', n, b1, b2, b3, b4⟩, fun c' hc' hn => ?_⟩, q1, by omega⟩
    have := h5 c' (Nat.zero_le _) hc'
    rw [(nq_iff h hm ha hr (by omega)).mpr hn] at this
    cases this
/-- p is the best way from a: n + 1 brokers, each next one the lowest that can be it -/
def wp (op : Nat → Prop) (fe : Nat → Nat) (ow : Nat → Nat → Nat → Prop) (t a n : Nat) (p : Nat → Nat) : Prop := p 0 = a ∧ p n = t ∧ (∀ k, k ≤ n → p k < 12 ∧ ∃ f, bv op fe ow t (p k) f (n - k)) ∧ ∀ k, k < n → lo (nx op fe ow t (p k)) (p (k + 1))
theorem wp.one {op : Nat → Prop} {fe : Nat → Nat} {ow : Nat → Nat → Nat → Prop} {t a n : Nat} {p p' : Nat → Nat} (h : wp op fe ow t a n p) (h' : wp op fe ow t a n p') : ∀ k, k ≤ n → p k = p' k := by
  intro k
  induction k with
  | zero => intro _; rw [h.1, h'.1]
  | succ k ih =>
    intro hk
    have e := ih (by omega)
    have a1 := h.2.2.2 k (by omega)
    have a2 := h'.2.2.2 k (by omega)
    rw [e] at a1
    exact a1.one a2
theorem sp_nx_congr {I I' : MI} {J : MJ} (hI : ∀ g j, g ≠ 36 → g ≠ 37 → I' g j = I g j) (b : Nat) : ∀ n i, sp_nx I' J b n i = sp_nx I J b n i := by
  have hq : ∀ i, sp_nq I' J b i = sp_nq I J b i := fun i => by
    unfold sp_nq sp_fee sp_owe sp_lim
    rw [hI 32 _ (by decide) (by decide), hI 35 _ (by decide) (by decide), hI 35 b (by decide) (by decide), hI 34 _ (by decide) (by decide), hI 34 b (by decide) (by decide), hI 38 _ (by decide) (by decide), hI 6 _ (by decide) (by decide), hI 39 _ (by decide) (by decide), hI 10 _ (by decide) (by decide), hI 11 _ (by decide) (by decide)]
  intro n
  induction n with
  | zero => intro i; rfl
  | succ n ih => intro i; unfold sp_nx; rw [hq i, ih (i + 1)]
theorem sp_fl_m1 (J : MJ) (y : Int32) (r i : Nat) (I : MI) : sp_fl J y r i (-1) I = I := by
  cases r with
  | zero => rfl
  | succ r => unfold sp_fl; rw [if_pos rfl]
set_option maxHeartbeats 2000000 in
theorem fol_path {I : MI} {J : MJ} {op : Nat → Prop} {fe : Nat → Nat} {ow : Nat → Nat → Nat → Prop} {t : Nat} (h : dv I J op fe ow t 12) (hm : ∀ a c f f', f' ≤ f → ow a c f → ow a c f') : ∀ (r i a : Nat) (I' : MI), i + r = 12 → (∀ g j, g ≠ 36 → g ≠ 37 → I' g j = I g j) → a < 12 → ¬ I 32 a = 0 → dN I a < r →
    ∃ p : Nat → Nat, wp op fe ow t a (dN I a) p ∧ (∀ k, k ≤ dN I a → sp_fl J (nI t) r i (nI a) I' 36 (i + k) = nI (p k)) ∧ sp_fl J (nI t) r i (nI a) I' 37 0 = nI (i + dN I a + 1) ∧ (∀ g j, g ≠ 36 → g ≠ 37 → sp_fl J (nI t) r i (nI a) I' g j = I' g j) ∧ ∀ j, j < i → sp_fl J (nI t) r i (nI a) I' 36 j = I' 36 j := by
  have ht := h.1.2.1
  intro r
  induction r with
  | zero => intro i a I' _ _ _ _ hn; omega
  | succ r ih =>
    intro i a I' hir hI ha hr hn
    have hI1 : ∀ g j, g ≠ 36 → g ≠ 37 → uI (uI I' 36 i (nI a)) 37 0 (nI (i + 1)) g j = I' g j := fun g j g1 g2 => by simp [uI, g1, g2]
    have e36 : uI (uI I' 36 i (nI a)) 37 0 (nI (i + 1)) 36 i = nI a := by simp [uI]
    have e36' : ∀ j, j < i → uI (uI I' 36 i (nI a)) 37 0 (nI (i + 1)) 36 j = I' 36 j := fun j hj => by
      have : j ≠ i := by omega
      simp [uI, this]
    have eu : sp_fl J (nI t) (r + 1) i (nI a) I' = sp_fl J (nI t) r (i + 1) (if nI a = nI t then -1 else sp_nx (uI (uI I' 36 i (nI a)) 37 0 (nI (i + 1))) J a 12 0) (uI (uI I' 36 i (nI a)) 37 0 (nI (i + 1))) := by
      show (if nI a = -1 then _ else _) = _
      rw [if_neg (nI_m1 (by omega)), nI_clamp (by omega)]
    generalize hI1e : uI (uI I' 36 i (nI a)) 37 0 (nI (i + 1)) = I1 at hI1 e36 e36' eu
    have e37 : I1 37 0 = nI (i + 1) := by rw [← hI1e]; simp [uI]
    by_cases hat : a = t
    · have hn0 : dN I a = 0 := by rw [hat]; exact h.2.2.2.2.2.2.1.2.1
      rw [if_pos (by rw [hat]), sp_fl_m1] at eu
      refine ⟨fun _ => a, ⟨rfl, hat, fun k hk => ⟨ha, dF I a, ?_⟩, fun k hk => by omega⟩, fun k hk => ?_, ?_, fun g j g1 g2 => ?_, fun j hj => ?_⟩
      · have := dv_bv h hm ha hr
        rw [show dN I a - k = dN I a by omega]
        exact this
      · rw [eu, show i + k = i by omega]; exact e36
      · rw [eu, e37, hn0]
      · rw [eu]; exact hI1 g j g1 g2
      · rw [eu]; exact e36' j hj
    · obtain ⟨c, c1, c2, c3, c4, c5⟩ := nx_some h hm ha hr hat
      rw [if_neg (by rw [nI_eq (by omega) (by omega)]; exact hat), sp_nx_congr (I := I) (fun g j g1 g2 => (hI1 g j g1 g2).trans (hI g j g1 g2)), c2] at eu
      obtain ⟨p, ⟨p1, p2, p3, p4⟩, p5, p6, p7, p8⟩ := ih (i + 1) c I1 (by omega) (fun g j g1 g2 => (hI1 g j g1 g2).trans (hI g j g1 g2)) c1 c4 (by omega)
      rw [← eu] at p5 p6 p7 p8
      have ba := dv_bv h hm ha hr
      refine ⟨fun k => if k = 0 then a else p (k - 1), ⟨rfl, ?_, fun k hk => ?_, fun k hk => ?_⟩, fun k hk => ?_, ?_, fun g j g1 g2 => ?_, fun j hj => ?_⟩
      · show (if dN I a = 0 then a else p (dN I a - 1)) = t
        rw [if_neg (by omega), show dN I a - 1 = dN I c by omega]; exact p2
      · by_cases e : k = 0
        · simp only [e, if_true]; exact ⟨ha, _, ba⟩
        · simp only [e, if_false]
          have := p3 (k - 1) (by omega)
          rw [show dN I c - (k - 1) = dN I a - k by omega] at this
          exact this
      · by_cases e : k = 0
        · simp only [e, if_true]
          show lo (nx op fe ow t a) (if 0 + 1 = 0 then a else p (0 + 1 - 1))
          rw [if_neg (by omega), show 0 + 1 - 1 = 0 by omega, p1]
          exact c3
        · simp only [e, if_false]
          have := p4 (k - 1) (by omega)
          show lo (nx op fe ow t (p (k - 1))) (if k + 1 = 0 then a else p (k + 1 - 1))
          rw [if_neg (by omega), show k + 1 - 1 = k - 1 + 1 by omega]
          exact this
      · by_cases e : k = 0
        · simp only [e, if_true]
          rw [show i + 0 = i by omega, p8 i (by omega)]; exact e36
        · simp only [e, if_false]
          have := p5 (k - 1) (by omega)
          rw [show i + 1 + (k - 1) = i + k by omega] at this
          exact this
      · rw [p6, show i + 1 + dN I c + 1 = i + dN I a + 1 by omega]
      · rw [p7 g j g1 g2]; exact hI1 g j g1 g2
      · rw [p8 j (by omega)]; exact e36' j hj
theorem rl_t {op : Nat → Prop} {fe : Nat → Nat} {ow : Nat → Nat → Nat → Prop} {t : Nat} : ∀ {n a f : Nat}, rl op fe ow t n a f → op t
  | 0, _, _, h => h.2.1
  | _ + 1, _, _, h => rl_t h.2.2.choose_spec.choose_spec.1
theorem sf_rf_oth {J : MJ} {c i : Nat} {I : MI} {g j : Nat} (h : ¬ (32 ≤ g ∧ g ≤ 37)) : sf_rf J c i I g j = I g j := sf_rf_other (by omega)
theorem sp_rfb_oth {I : MI} {J : MJ} {g j : Nat} (h : ¬ (32 ≤ g ∧ g ≤ 37)) : sp_rfb I J g j = I g j := by
  unfold sp_rfb
  split
  · rfl
  · rw [lp_inv (sf_rf J (sp_bu I).toNatClampNeg) (fun _ σ => σ g j = uI I 33 (sp_bu I).toNatClampNeg 1 g j) 12 (fun i σ _ hs => (sf_rf_oth h).trans hs) 12 0 _ rfl rfl, uI, if_neg (by omega)]
theorem rfb12_oth {I : MI} {J : MJ} {g j : Nat} (h : ¬ (32 ≤ g ∧ g ≤ 37)) : lp (fun _ I => sp_rfb I J) 12 0 I g j = I g j :=
  lp_inv (fun _ I => sp_rfb I J) (fun _ σ => σ g j = I g j) 12 (fun i σ _ hs => (sp_rfb_oth h).trans hs) 12 0 I rfl rfl
/-- what find does: it tells whether there is a way, and lays it into the finder's path -/
theorem find_spec {I : MI} {J : MJ} {op : Nat → Prop} {fe : Nat → Nat} {ow : Nat → Nat → Nat → Prop} {a b : Nat} (hd : dc I J op fe ow) (hop : ∀ a, op a → a < 12) (hfe : ∀ a, a < 12 → fe a ≤ 100000) (hm : ∀ a c f f', f' ≤ f → ow a c f → ow a c f') (ha : a < 12) (hb9 : b < 12) :
    (∀ g j, ¬ (32 ≤ g ∧ g ≤ 37) → (sp_find I J a b).2 g j = I g j) ∧
    (((sp_find I J a b).1 = 0 ∧ ∀ n f, ¬ rl op fe ow b n a f) ∨
     ((sp_find I J a b).1 = 1 ∧ ∃ (n f : Nat) (p : Nat → Nat), n < 12 ∧ (∀ nb, (∀ a, op a → a < nb) → n + 1 ≤ nb) ∧ bv op fe ow b a f n ∧ wp op fe ow b a n p ∧ (sp_find I J a b).2 37 0 = nI (n + 1) ∧ (∀ k, k ≤ n → (sp_find I J a b).2 36 k = nI (p k)) ∧ ∀ k, k ≤ n → ∃ fk : Nat, bv op fe ow b (p k) fk (n - k) ∧ (sp_find I J a b).2 34 (p k) = nI fk ∧ fk ≤ 1300000)) := by
  have hu : ∀ g j, g ≠ 37 → uI I 37 0 0 g j = I g j := fun g j q => by simp [uI, q]
  have hd1 : dc (uI I 37 0 0) J op fe ow := hd.congr (fun g j hg => hu g j (by omega))
  unfold sp_find
  by_cases c1 : uI I 37 0 0 31 a = 0
  · rw [if_pos c1]
    exact ⟨fun g j q => hu g j (by omega), Or.inl ⟨rfl, fun n f h => absurd ((hd1.1 a ha).mpr (rl_op h)) (fun z => z c1)⟩⟩
  · rw [if_neg c1]
    by_cases c2 : uI I 37 0 0 31 b = 0
    · rw [if_pos c2]
      exact ⟨fun g j q => hu g j (by omega), Or.inl ⟨rfl, fun n f h => absurd ((hd1.1 b hb9).mpr (rl_t h)) (fun z => z c2)⟩⟩
    · rw [if_neg c2]
      have hot := (hd1.1 b hb9).mp c2
      have hdv := dv_end (dv_start hd1 hb9 hot hop hfe)
      have hoth : ∀ g j, ¬ (32 ≤ g ∧ g ≤ 37) → lp (fun _ I => sp_rfb I J) 12 0 (sp_sat (uI I 37 0 0) b) g j = I g j := fun g j q => by
        rw [rfb12_oth q, sat_other (by omega)]
        exact hu g j (by omega)
      generalize lp (fun _ I => sp_rfb I J) 12 0 (sp_sat (uI I 37 0 0) b) = I2 at hdv hoth
      by_cases c3 : I2 32 a = 0
      · rw [if_pos c3]
        exact ⟨hoth, Or.inl ⟨rfl, fun n f h => (dv_opt hdv hm n a f h).1 c3⟩⟩
      · rw [if_neg c3]
        have hfew := dv_few hdv ha c3 hop
        obtain ⟨p, hw, h36, h37, hI, -⟩ := fol_path hdv hm 12 0 a I2 rfl (fun g j _ _ => rfl) ha c3 (by omega)
        refine ⟨fun g j q => (hI g j (by omega) (by omega)).trans (hoth g j q), Or.inr ⟨rfl, dN I2 a, dF I2 a, p, by omega, fun nb hnb => dv_few hdv ha c3 hnb, dv_bv hdv hm ha c3, hw, ?_, fun k hk => ?_, fun k hk => ?_⟩⟩
        · show sp_fol I2 J (nI a) (nI b) 37 0 = _
          rw [show sp_fol I2 J (nI a) (nI b) 37 0 = nI (0 + dN I2 a + 1) from h37, Nat.zero_add]
        · have := h36 k hk
          rw [Nat.zero_add] at this
          exact this
        · obtain ⟨q1, fk, q2⟩ := hw.2.2.1 k hk
          have q3 := (dv_opt hdv hm _ _ _ q2.1).1
          obtain ⟨a1, a2, a3, a4, a5, a6⟩ := hdv.2.1 _ q1 q3
          obtain ⟨e1, e2⟩ := (dv_bv hdv hm q1 q3).one q2
          refine ⟨fk, q2, ?_, by omega⟩
          show sp_fol I2 J (nI a) (nI b) 34 (p k) = _
          rw [show sp_fol I2 J (nI a) (nI b) 34 (p k) = I2 34 (p k) from hI 34 _ (by decide) (by decide), a3, e1]
