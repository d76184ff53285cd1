/-! ===== rows that are alike wherever they are read ===== -/
def LQ (f g : Nat → Int32) (h : Nat) : Prop := ∀ j, (j < 21 + 4 * h ∨ 261 ≤ j ∧ j < 475) → g j = f j
section LQS
variable {f g k : Nat → Int32} {h rc sc B : Nat}
theorem LQ.rf : LQ f f h := fun _ _ => rfl
theorem LQ.trans (a : LQ f g h) (b : LQ g k h) : LQ f k h := fun j hj => (b j hj).trans (a j hj)
theorem LQ.iv (q : LQ f g h) (I : IV f h rc sc B) : IV g h rc sc B := by
  obtain ⟨⟨k1, k2, k3⟩, b, ⟨s, s1, s2, s3⟩, ⟨N, n, n1, n2, n3, n4⟩, kk, v1, ⟨m, m1, m2⟩, v3, v4⟩ := I
  refine ⟨⟨by rw [q _ (by omega)]; exact k1, by rw [q _ (by omega)]; exact k2, by rw [q _ (by omega)]; exact k3⟩, b, ⟨s, s1, s2, by rw [q _ (by omega)]; exact s3⟩, ⟨N, n, n1, by rw [q _ (by omega)]; exact n2, fun j hj => ?_, n4⟩, fun j hj => ?_, by rw [q _ (by omega)]; exact v1, ⟨m, m1, by rw [q _ (by omega)]; exact m2⟩, fun i hi => ?_, fun i hi => ?_⟩
  · show g _ = _ ∧ _
    rw [q _ (by omega)]; exact n3 j hj
  · show ∃ c, c < 12 ∧ g _ = _
    rw [q _ (by omega)]; exact kk j hj
  · rw [q _ (by omega), q _ (by omega)]; exact v3 i hi
  · rw [q _ (by omega)]; exact v4 i hi
theorem LQ.sa {μ : Mm} {a : Nat} (q : LQ f g h) (F : SA μ a f h rc sc) : SA μ a g h rc sc := by
  have h1 := F.1
  exact F.to (fun j _ _ _ hj => (q j (by omega)).symm)
theorem LQ.st {μ : Mm} {a : Nat} (q : LQ f g (hF f)) (F : ST μ a f B) : ST μ a g B := by
  obtain ⟨h, rc, sc, A, I⟩ := F
  rw [I.h.1] at q
  exact ⟨h, rc, sc, q.sa A, q.iv I⟩
theorem cntA_c (q : LQ f g h) {pl : Int32} : ∀ n, n ≤ h → cntA g pl n = cntA f pl n
  | 0, _ => rfl
  | n + 1, hn => by
    show cntA g pl n + _ = cntA f pl n + _
    rw [cntA_c q n (by omega), show e0 g n = e0 f n from q _ (by omega)]
theorem upd_c {x y : Int32} {i j : Nat} (h1 : j ≠ i → g j = f j) (h2 : x = y) : upd g i x j = upd f i y j := by
  subst h2
  by_cases e : j = i
  · rw [upd_at e, upd_at e]
  · rw [upd_ne e, upd_ne e]; exact h1 e
theorem blk_c {lo n j : Nat} {v w : Nat → Int32} (h1 : ¬ (lo ≤ j ∧ j < lo + n) → g j = f j) (h2 : ∀ q, q < n → v q = w q) : blk g lo n v j = blk f lo n w j := by
  by_cases e : lo ≤ j ∧ j < lo + n
  · obtain ⟨q, rfl⟩ : ∃ q, j = lo + q := ⟨j - lo, by omega⟩
    rw [blk_in (q := q) rfl (by omega), blk_in (q := q) rfl (by omega)]
    exact h2 q (by omega)
  · rw [blk_out (by omega), blk_out (by omega)]; exact h1 e
theorem LQ.sets (q : LQ f g h) {a : Nat} {v : Int32} (ha : a < 12) : LQ (setsF f h a v) (setsF g h a v) (h + 1) := by
  intro j hj
  unfold setsF
  refine upd_c (fun e1 => upd_c (fun e2 => upd_c (fun e3 => upd_c (fun e4 => upd_c (fun e5 => upd_c (fun e6 => upd_c (fun e7 => q j (by omega)) ?_) rfl) rfl) ?_) rfl) rfl) ?_
  · exact q _ (by omega)
  · exact q _ (by omega)
  · rw [q 3 (by omega)]
theorem LQ.upd (q : LQ f g h) {i : Nat} {x y : Int32} (e : x = y) : LQ (upd f i x) (upd g i y) h := fun j hj => upd_c (fun _ => q j hj) e.symm
theorem LQ.thin (q : LQ f g h) {s mi : Int32} (hh : h ≤ 60) : LQ (thinF f h s mi) (thinF g h s mi) (leftF f h s mi) := by
  obtain ⟨t1, t2⟩ := thin_congr (f := f) (f' := g) (h := h) (s := s) (mi := mi) (q 1 (by omega)) (q 3 (by omega)) (q 4 (by omega)) (fun j h1 h2 => q j (by omega))
  have hl : leftF f h s mi ≤ h := leftN_le _ _
  have ek : kept (pF g h s mi) h = kept (pF f h s mi) h := kept_congr (fun i hi => by
    unfold pF
    rw [q 1 (by omega), q 3 (by omega)]
    exact goB_congr (fun j _ h2 => ⟨q _ (by omega), q _ (by omega), q _ (by omega), q _ (by omega)⟩) hi)
  intro j hj
  by_cases c : 21 ≤ j ∧ j < 21 + 4 * leftF f h s mi
  · obtain ⟨e, w, rfl, hw, he⟩ : ∃ e w, j = 21 + 4 * e + w ∧ w < 4 ∧ e < leftF f h s mi := ⟨(j - 21) / 4, (j - 21) % 4, by omega, by omega, by omega⟩
    obtain ⟨r, r1, r2, r3⟩ := thinF_e (f := f) (h := h) (s := s) (mi := mi) he hw
    obtain ⟨r', r1', r2', r3'⟩ := thinF_e (f := g) (h := h) (s := s) (mi := mi) (j := e) (by rw [t1]; exact he) hw
    rw [ek, r1] at r1'
    cases r1'
    rw [r3, r3']
    exact q _ (by omega)
  · unfold thinF
    by_cases c4 : j = 4
    · rw [if_pos c4, if_pos c4]; exact t2
    · rw [if_neg c4, if_neg c4]
      by_cases c5 : j = 5
      · rw [if_pos c5, if_pos c5, q 5 (by omega), t1]
      · rw [if_neg c5, if_neg c5]
        by_cases c6 : j = 6
        · rw [if_pos c6, if_pos c6, t1]
        · rw [if_neg c6, if_neg c6, if_neg (by rw [t1]; exact c), if_neg c]
          exact q j (by omega)
theorem LQ.begin (q : LQ f g h) {i : Nat} {pl pl' : Int32} {v w : Nat → Int32} (e : pl = pl') (hv : ∀ k, k < 12 → v k = w k) : LQ (beginF f i pl v) (beginF g i pl' w) h := by
  intro j hj
  unfold beginF
  exact blk_c (fun _ => blk_c (fun _ => upd_c (fun _ => upd_c (fun _ => q j hj) e.symm) e.symm) (fun k hk => (hv k hk).symm)) (fun k hk => (hv k hk).symm)
theorem LQ.come (q : LQ f g h) : LQ (comeF f rc) (comeF g rc) h := by
  unfold comeF
  exact ((q.upd rfl).begin rfl (fun _ _ => rfl)).upd rfl
theorem LQ.conf (q : LQ f g h) {i : Nat} (hi : i < 6) : LQ (confF f i) (confF g i) h := by
  intro j hj
  unfold confF
  exact upd_c (fun _ => blk_c (fun _ => q j hj) (fun k hk => q _ (by omega))) (q _ (by omega))
theorem LQ.back (q : LQ f g h) {i : Nat} (hi : i < 6) : LQ (backF f i) (backF g i) h := by
  intro j hj
  unfold backF
  exact upd_c (fun _ => blk_c (fun _ => q j hj) (fun k hk => q _ (by omega))) (q _ (by omega))
theorem LQ.shot (q : LQ f g h) : LQ (shotF f sc) (shotF g sc) h := by
  intro j hj
  unfold shotF
  exact upd_c (fun _ => blk_c (fun _ => upd_c (fun _ => blk_c (fun _ => q j hj) (fun k hk => q _ (by omega))) (q _ (by omega))) (fun k hk => q _ (by omega))) rfl
theorem LQ.read (q : LQ f g h) {i k c : Nat} (hi : i < 6) (hkc : k + c ≤ h) : LQ (readF f i k c) (readF g i k c) h := by
  intro j hj
  unfold readF
  refine upd_c (fun _ => upd_c (fun _ => blk_c (fun _ => q j hj) (fun r hr => ?_)) ?_) (by rw [q _ (by omega)])
  · exact vwN_congr (h := h) (fun j hj => q _ (by omega)) (fun j hj => q _ (by omega)) (fun j hj => q _ (by omega)) c hkc r hr
  · cases c with
    | zero => exact q _ (by omega)
    | succ c => show e0 g _ + _ = e0 f _ + _; rw [show e0 g (k + c) = e0 f (k + c) from q _ (by omega)]
theorem LQ.rdK (q : LQ f g h) {i : Nat} (hi : i < 6) : rdK g h i = rdK f h i := by
  show h - cntA g _ h = h - cntA f _ h
  rw [q (261 + 27 * i) (by omega), cntA_c q h (Nat.le_refl h)]
theorem LQ.rdC (q : LQ f g h) {i M : Nat} (hi : i < 6) : rdC g h i M = rdC f h i M := by
  show min M (cntA g _ h) = min M (cntA f _ h)
  rw [q (261 + 27 * i) (by omega), cntA_c q h (Nat.le_refl h)]
theorem LQ.mayRemove (q : LQ f g h) {x : Int32} : mayRemoveF g h x = mayRemoveF f h x := by
  unfold mayRemoveF
  by_cases e : inB x (nI 0) (nI 11) = true
  · obtain ⟨j, hj, rfl⟩ := inB_nI (by decide) e
    rw [nI_clamp (by omega), q (9 + j) (by omega)]
  · rw [if_neg e, if_neg e]
theorem LQ.mayPass (q : LQ f g h) {x : Int32} : mayPassF g x = mayPassF f x := by unfold mayPassF; rw [q 2 (by omega)]
theorem LQ.mayRead (q : LQ f g h) {x y : Int32} (hrc : rc ≤ 6) : mayReadF g rc x y = mayReadF f rc x y := by
  unfold mayReadF
  by_cases e : isRdB rc x = true
  · obtain ⟨j, hj, rfl⟩ := isRdB_t (by omega) e
    rw [nI_clamp (by omega), q (261 + 27 * j) (by omega), q 4 (by omega)]
  · rw [if_neg e, if_neg e]
theorem LQ.mayLoad (q : LQ f g h) {x y : Int32} (hsc : sc ≤ 4) : mayLoadF g rc sc x y = mayLoadF f rc sc x y := by
  unfold mayLoadF
  by_cases e : isRdB rc x = true ∧ isRdB sc y = true
  · obtain ⟨j, hj, rfl⟩ := isRdB_t (by omega) e.2
    rw [nI_clamp (by omega), q (423 + 13 * j) (by omega), q 4 (by omega)]
  · rw [if_neg e, if_neg e]
theorem maySet_t {x y : Int32} (hm : maySetF h x y = nI 0) (hh : h ≤ 60) : ∃ a, a < 12 ∧ x = nI a ∧ h < 60 := by
  unfold maySetF at hm
  by_cases e : inB x (nI 0) (nI 11) = true
  · obtain ⟨a, ha, rfl⟩ := inB_nI (by decide) e
    rw [if_pos e] at hm
    by_cases e2 : inB y (nI 0) (nI 999) = true
    · rw [if_pos e2] at hm
      by_cases e3 : h = 60
      · rw [if_pos e3] at hm; exact absurd hm (by decide)
      · exact ⟨a, by omega, rfl, by omega⟩
    · rw [if_neg e2] at hm; exact absurd hm (by decide)
  · rw [if_neg e] at hm; exact absurd hm (by decide)
theorem mayRemove_t {x : Int32} (hm : mayRemoveF f h x = nI 0) (hh : h ≤ 60) : ∃ a, a < 12 ∧ x = nI a ∧ h < 60 := by
  unfold mayRemoveF at hm
  by_cases e : inB x (nI 0) (nI 11) = true
  · obtain ⟨a, ha, rfl⟩ := inB_nI (by decide) e
    rw [if_pos e] at hm
    by_cases e3 : h = 60
    · rw [if_pos e3] at hm; exact absurd hm (by decide)
    · exact ⟨a, by omega, rfl, by omega⟩
  · rw [if_neg e] at hm; exact absurd hm (by decide)
theorem mayIs_t {x : Int32} (hm : mayIsF rc x = nI 0) (hrc : rc ≤ 6) : ∃ a, a < rc ∧ x = nI a := by
  unfold mayIsF at hm
  by_cases e : isRdB rc x = true
  · exact isRdB_t (by omega) e
  · rw [if_neg e] at hm; exact absurd hm (by decide)
theorem mayCome_t (hm : mayComeF rc = nI 0) (hrc : rc ≤ 6) : rc < 6 := by
  unfold mayComeF at hm
  by_cases e : rc = 6
  · rw [if_pos e] at hm; exact absurd hm (by decide)
  · omega
theorem rd_le (f : Nat → Int32) (h i M : Nat) : rdK f h i + rdC f h i M ≤ h := by
  have := cntA_le f (f (261 + 27 * i)) h
  show h - cntA f _ h + min M (cntA f _ h) ≤ h
  omega
theorem ord_step {c a b : Nat} (I : IV f h rc sc B) (q : LQ f g h) (hB : B < 2 ^ 29) (kc : kindF c ≠ 0) (ha : a ≤ 999) (hb : b ≤ 999) : ordMay g c a b = ordMay f c a b ∧ (ordMay f c a b = nI 0 → ∃ h' rc' sc', IV (ordNew f c a b) h' rc' sc' (B + 1) ∧ LQ (ordNew f c a b) (ordNew g c a b) h') := by
  have J := q.iv I
  obtain ⟨i1, i2, i3⟩ := I.h
  obtain ⟨j1, j2, j3⟩ := J.h
  have hh := I.2.1.1
  have hrc := I.2.1.2.1
  have hsc := I.2.1.2.2
  have K := kind_cases c
  have ic : ∀ {x y : Nat}, x ≤ 999 → y ≤ 999 → nI x = nI y → x = y := fun h1 h2 h3 => (nI_eq (by omega) (by omega)).mp h3
  rcases K with ⟨K, k⟩ | ⟨K, k⟩ | ⟨K, k⟩ | ⟨K, k⟩ | ⟨K, k⟩ | ⟨K, k⟩ | ⟨k, K⟩
  · have e : ∀ f, ordMay f c a b = mayIsF (rF f) (nI a) := fun f => by unfold ordMay; rw [if_neg (by omega), if_neg (by omega), if_neg (by omega), if_neg (by omega), if_neg (by omega), if_neg (by omega), if_pos (by omega)]
    rw [e, e, i2, j2]
    refine ⟨rfl, fun hm => ?_⟩
    obtain ⟨x, x1, x2⟩ := mayIs_t hm hrc
    have x3 := ic ha (by omega) x2
    subst x3
    rcases K with z | z
    · have e2 : ∀ f, ordNew f c a b = backF f a := fun f => by unfold ordNew; rw [if_neg (by omega), if_neg (by omega), if_neg (by omega), if_neg (by omega), if_neg (by omega), if_neg (by omega), if_neg (by omega), if_pos z]
      rw [e2, e2]
      exact ⟨h, rc, sc, (I.back x1).mono (by omega), q.back (by omega)⟩
    · have e2 : ∀ f, ordNew f c a b = confF f a := fun f => by unfold ordNew; rw [if_neg (by omega), if_neg (by omega), if_neg (by omega), if_neg (by omega), if_neg (by omega), if_neg (by omega), if_pos z]
      rw [e2, e2]
      exact ⟨h, rc, sc, (I.conf x1).mono (by omega), q.conf (by omega)⟩
  · rcases K with z | z | z
    · have e : ∀ f, ordMay f c a b = nI 0 := fun f => by unfold ordMay; rw [if_neg (by omega), if_neg (by omega), if_neg (by omega), if_pos z]
      rw [e, e]
      refine ⟨rfl, fun _ => ?_⟩
      have e2 : ∀ f, ordNew f c a b = thinF f (hF f) (f 0) (f 2) := fun f => by unfold ordNew; rw [if_neg (by omega), if_neg (by omega), if_neg (by omega), if_pos z]
      rw [e2, e2, i1, j1, q 0 (by omega), q 2 (by omega)]
      exact ⟨_, rc, sc, I.thin.mono (by omega), q.thin hh⟩
    · have e : ∀ f, ordMay f c a b = mayComeF (rF f) := fun f => by unfold ordMay; rw [if_neg (by omega), if_neg (by omega), if_neg (by omega), if_neg (by omega), if_pos z]
      rw [e, e, i2, j2]
      refine ⟨rfl, fun hm => ?_⟩
      have e2 : ∀ f, ordNew f c a b = comeF f (rF f) := fun f => by unfold ordNew; rw [if_neg (by omega), if_neg (by omega), if_neg (by omega), if_neg (by omega), if_pos z]
      rw [e2, e2, i2, j2]
      exact ⟨h, rc + 1, sc, (I.come (mayCome_t hm hrc)).mono (by omega), q.come⟩
    · have e : ∀ f, ordMay f c a b = nI 0 := fun f => by unfold ordMay; rw [if_neg (by omega), if_neg (by omega), if_neg (by omega), if_neg (by omega), if_neg (by omega), if_neg (by omega), if_neg (by omega), if_pos z]
      rw [e, e]
      refine ⟨rfl, fun _ => ?_⟩
      have e2 : ∀ f, ordNew f c a b = shotF f (sF f) := fun f => by unfold ordNew; rw [if_neg (by omega), if_neg (by omega), if_neg (by omega), if_neg (by omega), if_neg (by omega), if_neg (by omega), if_neg (by omega), if_neg (by omega), if_pos z]
      rw [e2, e2, i3, j3]
      exact ⟨h, rc, _, (I.shot (by omega)).mono (by omega), q.shot⟩
  · rcases K with z | z
    · have e : ∀ f, ordMay f c a b = mayPassF f (nI a) := fun f => by unfold ordMay; rw [if_neg (by omega), if_neg (by omega), if_pos z]
      rw [e, e, q.mayPass]
      refine ⟨rfl, fun hm => ?_⟩
      have e2 : ∀ f, ordNew f c a b = upd f 2 (f 2 + nI a) := fun f => by unfold ordNew; rw [if_neg (by omega), if_neg (by omega), if_pos z]
      rw [e2, e2]
      exact ⟨h, rc, sc, (I.pass hm).mono (by omega), q.upd (by rw [q 2 (by omega)])⟩
    · have e : ∀ f, ordMay f c a b = mayRemoveF f (hF f) (nI a) := fun f => by unfold ordMay; rw [if_neg (by omega), if_pos z]
      rw [e, e, i1, j1, q.mayRemove]
      refine ⟨rfl, fun hm => ?_⟩
      obtain ⟨x, x1, x2, x3⟩ := mayRemove_t hm hh
      have x4 := ic ha (by omega) x2
      subst x4
      have e2 : ∀ f, ordNew f c a b = setsF f (hF f) a (-6) := fun f => by unfold ordNew; rw [if_neg (by omega), if_pos z]
      rw [e2, e2, i1, j1]
      exact ⟨h + 1, rc, sc, I.sets x1 x3, q.sets x1⟩
  · have e : ∀ f, ordMay f c a b = maySetF (hF f) (nI a) (nI b) := fun f => by unfold ordMay; rw [if_pos K]
    rw [e, e, i1, j1]
    refine ⟨rfl, fun hm => ?_⟩
    obtain ⟨x, x1, x2, x3⟩ := maySet_t hm hh
    have x4 := ic ha (by omega) x2
    subst x4
    have e2 : ∀ f, ordNew f c a b = setsF f (hF f) a (nI b) := fun f => by unfold ordNew; rw [if_pos K]
    rw [e2, e2, i1, j1]
    exact ⟨h + 1, rc, sc, I.sets x1 x3, q.sets x1⟩
  · have e : ∀ f, ordMay f c a b = mayReadF f (rF f) (nI a) (nI b) := fun f => by unfold ordMay; rw [if_neg (by omega), if_neg (by omega), if_neg (by omega), if_neg (by omega), if_neg (by omega), if_pos K]
    rw [e, e, i2, j2, q.mayRead hrc]
    refine ⟨rfl, fun hm => ?_⟩
    obtain ⟨x, M, x1, x2, x3, x4⟩ := mayRead_t hm hrc
    have x5 := ic ha (by omega) x3
    subst x5
    have e2 : ∀ f, ordNew f c a b = readF f a (rdK f (hF f) a) (rdC f (hF f) a b) := fun f => by unfold ordNew; rw [if_neg (by omega), if_neg (by omega), if_neg (by omega), if_neg (by omega), if_neg (by omega), if_pos K]
    rw [e2, e2, i1, j1, q.rdK (by omega), q.rdC (by omega)]
    exact ⟨h, rc, sc, (I.read (by omega) x1 (rd_le _ _ _ _)).mono (by omega), q.read (by omega) (rd_le _ _ _ _)⟩
  · have e : ∀ f, ordMay f c a b = mayLoadF f (rF f) (sF f) (nI a) (nI b) := fun f => by unfold ordMay; rw [if_neg (by omega), if_neg (by omega), if_neg (by omega), if_neg (by omega), if_neg (by omega), if_neg (by omega), if_neg (by omega), if_neg (by omega)]
    rw [e, e, i2, j2, i3, j3, q.mayLoad hsc]
    refine ⟨rfl, fun hm => ?_⟩
    obtain ⟨x, y, x1, x2, x3, x4⟩ := mayLoad_t hm hrc hsc
    have x5 := ic ha (by omega) x3
    have x6 := ic hb (by omega) x4
    subst x5
    subst x6
    have e2 : ∀ f, ordNew f c a b = beginF f a (f (423 + 13 * b)) (fun k => f (423 + 13 * b + 1 + k)) := fun f => by unfold ordNew; rw [if_neg (by omega), if_neg (by omega), if_neg (by omega), if_neg (by omega), if_neg (by omega), if_neg (by omega), if_neg (by omega), if_neg (by omega), if_neg (by omega)]
    rw [e2, e2]
    exact ⟨h, rc, sc, (I.begin x1 (I.nv.2.2.2 b x2)).mono (by omega), q.begin (q _ (by omega)).symm (fun k hk => (q _ (by omega)).symm)⟩
  · exact absurd k kc
end LQS
