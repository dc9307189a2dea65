/-! worlds as lists in any order, and the frame over an abstract rest -/
theorem vP_iff {D : va_G} {cl : List vw_C} {ws : va_W} {H : Heap} : va_P D cl ws H ↔ ∀ q ∈ ws, va_at D cl q H :=
  ⟨fun h q hq => by
    obtain ⟨k, hk⟩ := List.getElem?_of_mem hq
    exact h k q hk, fun h k q hk => h q (List.mem_of_getElem? hk)⟩
theorem vD_iff {A : Nat → Prop} {ws : va_W} : va_D A ws ↔ (ws.map Prod.fst).Pairwise (· ≠ ·) ∧ ∀ q ∈ ws, A q.1 := by
  constructor
  · rintro ⟨h1, h2⟩
    refine ⟨?_, fun q hq => by
      obtain ⟨k, hk⟩ := List.getElem?_of_mem hq
      exact h2 k q hk⟩
    rw [List.pairwise_iff_getElem]
    intro i j hi hj hij he
    rw [List.length_map] at hi hj
    rw [List.getElem_map, List.getElem_map] at he
    have := h1 i j ws[i] ws[j] (List.getElem?_eq_getElem hi) (List.getElem?_eq_getElem hj) he
    omega
  · rintro ⟨h1, h2⟩
    refine ⟨fun i j p q hi hj he => ?_, fun k q hk => h2 q (List.mem_of_getElem? hk)⟩
    rw [List.pairwise_iff_getElem] at h1
    obtain ⟨li, ei⟩ := List.getElem?_eq_some_iff.mp hi
    obtain ⟨lj, ej⟩ := List.getElem?_eq_some_iff.mp hj
    rcases Nat.lt_trichotomy i j with h | h | h
    · exact absurd (by rw [List.getElem_map, List.getElem_map, ei, ej]; exact he) (h1 i j (by rw [List.length_map]; exact li) (by rw [List.length_map]; exact lj) h)
    · exact h
    · exact absurd (by rw [List.getElem_map, List.getElem_map, ei, ej]; exact he.symm) (h1 j i (by rw [List.length_map]; exact lj) (by rw [List.length_map]; exact li) h)
theorem va_P.perm {D : va_G} {cl : List vw_C} {ws ws' : va_W} {H : Heap} (h : va_P D cl ws H) (hp : ws.Perm ws') : va_P D cl ws' H := vP_iff.mpr (fun q hq => vP_iff.mp h q (hp.mem_iff.mpr hq))
theorem va_D.perm {A : Nat → Prop} {ws ws' : va_W} (h : va_D A ws) (hp : ws.Perm ws') : va_D A ws' := by
  obtain ⟨h1, h2⟩ := vD_iff.mp h
  exact vD_iff.mpr ⟨((hp.map Prod.fst).pairwise_iff (fun hne he => hne he.symm)).mp h1, fun q hq => h2 q (hp.mem_iff.mpr hq)⟩
theorem vP_left {D : va_G} {cl : List vw_C} {a b : va_W} {H : Heap} (h : va_P D cl (a ++ b) H) : va_P D cl a H := vP_iff.mpr (fun q hq => vP_iff.mp h q (List.mem_append_left _ hq))
theorem vP_right {D : va_G} {cl : List vw_C} {a b : va_W} {H : Heap} (h : va_P D cl (a ++ b) H) : va_P D cl b H := vP_iff.mpr (fun q hq => vP_iff.mp h q (List.mem_append_right _ hq))
theorem vD_left {A : Nat → Prop} {a b : va_W} (h : va_D A (a ++ b)) : va_D A a := by
  obtain ⟨h1, h2⟩ := vD_iff.mp h
  rw [List.map_append, List.pairwise_append] at h1
  exact vD_iff.mpr ⟨h1.1, fun q hq => h2 q (List.mem_append_left _ hq)⟩
theorem vD_right {A : Nat → Prop} {a b : va_W} (h : va_D A (a ++ b)) : va_D A b := by
  obtain ⟨h1, h2⟩ := vD_iff.mp h
  rw [List.map_append, List.pairwise_append] at h1
  exact vD_iff.mpr ⟨h1.2.1, fun q hq => h2 q (List.mem_append_right _ hq)⟩
theorem hs_free {A0 : Nat → Prop} {wc wr : va_W} {H0 H : Heap} {locs : List Loc} (hD : va_D A0 (wc ++ wr)) (hS : va_S A0 H0 H locs) (hA : ∀ q, H0.size ≤ q → A0 q) : ∀ q, va_A wc H.size q → A0 q := by
  intro q h
  rcases h with ⟨k, e, h⟩ | h
  · exact (vD_iff.mp hD).2 (q, e) (List.mem_append_left _ (List.mem_of_getElem? h))
  · exact hA q (Nat.le_trans hS.1 h)
theorem hs_join {A0 : Nat → Prop} {D : va_G} {cl : List vw_C} {wc wr w1 : va_W} {H H1 : Heap} (hP : va_P D cl (wc ++ wr) H) (hD : va_D A0 (wc ++ wr)) (hk : ∀ q : Nat, q < H.size → ¬ va_A wc H.size q → H1[q]? = H[q]?) (hF : ∀ q, va_A wc H.size q → A0 q) (hP1 : va_P D cl w1 H1) (hD1 : va_D (va_A wc H.size) w1) : va_P D cl (wr ++ w1) H1 ∧ va_D A0 (wr ++ w1) := by
  have hP' := vP_iff.mp hP
  obtain ⟨d1, d2⟩ := vD_iff.mp hD
  obtain ⟨e1, e2⟩ := vD_iff.mp hD1
  rw [List.map_append, List.pairwise_append] at d1
  have apart : ∀ q ∈ wr, q.1 < H.size ∧ ¬ va_A wc H.size q.1 := by
    intro q hq
    have hl := (hP' q (List.mem_append_right _ hq)).lt
    refine ⟨hl, fun h => ?_⟩
    rcases h with ⟨k, e, h⟩ | h
    · have hm : (q.1, e) ∈ wc := List.mem_of_getElem? h
      exact d1.2.2 q.1 (List.mem_map.mpr ⟨(q.1, e), hm, rfl⟩) q.1 (List.mem_map.mpr ⟨q, hq, rfl⟩) rfl
    · omega
  refine ⟨vP_iff.mpr (fun q hq => ?_), vD_iff.mpr ⟨?_, fun q hq => ?_⟩⟩
  · rcases List.mem_append.mp hq with h | h
    · exact (hP' q (List.mem_append_right _ h)).kept (hk q.1 (apart q h).1 (apart q h).2)
    · exact vP_iff.mp hP1 q h
  · rw [List.map_append, List.pairwise_append]
    refine ⟨d1.2.1, e1, fun x hx y hy hxy => ?_⟩
    obtain ⟨q, hq, rfl⟩ := List.mem_map.mp hx
    obtain ⟨q2, hq2, rfl⟩ := List.mem_map.mp hy
    exact (apart q hq).2 (by rw [hxy]; exact e2 q2 hq2)
  · rcases List.mem_append.mp hq with h | h
    · exact d2 q (List.mem_append_right _ h)
    · exact hF _ (e2 q h)
/-- the heap holds these cells, and nothing old has changed -/
def HS (D : va_G) (s : State) (ws : va_W) (H : Heap) (locs : List Loc) : Prop := va_P D vwCl ws H ∧ va_D (fun q : Nat => s.heap.size ≤ q) ws ∧ va_S (fun q : Nat => s.heap.size ≤ q) s.heap H locs
theorem HS.perm {D : va_G} {s : State} {ws ws' : va_W} {H : Heap} {locs : List Loc} (h : HS D s ws H locs) (hp : ws.Perm ws') : HS D s ws' H locs := ⟨h.1.perm hp, h.2.1.perm hp, h.2.2⟩
theorem HS.right {D : va_G} {s : State} {a b : va_W} {H : Heap} {locs : List Loc} (h : HS D s (a ++ b) H locs) : HS D s b H locs := ⟨vP_right h.1, vD_right h.2.1, h.2.2⟩
/-! worlds as rows of blocks -/
def cat (L : List va_W) (r : va_W) : va_W := L.foldr (fun a b => a ++ b) r
theorem cat_eq (L : List va_W) (r : va_W) : cat L r = L.flatten ++ r := by
  induction L with
  | nil => rfl
  | cons a L ih =>
    show a ++ cat L r = (a :: L).flatten ++ r
    rw [ih, List.flatten_cons, List.append_assoc]
def nth : List va_W → Nat → va_W
  | [], _ => []
  | a :: _, 0 => a
  | _ :: L, n + 1 => nth L n
theorem nth_get : ∀ (L : List va_W) (i : Nat) (h : i < L.length), nth L i = L[i]
  | _ :: _, 0, _ => rfl
  | _ :: L, n + 1, h => nth_get L n (Nat.lt_of_succ_lt_succ h)
theorem nth_range (L : List va_W) : (List.range L.length).map (nth L) = L := by
  apply List.ext_getElem
  · simp
  · intro i h1 h2
    rw [List.getElem_map, List.getElem_range]
    exact nth_get L i h2
theorem pm {n : Nat} (L : List va_W) (is : List Nat) (r : va_W) (hn : L.length = n) (h : is.Perm (List.range n)) : (cat L r).Perm (cat (is.map (nth L)) r) := by
  subst hn
  rw [cat_eq, cat_eq]
  refine List.Perm.append_right r (List.Perm.flatten ?_)
  have := (h.map (nth L)).symm
  rw [nth_range] at this
  exact this
theorem cat_app (L1 L2 : List va_W) (r : va_W) : cat (L1 ++ L2) r = cat L1 (cat L2 r) := by
  unfold cat
  rw [List.foldr_append]
theorem cat_nil (L : List va_W) (r : va_W) : cat L r = cat L [] ++ r := by
  rw [cat_eq, cat_eq, List.append_nil]
/-- blocks in another order, in two rows -/
theorem pm2 (n : Nat) (L : List va_W) (is : List Nat) (r : va_W) (L1 L2 : List va_W) (hn : L.length = n) (h : is.Perm (List.range n)) (hL : is.map (nth L) = L1 ++ L2) : (cat L r).Perm (cat L1 (cat L2 r)) := by
  have := pm L is r hn h
  rw [hL, cat_app] at this
  exact this
/-- and back -/
theorem pm3 (n : Nat) (L : List va_W) (is : List Nat) (r : va_W) (L1 L2 : List va_W) (hn : (L1 ++ L2).length = n) (h : is.Perm (List.range n)) (hL : is.map (nth (L1 ++ L2)) = L) : (cat L1 (cat L2 r)).Perm (cat L r) := by
  have := pm (L1 ++ L2) is r hn h
  rw [hL, cat_app] at this
  exact this
theorem cat_swap (a b : List va_W) (r : va_W) : (cat a (cat b r)).Perm (cat b (cat a r)) := by
  rw [cat_eq, cat_eq, cat_eq, cat_eq]
  exact List.perm_append_comm_assoc _ _ _
theorem cat_two (L : List va_W) (a b p r : va_W) (h : (a ++ b).Perm p) : (cat (L ++ [a, b]) r).Perm (cat (L ++ [p]) r) := by
  rw [cat_eq, cat_eq, List.flatten_append, List.flatten_append]
  refine List.Perm.append_right r (List.Perm.append_left _ ?_)
  simpa using h
theorem HS.drop {D : va_G} {s : State} {L : List va_W} {a r : va_W} {H : Heap} {locs : List Loc} (h : HS D s (cat (a :: L) r) H locs) : HS D s (cat L r) H locs := HS.right (a := a) h
/-! the class's world -/
abbrev XS : Type := TX10_x × TX6_p × TX6_p × TX7_r × TX4_n × TX2_h × (Nat → TX4_n) × TX8_s × TX0_d × TX1_y × TX4_n
def kfK (na : Nat → Nat) : Nat → Option Nat := fun j => some (na (j % 16))
def kfM (na : Nat → Nat) : Nat → Option Nat := fun j => some (na (16 + j % 3))
def updN (K : Nat → TX4_n) (i : Nat) (v : TX4_n) : Nat → TX4_n := fun j => if j = i then v else K j
def xo (A : Nat → Nat) (x : TX10_x) : va_W := [(A 0, .inr (7, [.ref (A 1), .ref (A 2), .ref (A 3), .ref (A 4), .ref (A 5), .ref (A 6), .ref (A 7), .ref (A 8), .int x.1, .int x.2]))]
def hio (A : Nat → Nat) (h : TX2_h) : va_W := [(A 5, .inr (2, [.ref (A 9), .ref (A 10), .int h.1, .int h.2.1, .int h.2.2]))]
def kao (A : Nat → Nat) (C : Nat → Nat → ClassId) (na : Nat → Nat) : va_W := [(A 9, .inl (C 9 0, 16, .inr (.inr (.inr (.inr (kfK na))))))]
def mao (A : Nat → Nat) (C : Nat → Nat → ClassId) (na : Nat → Nat) : va_W := [(A 10, .inl (C 10 0, 3, .inr (.inr (.inr (.inr (kfM na))))))]
def dyo (A : Nat → Nat) (y : TX1_y) : va_W := [(A 8, .inr (1, [.ref (A 12), .int y.1, .int y.2.1, .ref (A 11)]))]
def dao (A : Nat → Nat) (C : Nat → Nat → ClassId) (y : TX1_y) : va_W := [(A 11, .inl (C 11 0, 6, .inl y.2.2))]
def pool (na : Nat → Nat) (nu : Nat → Nat → Nat) (nk : Nat → Nat → ClassId) (K : Nat → TX4_n) : va_W := (List.range 19).flatMap (fun i => bX4 (na i) (nu i) (nk i) (K i) [])
def poolR (na : Nat → Nat) (nu : Nat → Nat → Nat) (nk : Nat → Nat → ClassId) (K : Nat → TX4_n) (J : Nat) : va_W := ((List.range 19).erase J).flatMap (fun i => bX4 (na i) (nu i) (nk i) (K i) [])
theorem pool_split {na : Nat → Nat} {nu : Nat → Nat → Nat} {nk : Nat → Nat → ClassId} {K : Nat → TX4_n} {J : Nat} (hJ : J < 19) : (pool na nu nk K).Perm (bX4 (na J) (nu J) (nk J) (K J) [] ++ poolR na nu nk K J) :=
  List.Perm.flatMap_right (fun i => bX4 (na i) (nu i) (nk i) (K i) []) (List.perm_cons_erase (List.mem_range.mpr hJ))
theorem pool_join {na : Nat → Nat} {nu : Nat → Nat → Nat} {nk : Nat → Nat → ClassId} {K : Nat → TX4_n} {J : Nat} {v : TX4_n} (hJ : J < 19) : (bX4 (na J) (nu J) (nk J) v [] ++ poolR na nu nk K J).Perm (pool na nu nk (updN K J v)) := by
  have h := (pool_split (na := na) (nu := nu) (nk := nk) (K := updN K J v) hJ).symm
  have e1 : updN K J v J = v := if_pos rfl
  have e2 : poolR na nu nk (updN K J v) J = poolR na nu nk K J := by
    unfold poolR
    rw [List.flatMap_def, List.flatMap_def]
    congr 1
    apply List.map_congr_left
    intro i hi
    have : i ≠ J := ((List.nodup_range).mem_erase_iff.mp hi).1
    show bX4 (na i) (nu i) (nk i) (updN K J v i) [] = _
    rw [show updN K J v i = K i from if_neg this]
  rw [e1, e2] at h
  exact h
def wX0 (A : Nat → Nat) (U : Nat → Nat → Nat) (C : Nat → Nat → ClassId) (na : Nat → Nat) (X : XS) (t : List va_W) : List va_W := xo A X.1 :: bX6 (A 1) (U 1) (C 1) X.2.1 [] :: bX6 (A 2) (U 2) (C 2) X.2.2.1 [] :: bX7 (A 3) (U 3) (C 3) X.2.2.2.1 [] :: bX4 (A 4) (U 4) (C 4) X.2.2.2.2.1 [] :: hio A X.2.2.2.2.2.1 :: kao A C na :: mao A C na :: bX8 (A 6) (U 6) (C 6) X.2.2.2.2.2.2.2.1 [] :: bX0 (A 7) (U 7) (C 7) X.2.2.2.2.2.2.2.2.1 [] :: dyo A X.2.2.2.2.2.2.2.2.2.1 :: dao A C X.2.2.2.2.2.2.2.2.2.1 :: bX4 (A 12) (U 12) (C 12) X.2.2.2.2.2.2.2.2.2.2 [] :: t
def wX (A : Nat → Nat) (U : Nat → Nat → Nat) (C : Nat → Nat → ClassId) (na : Nat → Nat) (nu : Nat → Nat → Nat) (nk : Nat → Nat → ClassId) (X : XS) : List va_W := wX0 A U C na X [pool na nu nk X.2.2.2.2.2.2.1]
def wXs (A : Nat → Nat) (U : Nat → Nat → Nat) (C : Nat → Nat → ClassId) (na : Nat → Nat) (nu : Nat → Nat → Nat) (nk : Nat → Nat → ClassId) (X : XS) (J : Nat) : List va_W := wX0 A U C na X [bX4 (na J) (nu J) (nk J) (X.2.2.2.2.2.2.1 J) [], poolR na nu nk X.2.2.2.2.2.2.1 J]
theorem wX_split {A : Nat → Nat} {U : Nat → Nat → Nat} {C : Nat → Nat → ClassId} {na : Nat → Nat} {nu : Nat → Nat → Nat} {nk : Nat → Nat → ClassId} {X : XS} {J : Nat} {r : va_W} (hJ : J < 19) : (cat (wX A U C na nu nk X) r).Perm (cat (wXs A U C na nu nk X J) r) := (cat_two (wX0 A U C na X []) _ _ _ r (pool_split hJ).symm).symm
theorem wX_join {A : Nat → Nat} {U : Nat → Nat → Nat} {C : Nat → Nat → ClassId} {na : Nat → Nat} {nu : Nat → Nat → Nat} {nk : Nat → Nat → ClassId} {X : XS} {K : Nat → TX4_n} {v : TX4_n} {J : Nat} {r : va_W} (hJ : J < 19) : (cat (wX0 A U C na X [bX4 (na J) (nu J) (nk J) v [], poolR na nu nk K J]) r).Perm (cat (wX0 A U C na X [pool na nu nk (updN K J v)]) r) := cat_two (wX0 A U C na X []) _ _ _ r (pool_join hJ)
def KX (D : va_G) (s : State) (C : Nat → Nat → ClassId) (nk : Nat → Nat → ClassId) : Prop := va_K D vwCl (tX6 (C 1) []) s ∧ va_K D vwCl (tX6 (C 2) []) s ∧ va_K D vwCl (tX7 (C 3) []) s ∧ va_K D vwCl (tX4 (C 4) []) s ∧ va_K D vwCl [(C 9 0, .object RX4)] s ∧ va_K D vwCl [(C 10 0, .object RX4)] s ∧ va_K D vwCl (tX8 (C 6) []) s ∧ va_K D vwCl (tX0 (C 7) []) s ∧ va_K D vwCl [(C 11 0, .int)] s ∧ va_K D vwCl (tX4 (C 12) []) s ∧ ∀ i, va_K D vwCl (tX4 (nk i) []) s
/-! the reference's world -/
abbrev MS : Type := TX12_t × TX12_s × TX12_v × TX12_w × TX12_h × TX12_z × TX12_k × TX12_c
def mo (B : Nat → Nat) (M : MS) (PV RV : Value) : va_W := [(B 0, .inr (9, [.int M.1.1, .int M.1.2.1, .int M.1.2.2, PV, RV, .ref (B 1), .int M.2.1.2.1, .int M.2.1.2.2.1, .int M.2.1.2.2.2.1, .int M.2.1.2.2.2.2.1, .int M.2.1.2.2.2.2.2.1, .int M.2.1.2.2.2.2.2.2.1, .int M.2.1.2.2.2.2.2.2.2.1, .int M.2.1.2.2.2.2.2.2.2.2.1, .long M.2.1.2.2.2.2.2.2.2.2.2, .ref (B 2), .ref (B 3), .ref (B 4), .ref (B 5), .int M.2.2.2.2.1.2.2.1, .int M.2.2.2.2.1.2.2.2, .ref (B 6), .ref (B 7), .int M.2.2.2.2.2.1.2.2, .int M.2.2.2.2.2.2.1.1, .int M.2.2.2.2.2.2.1.2.1, .int M.2.2.2.2.2.2.1.2.2, .int M.2.2.2.2.2.2.2.1, .int M.2.2.2.2.2.2.2.2.1, .int M.2.2.2.2.2.2.2.2.2]))]
def ar (B : Nat → Nat) (E : Nat → ClassId) (i n : Nat) (f : Nat → Int32) : va_W := [(B i, .inl (E i, n, .inl f))]
def wM (B : Nat → Nat) (E : Nat → ClassId) (M : MS) (PV RV : Value) (Qs : va_W) : List va_W := [mo B M PV RV, ar B E 1 900 M.2.1.1, ar B E 2 26 M.2.2.1, ar B E 3 26 M.2.2.2.1, ar B E 4 416 M.2.2.2.2.1.1, ar B E 5 78 M.2.2.2.2.1.2.1, ar B E 6 5 M.2.2.2.2.2.1.1, ar B E 7 5 M.2.2.2.2.2.1.2.1, Qs]
def KM (D : va_G) (s : State) (E : Nat → ClassId) : Prop := va_K D vwCl [(E 1, .byte)] s ∧ va_K D vwCl [(E 2, .int)] s ∧ va_K D vwCl [(E 3, .int)] s ∧ va_K D vwCl [(E 4, .int)] s ∧ va_K D vwCl [(E 5, .int)] s ∧ va_K D vwCl [(E 6, .int)] s ∧ va_K D vwCl [(E 7, .int)] s
/-! a call of the law's -/
def LW (p : Program) (l : Launch) (s : State) (m : MethodId) (meth : Method) (c : Code) (b L : Nat) (xs : Nat → Int32) : Prop := lw_At p s m meth c b L xs ∧ NW s ∧ SE s.heap.size s ∧ l.stackTraces = false
theorem room_c : 500100 ≤ room_1.cells := by decide +kernel
theorem room_s : 7000400 ≤ room_1.slots := by decide +kernel
section LAWCALL
variable {p : Program} {l : Launch} {e : Env} {s : State} {m : MethodId} {below : List Frame} {meth : Method} {c : Code} {b L : Nat} {xs : Nat → Int32} {H : Heap} {locs : List Loc} {cells slots mc ms : Nat} {Q : State → Prop} {D : va_G} {wc wr : va_W} {L1 L2 : List va_W} {tys : List (ClassId × FieldType)} {pc idx n maxL : Nat} {ls : Array Slot} {rest As : List Value} {S : Type} {w1 : S → va_W} {L1' : S → List va_W} {tys1 : S → List (ClassId × FieldType)} {y : MethodName} {vf vf' : List Cond} {rm : Room} {bytes : ByteArray} {ret : Option FieldType} {b0 ci N : Nat} {fs : List Value} {C : String} {T : u_T}
theorem law_i (C0 : LW p l s m meth c b L xs) {post : Int32 → S → Prop} (hM : Met l y vf rm (PC D (.ref b0 :: As) H.size wc tys) (va_Qi post (fun u t => BC D (va_A wc H.size) (w1 u) (tys1 u) t) (va_A wc H.size)) mc ms (va_A wc H.size)) (hG : GoodIn lw_tbl (wsV RL idx C y vf)) (hvf : vf = Cond.code y bytes maxL ret :: vf') (hrc : rm.cells = mc) (hrs : rm.slots = ms) (hd : y.cls = C ∧ y.cls ≠ "java/lang/invoke/MethodHandle" ∧ y.cls ≠ "java/lang/invoke/VarHandle" ∧ (parseMethodDescriptor y.desc).map (fun d => d.parameters.length) = some n) (hR : rm.frames + 1 ≤ room_1.frames ∧ 8 + (maxL + 11) + rm.locals ≤ room_1.locals) (hm : mc ≤ 50 ∧ ms ≤ 300)
    (hwc : wc = cat L1 []) (hw1 : ∀ u, w1 u = cat (L1' u) []) (hH : HS D s (cat L1 (cat L2 wr)) H locs) (hK : va_K D vwCl tys s) (he : wc[0]? = some (b0, .inr (ci, fs))) (hc : vwCl[ci]? = some (C, T, N)) (hn : As.length = n) (hls : ls.size = 7) (hW : (rest.map fun v => v.category).sum ≤ 8) (hdg : decode cL_law pc = .ok (.invokevirtual idx, 3)) (hcs : cells ≤ 500000 ∧ slots ≤ 7000000)
    (kk : ∀ (r : Int32) (u : S) (H1 : Heap) (locs1 : List Loc), post r u → va_K D vwCl (tys1 u) s → HS D s (cat (L1' u) (cat L2 wr)) H1 locs1 → W p l e room_1 s m #[Value.ref b] below meth c H1 locs1 (cells + mc) (slots + ms) Q (F0 m (pc + 3) ls (.int r :: rest))) : W p l e room_1 s m #[Value.ref b] below meth c H locs cells slots Q (F0 m pc ls (As.reverse ++ .ref b0 :: rest)) := by
  obtain ⟨⟨hx, hb, hr, hml, hown, htb, hX, hbl, hlocks, hgv⟩, hN, -, -⟩ := C0
  have hb : c.code = cL_law := hb
  have hown : s.vm.findClass RL = some m.cls := hown
  rw [cat_nil, ← hwc] at hH
  obtain ⟨hP, hD, hS⟩ := hH
  have hF := hs_free hD hS (fun _ h => h)
  have h1 := room_c
  have h2 := room_s
  refine va_calli (va_runV (As := As) (rest := rest) ⟨hx, hb, hml, hown, htb⟩ hM (cwV n htb hG hvf hrc hrs hd hR) (PV (vP_left hP) hK (vD_left hD) hN 0 he hc) rfl hn hls rfl (lv_room hW) hdg ⟨by omega, by omega⟩) hS (fun q _ h => hF q h) hF (fun r u t H1 locs1 ht hvm hw hB hz hk hS1 => ?_)
  obtain ⟨hP1, hK1, hD1⟩ := hB
  rw [ht] at hP1
  obtain ⟨hP2, hD2⟩ := hs_join hP hD hk hF hP1 hD1
  refine kk r u H1 locs1 hw (va_K.moved hvm.symm hK1) ?_
  rw [cat_nil, ← hw1 u]
  exact ⟨hP2.perm List.perm_append_comm, hD2.perm List.perm_append_comm, hS1⟩
theorem law_l (C0 : LW p l s m meth c b L xs) {post : Int64 → S → Prop} (hM : Met l y vf rm (PC D (.ref b0 :: As) H.size wc tys) (va_Ql post (fun u t => BC D (va_A wc H.size) (w1 u) (tys1 u) t) (va_A wc H.size)) mc ms (va_A wc H.size)) (hG : GoodIn lw_tbl (wsV RL idx C y vf)) (hvf : vf = Cond.code y bytes maxL ret :: vf') (hrc : rm.cells = mc) (hrs : rm.slots = ms) (hd : y.cls = C ∧ y.cls ≠ "java/lang/invoke/MethodHandle" ∧ y.cls ≠ "java/lang/invoke/VarHandle" ∧ (parseMethodDescriptor y.desc).map (fun d => d.parameters.length) = some n) (hR : rm.frames + 1 ≤ room_1.frames ∧ 8 + (maxL + 11) + rm.locals ≤ room_1.locals) (hm : mc ≤ 50 ∧ ms ≤ 300)
    (hwc : wc = cat L1 []) (hw1 : ∀ u, w1 u = cat (L1' u) []) (hH : HS D s (cat L1 (cat L2 wr)) H locs) (hK : va_K D vwCl tys s) (he : wc[0]? = some (b0, .inr (ci, fs))) (hc : vwCl[ci]? = some (C, T, N)) (hn : As.length = n) (hls : ls.size = 7) (hW : (rest.map fun v => v.category).sum ≤ 8) (hdg : decode cL_law pc = .ok (.invokevirtual idx, 3)) (hcs : cells ≤ 500000 ∧ slots ≤ 7000000)
    (kk : ∀ (r : Int64) (u : S) (H1 : Heap) (locs1 : List Loc), post r u → va_K D vwCl (tys1 u) s → HS D s (cat (L1' u) (cat L2 wr)) H1 locs1 → W p l e room_1 s m #[Value.ref b] below meth c H1 locs1 (cells + mc) (slots + ms) Q (F0 m (pc + 3) ls (.long r :: rest))) : W p l e room_1 s m #[Value.ref b] below meth c H locs cells slots Q (F0 m pc ls (As.reverse ++ .ref b0 :: rest)) := by
  obtain ⟨⟨hx, hb, hr, hml, hown, htb, hX, hbl, hlocks, hgv⟩, hN, -, -⟩ := C0
  have hb : c.code = cL_law := hb
  have hown : s.vm.findClass RL = some m.cls := hown
  rw [cat_nil, ← hwc] at hH
  obtain ⟨hP, hD, hS⟩ := hH
  have hF := hs_free hD hS (fun _ h => h)
  have h1 := room_c
  have h2 := room_s
  refine va_calll (va_runV (As := As) (rest := rest) ⟨hx, hb, hml, hown, htb⟩ hM (cwV n htb hG hvf hrc hrs hd hR) (PV (vP_left hP) hK (vD_left hD) hN 0 he hc) rfl hn hls rfl (lv_room hW) hdg ⟨by omega, by omega⟩) hS (fun q _ h => hF q h) hF (fun r u t H1 locs1 ht hvm hw hB hz hk hS1 => ?_)
  obtain ⟨hP1, hK1, hD1⟩ := hB
  rw [ht] at hP1
  obtain ⟨hP2, hD2⟩ := hs_join hP hD hk hF hP1 hD1
  refine kk r u H1 locs1 hw (va_K.moved hvm.symm hK1) ?_
  rw [cat_nil, ← hw1 u]
  exact ⟨hP2.perm List.perm_append_comm, hD2.perm List.perm_append_comm, hS1⟩
/-- of a method that reads the class files' strings -/
theorem law_f (C0 : LW p l s m meth c b L xs) {post : Int32 → S → Prop} (hM : Met l y vf rm (PF D s.heap.size (.ref b0 :: As) H.size wc tys []) (va_Qi post (fun u t => BC D (va_A wc H.size) (w1 u) (tys1 u) t) (va_A wc H.size)) mc ms (va_A wc H.size)) (hG : GoodIn lw_tbl (wsV RL idx C y vf)) (hvf : vf = Cond.code y bytes maxL ret :: vf') (hrc : rm.cells = mc) (hrs : rm.slots = ms) (hd : y.cls = C ∧ y.cls ≠ "java/lang/invoke/MethodHandle" ∧ y.cls ≠ "java/lang/invoke/VarHandle" ∧ (parseMethodDescriptor y.desc).map (fun d => d.parameters.length) = some n) (hR : rm.frames + 1 ≤ room_1.frames ∧ 8 + (maxL + 11) + rm.locals ≤ room_1.locals) (hm : mc ≤ 50 ∧ ms ≤ 300)
    (hwc : wc = cat L1 []) (hw1 : ∀ u, w1 u = cat (L1' u) []) (hH : HS D s (cat L1 (cat L2 wr)) H locs) (hK : va_K D vwCl tys s) (he : wc[0]? = some (b0, .inr (ci, fs))) (hc : vwCl[ci]? = some (C, T, N)) (hn : As.length = n) (hls : ls.size = 7) (hW : (rest.map fun v => v.category).sum ≤ 8) (hdg : decode cL_law pc = .ok (.invokevirtual idx, 3)) (hcs : cells ≤ 500000 ∧ slots ≤ 7000000)
    (kk : ∀ (r : Int32) (u : S) (H1 : Heap) (locs1 : List Loc), post r u → va_K D vwCl (tys1 u) s → HS D s (cat (L1' u) (cat L2 wr)) H1 locs1 → W p l e room_1 s m #[Value.ref b] below meth c H1 locs1 (cells + mc) (slots + ms) Q (F0 m (pc + 3) ls (.int r :: rest))) : W p l e room_1 s m #[Value.ref b] below meth c H locs cells slots Q (F0 m pc ls (As.reverse ++ .ref b0 :: rest)) := by
  obtain ⟨⟨hx, hb, hr, hml, hown, htb, hX, hbl, hlocks, hgv⟩, hN, hE, -⟩ := C0
  have hb : c.code = cL_law := hb
  have hown : s.vm.findClass RL = some m.cls := hown
  rw [cat_nil, ← hwc] at hH
  obtain ⟨hP, hD, hS⟩ := hH
  have hF := hs_free hD hS (fun _ h => h)
  have h1 := room_c
  have h2 := room_s
  refine va_calli (va_runV (As := As) (rest := rest) ⟨hx, hb, hml, hown, htb⟩ hM (cwV n htb hG hvf hrc hrs hd hR) (PVF (vP_left hP) hK (vD_left hD) hN hS ⟨fun _ h => h, Nat.le_refl _⟩ hE S1n 0 he hc) rfl hn hls rfl (lv_room hW) hdg ⟨by omega, by omega⟩) hS (fun q _ h => hF q h) hF (fun r u t H1 locs1 ht hvm hw hB hz hk hS1 => ?_)
  obtain ⟨hP1, hK1, hD1⟩ := hB
  rw [ht] at hP1
  obtain ⟨hP2, hD2⟩ := hs_join hP hD hk hF hP1 hD1
  refine kk r u H1 locs1 hw (va_K.moved hvm.symm hK1) ?_
  rw [cat_nil, ← hw1 u]
  exact ⟨hP2.perm List.perm_append_comm, hD2.perm List.perm_append_comm, hS1⟩
end LAWCALL
