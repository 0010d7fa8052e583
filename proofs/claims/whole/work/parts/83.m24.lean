section M24
variable {G : xG} {ad : Nat → Nat → Nat} {nb : Nat} {b r : Option Nat} {L : Nat → Nat → Nat → Int64} {V : sV} {I : Nat → Nat → Nat → Int32} {d : Nat}

variable {N : sN} {ns : List Nat} {A : List (List Nat)}
/-- how many places before p have a nose -/
def pc (V : sV) : Nat → Nat
  | 0 => 0
  | k + 1 => pc V k + (if V 6 k 0 = 0 then 0 else 1)
theorem pc_mono {i j : Nat} (h : i ≤ j) : pc V i ≤ pc V j := by
  induction j with
  | zero => obtain rfl : i = 0 := by omega
            exact Nat.le_refl _
  | succ j ih =>
    by_cases e : i = j + 1
    · rw [e]; exact Nat.le_refl _
    · have := ih (by omega)
      have e2 : pc V (j + 1) = pc V j + (if V 6 j 0 = 0 then 0 else 1) := rfl
      omega
theorem pc_lt {i j : Nat} (h : i < j) (hi : V 6 i 0 ≠ 0) : pc V i < pc V j := by
  have := pc_mono (V := V) (show i + 1 ≤ j by omega)
  have e : pc V (i + 1) = pc V i + 1 := by show pc V i + _ = _; rw [if_neg hi]
  omega
theorem pc_le : ∀ k, pc V k ≤ k
  | 0 => Nat.le_refl 0
  | k + 1 => by
    have := pc_le k
    unfold pc
    split <;> omega
theorem pc_surj {j : Nat} : ∀ k, j < pc V k → ∃ q, q < k ∧ V 6 q 0 ≠ 0 ∧ pc V q = j
  | 0, h => absurd h (Nat.not_lt_zero j)
  | k + 1, h => by
    by_cases e : j < pc V k
    · obtain ⟨q, h1, h2⟩ := pc_surj k e
      exact ⟨q, by omega, h2⟩
    · unfold pc at h
      by_cases z : V 6 k 0 = 0
      · rw [if_pos z] at h; omega
      · rw [if_neg z] at h; exact ⟨k, by omega, z, by omega⟩
def mnd (V : sV) : Nat := min (pc V (V 0 4 0)) (V 0 3 0)
/-- who stands at p, and one more, where the first j of ns have been put -/
def fJ (V : sV) (ns : List Nat) (j p : Nat) : Nat := if V 6 p 0 ≠ 0 ∧ pc V p < j then ns.getD (pc V p) 0 + 1 else 0
def toA (V : sV) (ns : List Nat) : List Nat := (List.range (V 0 4 0)).map (fJ V ns ns.length)
def md (V : sV) : Nat → List Nat → List (List Nat)
  | 0, ns => [ns]
  | r + 1, ns => (List.range (V 0 3 0)).flatMap (fun k => if k ∉ ns then md V r (ns ++ [k]) else [])
theorem fJ_app {k q : Nat} (h : V 6 q 0 ≠ 0 → pc V q < ns.length) : fJ V (ns ++ [k]) (ns ++ [k]).length q = fJ V ns ns.length q := by
  unfold fJ
  by_cases z : V 6 q 0 ≠ 0
  · have h1 := h z
    rw [if_pos ⟨z, by rw [List.length_append]; omega⟩, if_pos ⟨z, h1⟩, List.getD_eq_getElem?_getD, List.getElem?_append_left h1, ← List.getD_eq_getElem?_getD]
  · rw [if_neg (fun y => z y.1), if_neg (fun y => z y.1)]
theorem full_len {n : Nat} (hd : ns.Nodup) (hl : ∀ x ∈ ns, x < n) : sbit ns = 2 ^ n - 1 ↔ ns.length = n := by
  have h0 := php0 n ns hd hl
  constructor
  · intro h
    by_cases z : ns.length = n
    · exact z
    · exfalso
      have key : ∀ r, r < n → r ∈ ns := fun r hr => (sbit_in r ns).mp (by rw [h, Nat.testBit_two_pow_sub_one]; simp; exact hr)
      have h2 := php0 ns.length (List.range n) List.nodup_range
      have h3 : (List.range n).length ≤ ns.length := List.Nodup.length_le_of_subset List.nodup_range (fun x hx => key x (List.mem_range.mp hx))
      rw [List.length_range] at h3
      omega
  · intro h
    refine Nat.eq_of_testBit_eq (fun i => ?_)
    rw [Nat.testBit_two_pow_sub_one]
    by_cases z : i < n
    · rw [(sbit_in i ns).mpr (php hd hl (by omega) z)]; simp [z]
    · have : (sbit ns).testBit i = false := by
        cases e : (sbit ns).testBit i with
        | false => rfl
        | true => exact absurd (hl i ((sbit_in i ns).mp e)) z
      rw [this]; simp [z]
theorem map_rg {f g : Nat → Nat} {n : Nat} (h : ∀ q, q < n → f q = g q) : (List.range n).map f = (List.range n).map g := List.map_congr_left (fun q hq => h q (List.mem_range.mp hq))
theorem rg_map_s {f : Nat → Nat} {n : Nat} : (List.range (n + 1)).map f = (List.range n).map f ++ [f n] := by rw [List.range_succ, List.map_append]; rfl
theorem fm_cg {α : Type} {f g : Nat → List α} : ∀ n, (∀ q, q < n → f q = g q) → (List.range n).flatMap f = (List.range n).flatMap g
  | 0, _ => rfl
  | n + 1, h => by rw [rg_succ, rg_succ, fm_cg n (fun q hq => h q (by omega)), h n (by omega)]
theorem pa_md : ∀ (r : Nat) (ns : List Nat) (n : Nat), n + r = V 0 4 0 → ns.Nodup → (∀ x ∈ ns, x < V 0 3 0) → ns.length = min (pc V n) (V 0 3 0) → pa V r ((List.range n).map (fJ V ns ns.length)) (sbit ns) = (md V (mnd V - ns.length) ns).map (toA V) := by
  intro r
  induction r with
  | zero =>
    intro ns n hn hd hl hlen
    obtain rfl : n = V 0 4 0 := by omega
    rw [show mnd V - ns.length = 0 by unfold mnd; omega]
    rfl
  | succ r ih =>
    intro ns n hn hd hl hlen
    have hal : ((List.range n).map (fJ V ns ns.length)).length = n := by rw [List.length_map, List.length_range]
    have hpn : pc V (n + 1) = pc V n + (if V 6 n 0 = 0 then 0 else 1) := rfl
    show (if V 6 ((List.range n).map (fJ V ns ns.length)).length 0 = 0 ∨ sbit ns = 2 ^ V 0 3 0 - 1 then pa V r ((List.range n).map (fJ V ns ns.length) ++ [0]) (sbit ns) else (List.range (V 0 3 0)).flatMap (fun k => if (sbit ns).testBit k = false then pa V r ((List.range n).map (fJ V ns ns.length) ++ [k + 1]) (sbit ns ||| 2 ^ k) else [])) = _
    have fl := full_len hd hl
    rw [hal]
    by_cases z0 : V 6 n 0 = 0 ∨ sbit ns = 2 ^ V 0 3 0 - 1
    · rw [if_pos z0]
      have z : V 6 n 0 = 0 ∨ ns.length = V 0 3 0 := z0.imp id fl.mp
      have hf : fJ V ns ns.length n = 0 := if_neg (fun y => by rcases z with z | z; exact y.1 z; have := hlen; omega)
      rw [← hf, ← rg_map_s]
      refine ih ns (n + 1) (by omega) hd hl ?_
      rcases z with z | z
      · rw [hpn, if_pos z]; exact hlen
      · rw [hpn]; omega
    · rw [if_neg z0]
      have z : ¬ (V 6 n 0 = 0 ∨ ns.length = V 0 3 0) := fun y => z0 (y.imp id fl.mpr)
      have z1 : V 6 n 0 ≠ 0 := fun y => z (Or.inl y)
      have z2 : ns.length ≠ V 0 3 0 := fun y => z (Or.inr y)
      have hp1 : ns.length = pc V n := by omega
      have hm := pc_mono (V := V) (show n + 1 ≤ V 0 4 0 by omega)
      rw [hpn, if_neg z1] at hm
      obtain ⟨m, hmm⟩ : ∃ m, mnd V - ns.length = m + 1 := ⟨mnd V - ns.length - 1, by unfold mnd; omega⟩
      rw [hmm]
      show _ = ((List.range (V 0 3 0)).flatMap (fun k => if k ∉ ns then md V m (ns ++ [k]) else [])).map (toA V)
      rw [List.map_flatMap]
      refine fm_cg _ (fun k hk3 => ?_)
      by_cases y : k ∈ ns
      · rw [if_neg (by rw [(sbit_in k ns).mpr y]; decide), if_neg (fun x => x y)]
        rfl
      · have hb : (sbit ns).testBit k = false := by
          cases e : (sbit ns).testBit k with
          | false => rfl
          | true => exact absurd ((sbit_in k ns).mp e) y
        have hlk : (ns ++ [k]).length = ns.length + 1 := by rw [List.length_append]; rfl
        rw [if_pos hb, if_pos y, ← sbit_app]
        have e1 : (List.range n).map (fJ V ns ns.length) ++ [k + 1] = (List.range (n + 1)).map (fJ V (ns ++ [k]) (ns ++ [k]).length) := by
          rw [rg_map_s, map_rg (fun q hq => (fJ_app (k := k) (fun hq6 => by rw [hp1]; exact pc_lt hq hq6)).symm)]
          congr 1
          unfold fJ
          rw [if_pos ⟨z1, by omega⟩, ← hp1, List.getD_eq_getElem?_getD, List.getElem?_concat_length]
          rfl
        rw [e1, ih (ns ++ [k]) (n + 1) (by omega) (by
          rw [List.nodup_append]
          exact ⟨hd, by simp, fun a ha c hc e => y (by rw [List.mem_singleton.mp hc] at e; exact e ▸ ha)⟩) (fun x hx => (List.mem_append.mp hx).elim (hl x) (fun e => by rw [List.mem_singleton.mp e]; exact hk3)) (by rw [hlk, hpn, if_neg z1]; omega), show mnd V - (ns ++ [k]).length = m by omega]
theorem psa_md : psa V = (md V (mnd V) []).map (toA V) := by
  have h := pa_md (V := V) (V 0 4 0) [] 0 (by omega) List.nodup_nil (fun x hx => absurd hx List.not_mem_nil) (by show 0 = min 0 _; omega)
  rw [show mnd V - ([] : List Nat).length = mnd V from rfl] at h
  exact h
/-- the best so far -/
def wsN (V : sV) (N : sN) (ns : List Nat) : Nat := wsm V N (fun p => (toA V ns).getD p 0) (V 0 7 0)
def pmF (V : sV) (N : sN) (q : Nat × List Nat) (ns : List Nat) : Nat × List Nat := if q.1 ≤ wsN V N ns then (wsN V N ns + 1, ns) else q
def psM (V : sV) (N : sN) (A : List (List Nat)) : Nat × List Nat := A.foldl (pmF V N) (0, [])
theorem psM_app {ns : List Nat} : psM V N (A ++ [ns]) = pmF V N (psM V N A) ns := by unfold psM; rw [List.foldl_append]; rfl
theorem psT_acc : ∀ (A : List (List Nat)) (q : Nat × List Nat), (A.map (toA V)).foldl (psF V N) (q.1, toA V q.2) = ((A.foldl (pmF V N) q).1, toA V (A.foldl (pmF V N) q).2)
  | [], q => rfl
  | a :: A, q => by
    show (A.map (toA V)).foldl (psF V N) (psF V N (q.1, toA V q.2) (toA V a)) = ((A.foldl (pmF V N) (pmF V N q a)).1, toA V (A.foldl (pmF V N) (pmF V N q a)).2)
    rw [← psT_acc A (pmF V N q a)]
    congr 1
    unfold psF pmF
    show (if q.1 ≤ wsN V N a then (wsN V N a + 1, toA V a) else (q.1, toA V q.2)) = _
    split <;> rfl
theorem psT_md (hA : A ≠ []) : psT V N (A.map (toA V)) = ((psM V N A).1, toA V (psM V N A).2) := by
  cases A with
  | nil => exact absurd rfl hA
  | cons a A =>
    have e1 : pmF V N (0, []) a = (wsN V N a + 1, a) := if_pos (Nat.zero_le _)
    have e2 : psF V N (0, []) (toA V a) = (wsN V N a + 1, toA V a) := if_pos (Nat.zero_le _)
    show (A.map (toA V)).foldl (psF V N) (psF V N (0, []) (toA V a)) = ((A.foldl (pmF V N) (pmF V N (0, []) a)).1, toA V (A.foldl (pmF V N) (pmF V N (0, []) a)).2)
    rw [e1, e2]
    exact psT_acc A (wsN V N a + 1, a)

end M24
