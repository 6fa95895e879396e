/-! what the printed walks use -/
theorem zf_same {I : zI} {a : Nat} {v : Int32} : zf (zupd I a v) a = v.toInt := by rw [zf_upd, if_pos rfl]
theorem zf_ne {I : zI} {a b : Nat} {v : Int32} (h : b ≠ a) : zf (zupd I a v) b = zf I b := by rw [zf_upd, if_neg h]
theorem zv_nk {I : zI} {kd kd' : Nat} {i j : Int} {v : Int32} (h : kd' ≠ kd) (hi : i < 4096) (hj : j < 4096) : zv (zupd I (zid kd i.toNat) v) kd' j = zv I kd' j := zv_ne I kd kd' i j v hi hj (Or.inl h)
theorem eall {t : aTb} {i : Nat} {lo hi x : Int} (ht : t = (65536, [(0, 65536, lo, hi)])) (h : eOK t i x) : lo ≤ x ∧ x ≤ hi := by
  subst ht
  exact h _ List.mem_cons_self (Nat.zero_le _) (Nat.le_of_lt (Nat.mod_lt _ (Nat.succ_pos 65535)))
theorem eal {t : aTb} {i : Nat} {lo hi x : Int} (ht : t = (65536, [(0, 65536, lo, hi)])) (h1 : lo ≤ x) (h2 : x ≤ hi) : eOK t i x := by
  subst ht
  intro q hq _ _
  simp only [List.mem_cons, List.not_mem_nil, or_false] at hq
  subst hq
  exact ⟨h1, h2⟩
theorem eno {t : aTb} {i : Nat} {x : Int} (ht : t = (65536, [])) : eOK t i x := by
  subst ht
  exact fun q hq => absurd hq List.not_mem_nil
theorem hF_nil {I : zI} : ∀ q ∈ ([] : List (Nat × aQ)), q.2.1 ≤ (I q.1).toInt ∧ (I q.1).toInt ≤ q.2.2 := fun _ h => absurd h List.not_mem_nil
theorem hF_cons {I : zI} {id : Nat} {lo hi : Int} {l : List (Nat × aQ)} (h : lo ≤ zf I id ∧ zf I id ≤ hi) (hl : ∀ q ∈ l, q.2.1 ≤ (I q.1).toInt ∧ (I q.1).toInt ≤ q.2.2) : ∀ q ∈ ((id, (lo, hi)) :: l), q.2.1 ≤ (I q.1).toInt ∧ (I q.1).toInt ≤ q.2.2 := by
  intro q hq
  rcases List.mem_cons.mp hq with rfl | hq
  · exact h
  · exact hl q hq
def zupds (I : zI) : List (Nat × Int32) → zI
  | [] => I
  | q :: l => zupds (zupd I q.1 q.2) l
theorem zupds_at {I' : zI} : ∀ (l : List (Nat × Option Int × aQ)) (I : zI) (id : Nat), zupds I (l.map fun q => (q.1, I' q.1)) id = if (∃ q ∈ l, q.1 = id) then I' id else I id
  | [], I, id => by simp [zupds]
  | q :: l, I, id => by
    show zupds (zupd I q.1 (I' q.1)) (l.map fun q => (q.1, I' q.1)) id = _
    rw [zupds_at l]
    by_cases h1 : ∃ p ∈ l, p.1 = id
    · have h2 : ∃ p ∈ q :: l, p.1 = id := by
        obtain ⟨p, hp, e⟩ := h1
        exact ⟨p, List.mem_cons_of_mem _ hp, e⟩
      rw [if_pos h1, if_pos h2]
    · rw [if_neg h1]
      by_cases h3 : q.1 = id
      · have h2 : ∃ p ∈ q :: l, p.1 = id := ⟨q, List.mem_cons_self, h3⟩
        rw [if_pos h2]
        unfold zupd
        rw [if_pos h3.symm, h3]
      · have h2 : ¬ ∃ p ∈ q :: l, p.1 = id := by
          intro ⟨p, hp, e⟩
          rcases List.mem_cons.mp hp with rfl | hp
          · exact h3 e
          · exact h1 ⟨p, hp, e⟩
        rw [if_neg h2]
        unfold zupd
        rw [if_neg (fun e => h3 e.symm)]
theorem hIl {I I' : zI} {l : List (Nat × Option Int × aQ)} (h3 : ∀ id, id < 4096 → (∀ a, (id, a) ∉ l) → I' id = I id) (h6 : ∀ id, 4096 ≤ id → I' id = I id) : I' = zupds I (l.map fun q => (q.1, I' q.1)) := by
  funext id
  rw [zupds_at]
  by_cases h : ∃ q ∈ l, q.1 = id
  · rw [if_pos h]
  · rw [if_neg h]
    by_cases hl : id < 4096
    · exact h3 id hl (fun a ha => h ⟨_, ha, rfl⟩)
    · exact h6 id (by omega)
section HC
variable {PX : xPX} {bd : Nat → Nat × Nat} {pre : zPre} {post : zPost} {d : Nat × Nat × Nat} {cc : ByteArray} {own : String} {K : zK} {pc n : Nat} {L : zL} {S : List zV} {I : zI} {B B' : Nat × Nat}
theorem hA_call {j na : Nat} {as rest : List zV} (hs : zSound zG0 PX bd pre post d cc own pc (z_inv bd pre post d j na n)) (hp : zpop na [] S = some (as, rest)) (hcat : zcat rest ≤ 8) (hB : (B.1 + (bd j).1, B.2 + (bd j).2) = B') (hb : B'.1 ≤ d.2.1 ∧ B'.2 ≤ d.2.2) (hpre : pre d.1 j as I) (h : ∀ (r : Option zV) (I' : zI), post j as I r I' → zAt zG0 PX bd pre post d cc own K n L (zpush r rest) I' B') : zAt zG0 PX bd pre post d cc own K pc L S I B := by
  subst hB
  exact hA_inv hs hp hcat hpre hb h
theorem hA_callV {ci j na a : Nat} {as rest : List zV} (hs : zSound zG0 PX bd pre post d cc own pc (z_invV zG0 bd pre post d ci j na n)) (hp : zpop na [] S = some (.inr (.inl (some a)) :: as, rest)) (hk : ∃ fts, zG0.2.1 (zG0.1 a) = .inl (ci, fts)) (hcat : zcat rest ≤ 8) (hB : (B.1 + (bd j).1, B.2 + (bd j).2) = B') (hb : B'.1 ≤ d.2.1 ∧ B'.2 ≤ d.2.2) (hpre : pre d.1 j (.inr (.inl (some a)) :: as) I) (h : ∀ (r : Option zV) (I' : zI), post j (.inr (.inl (some a)) :: as) I r I' → zAt zG0 PX bd pre post d cc own K n L (zpush r rest) I' B') : zAt zG0 PX bd pre post d cc own K pc L S I B := by
  subst hB
  exact hA_invV hs hp hk hcat hpre hb h
end HC
theorem erow {t1 t2 : aTb} {i j : Nat} {x : Int} (h1 : t1 = t2) (hm : i % t2.1 = j % t2.1) (h : eOK t1 j x) : eOK t2 i x := by
  subst h1
  intro q hq h2 h3
  rw [hm] at h2 h3
  exact h q hq h2 h3
theorem hCh_nil {I I' : zI} : ∀ q ∈ ([] : List (Nat × Option Int × aQ)), (∀ k, q.2.1 = some k → (I' q.1).toInt = (I q.1).toInt + k) ∧ q.2.2.1 ≤ (I' q.1).toInt ∧ (I' q.1).toInt ≤ q.2.2.2 := fun _ h => absurd h List.not_mem_nil
theorem hCh_cons {I I' : zI} {id : Nat} {o : Option Int} {lo hi : Int} {l : List (Nat × Option Int × aQ)} (h0 : ∀ k, o = some k → zf I' id = zf I id + k) (h : lo ≤ zf I' id ∧ zf I' id ≤ hi) (hl : ∀ q ∈ l, (∀ k, q.2.1 = some k → (I' q.1).toInt = (I q.1).toInt + k) ∧ q.2.2.1 ≤ (I' q.1).toInt ∧ (I' q.1).toInt ≤ q.2.2.2) : ∀ q ∈ ((id, o, (lo, hi)) :: l), (∀ k, q.2.1 = some k → (I' q.1).toInt = (I q.1).toInt + k) ∧ q.2.2.1 ≤ (I' q.1).toInt ∧ (I' q.1).toInt ≤ q.2.2.2 := by
  intro q hq
  rcases List.mem_cons.mp hq with rfl | hq
  · exact ⟨h0, h.1, h.2⟩
  · exact hl q hq
theorem zupd_fr {I : zI} {a id : Nat} {v : Int32} (h : id ≠ a) : zupd I a v id = I id := by
  unfold zupd
  rw [if_neg h]
theorem zupd_hi {I : zI} {a id : Nat} {v : Int32} (ha : a < 4096) (h : 4096 ≤ id) : zupd I a v id = I id := zupd_fr (by omega)
theorem some_eq {k c : Int} (h : some c = some k) : k = c := by
  cases h
  rfl
theorem none_no {k : Int} {P : Prop} (h : (none : Option Int) = some k) : P := by cases h
