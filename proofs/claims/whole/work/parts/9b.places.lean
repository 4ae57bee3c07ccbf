/-! what lies outside of a cell is nobody's business -/
def wdt (c : CS) : Nat := match c with
  | .inl (_, fs) => fs.length
  | .inr (.inl (_, n)) => n
  | .inr (.inr _) => 0
theorem arrV_congr {cI : ClassId} {N : Nat} {f g : Nat → Value} (h : ∀ j, j < N → f j = g j) : arrV cI N f = arrV cI N g := by
  unfold arrV
  congr 1
  exact congrArg Array.ofFn (funext fun j => h j.val j.isLt)
theorem cE_ag {D : va_G} {cl : List vw_C} {ad : Nat → Nat} {aC : Nat → ClassId} {mem mem' : Mem} {k : Nat} {c : CS} {H : Heap} (h : ∀ j, j < wdt c → mem' k j = mem k j) (hP : va_at D cl (ad k, cE ad aC mem k c) H) : va_at D cl (ad k, cE ad aC mem' k c) H := by
  rcases c with ⟨ci, fs⟩ | ⟨t, n⟩ | ⟨t, rs⟩
  · have e : fs.mapIdx (fE ad mem' k) = fs.mapIdx (fE ad mem k) := by
      apply List.ext_getElem?
      intro j
      rw [List.getElem?_mapIdx, List.getElem?_mapIdx]
      by_cases hj : j < fs.length
      · cases hs : fs[j]? with
        | none => rfl
        | some f =>
          cases f with
          | some r => rfl
          | none =>
            simp only [Option.map_some, fE]
            rw [h j hj]
      · rw [List.getElem?_eq_none (by omega)]
        rfl
    show va_at D cl (ad k, .inr (ci, fs.mapIdx (fE ad mem' k))) H
    rw [e]
    exact hP
  · by_cases t3 : t = 3
    · subst t3
      have hP2 : H[ad k]? = some (vp_cell (aC 3) (n, .inr (.inl fun j => Int64.ofInt (mem k j)))) := hP
      show H[ad k]? = some (vp_cell (aC 3) (n, .inr (.inl fun j => Int64.ofInt (mem' k j))))
      rw [hP2]
      have e2 : arrV (aC 3) n (fun j => Value.long (Int64.ofInt (mem k j))) = arrV (aC 3) n (fun j => Value.long (Int64.ofInt (mem' k j))) := arrV_congr (fun j hj => by rw [h j hj])
      exact congrArg some e2
    · have e : ∀ m : Mem, cE ad aC m k (.inr (.inl (t, n))) = .inl (aC t, n, .inl fun j => Int32.ofInt (m k j)) := fun m => by
        unfold cE
        split <;> simp_all
      rw [e] at hP ⊢
      have hP2 : H[ad k]? = some (vp_cell (aC t) (n, .inl fun j => Int32.ofInt (mem k j))) := hP
      show H[ad k]? = some (vp_cell (aC t) (n, .inl fun j => Int32.ofInt (mem' k j)))
      rw [hP2]
      have e2 : arrV (aC t) n (fun j => Value.int (Int32.ofInt (mem k j))) = arrV (aC t) n (fun j => Value.int (Int32.ofInt (mem' k j))) := arrV_congr (fun j hj => by rw [h j hj])
      exact congrArg some e2
  · exact hP
theorem va_P_ag {D : va_G} {cl : List vw_C} {ad : Nat → Nat} {aC : Nat → ClassId} {sh : List CS} {mem mem' : Mem} {H : Heap} (h : ∀ k c, sh[k]? = some c → ∀ j, j < wdt c → mem' k j = mem k j) (hP : va_P D cl (wl ad aC sh mem) H) : va_P D cl (wl ad aC sh mem') H := by
  intro k q hq
  have hq2 := hq
  unfold wl at hq2
  rw [List.getElem?_mapIdx] at hq2
  cases hs : sh[k]? with
  | none => rw [hs] at hq2; cases hq2
  | some c =>
    rw [hs] at hq2
    simp only [Option.map_some, Option.some.injEq] at hq2
    subst hq2
    exact cE_ag (h k c hs) (hP k _ (wl_at hs))
