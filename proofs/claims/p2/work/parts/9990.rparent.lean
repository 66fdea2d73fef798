section RPA
variable {G : gS} {Q : Int → gS → Prop}
/-- the parent of a class, or -2 -/
def rpa (G : gS) (c : Int) : Int := if G 16101 c = 3 ∨ c = 204 then -2 else if G 16102 c = 0 then 204 else rfn G (G 16102 c)
theorem rparent_ok {c : Int} (hW : WsR G) (hc : 0 ≤ c ∧ c < 216) (hQ : Q (rpa G c) G) : PX13_parent c G Q := by
  unfold rpa at hQ
  unfold PX13_parent PX13_parent_0 PX13_parent_15 PX13_parent_47
  refine risFace_ok hc (fun y => fun _ => ⟨fun u => absurd u (by decide), fun _ => ?_⟩) (fun y => fun _ => ⟨fun _ => ⟨fun z => ?_, fun z => ⟨hc.1, hc.2, fun _ => ⟨fun x => ?_, fun x => ⟨hc.1, hc.2, fun _ => rfind_ok hW (fun _ => ?_)⟩⟩⟩⟩, fun u => absurd rfl u⟩)
  · rw [if_pos (Or.inl y)] at hQ; exact hQ
  · rw [if_pos (Or.inr z)] at hQ; exact hQ
  · rw [if_neg (fun u => u.elim y z), if_pos x] at hQ; exact hQ
  · rw [if_neg (fun u => u.elim y z), if_neg x] at hQ; exact hQ
theorem rpa_std {c : Int} (hW : WsR G) (h17 : 2 ≤ G 16097 17) (h : rpa G c ≠ -2) : Std G (rpa G c) := by
  unfold rpa at h ⊢
  split
  · rename_i z
    rw [if_pos z] at h
    exact absurd rfl h
  · rename_i z
    rw [if_neg z] at h
    split
    · exact ⟨by omega, by omega, 17, by omega, by omega, by omega, by omega⟩
    · rename_i y
      rw [if_neg y] at h
      exact rfn_std hW h17 h
end RPA
