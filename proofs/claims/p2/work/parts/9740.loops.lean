section LP
abbrev JT : Type := Nat → List Int → gS → (Int → gS → Prop) → Prop
theorem lp {PJ : Nat → JT} {B : JT → JT} (hB : ∀ f h L G Q, PJ (f + 1) h L G Q = B (PJ f) h L G Q) {Q : Int → gS → Prop} (Inv : Nat → Nat → List Int → gS → Prop) (step : ∀ (J : JT) m h L G, Inv m h L G → (∀ m' h' L' G', m' < m → Inv m' h' L' G' → J h' L' G' Q) → B J h L G Q) : ∀ (f m h : Nat) (L : List Int) (G : gS), m < f → Inv m h L G → PJ f h L G Q
  | 0, _, _, _, _, hm, _ => absurd hm (Nat.not_lt_zero _)
  | f + 1, m, h, L, G, hm, hI => by
    rw [hB]
    exact step (PJ f) m h L G hI (fun m' h' L' G' hm' hI' => lp hB Inv step f m' h' L' G' (by omega) hI')
theorem lpB {PJ : Nat → JT} {B : JT → JT} (hB : ∀ f h L G Q, PJ (f + 1) h L G Q = B (PJ f) h L G Q) {Q : Int → gS → Prop} (Inv : Nat → Nat → List Int → gS → Prop) (step : ∀ (J : JT) m h L G, Inv m h L G → (∀ m' h' L' G', m' < m → Inv m' h' L' G' → J h' L' G' Q) → B J h L G Q) (f m h : Nat) (L : List Int) (G : gS) (hm : m < f) (hI : Inv m h L G) : B (PJ f) h L G Q := step (PJ f) m h L G hI (fun m' h' L' G' hm' hI' => lp hB Inv step f m' h' L' G' (by omega) hI')
def BX11_fits (J : JT) : JT := fun h L G Q => match h, L with
  | 0, [o, l1, l3, l5, l6, l7] => PX11_fits_113 J o l1 l3 l5 l6 l7 G Q
  | _, _ => False
def BX10_field (J : JT) : JT := fun h L G Q => match h, L with
  | 0, [o, l1, l3, l5] => PX10_field_3 J o l1 l3 l5 G Q
  | _, _ => False
def BX11_fieldIn (J : JT) : JT := fun h L G Q => match h, L with
  | 0, [o, l1, l2, l4, l6, l8, l9, l10] => PX11_fieldIn_56 J o l1 l2 l4 l6 l8 l9 l10 G Q
  | _, _ => False
def BX0_localOf (J : JT) : JT := fun h L G Q => match h, L with
  | 0, [l1, l3] => PX0_localOf_2 J l1 l3 G Q
  | _, _ => False
def BX0_consider (J : JT) : JT := fun h L G Q => match h, L with
  | 0, [l1, l2, l3, l4] => PX0_consider_5 J l1 l2 l3 l4 G Q
  | 1, [l1, l2, l3, l4] => PX0_consider_53 J l1 l2 l3 l4 G Q
  | _, _ => False
def BX11_faces (J : JT) : JT := fun h L G Q => match h, L with
  | 0, [o, l1, l2, l3, l5, l7, l8] => PX11_faces_45 J o l1 l2 l3 l5 l7 l8 G Q
  | _, _ => False
def BX0_whereLooked (J : JT) : JT := fun h L G Q => match h, L with
  | 0, [l1, l2, l3, l4, l5] => PX0_whereLooked_23 J l1 l2 l3 l4 l5 G Q
  | 1, [l1, l2, l3, l4, l5, l6] => PX0_whereLooked_96 J l1 l2 l3 l4 l5 l6 G Q
  | _, _ => False
def BX0_meant (J : JT) : JT := fun h L G Q => match h, L with
  | 0, [l1, l2, l4, l5, l6, l7] => PX0_meant_13 J l1 l2 l4 l5 l6 l7 G Q
  | 1, [l1, l2, l4, l5, l6, l7, l8] => PX0_meant_48 J l1 l2 l4 l5 l6 l7 l8 G Q
  | 2, [l1, l2, l4, l5, l6, l7, l8, l9, l10, l11] => PX0_meant_101 J l1 l2 l4 l5 l6 l7 l8 l9 l10 l11 G Q
  | 3, [l1, l2, l4, l5, l6, l7, l8] => PX0_meant_252 J l1 l2 l4 l5 l6 l7 l8 G Q
  | 4, [l1, l2, l4, l5, l6, l7, l8, l9, l10] => PX0_meant_267 J l1 l2 l4 l5 l6 l7 l8 l9 l10 G Q
  | 5, [l1, l2, l4, l5, l6, l7, l8, l9, l10, l11] => PX0_meant_284 J l1 l2 l4 l5 l6 l7 l8 l9 l10 l11 G Q
  | _, _ => False
def BX11_find (J : JT) : JT := fun h L G Q => match h, L with
  | 0, [o, l1, l3] => PX11_find_2 J o l1 l3 G Q
  | _, _ => False
def BX10_has (J : JT) : JT := fun h L G Q => match h, L with
  | 0, [o, l1, l2, l4] => PX10_has_3 J o l1 l2 l4 G Q
  | _, _ => False
def BX0_isCall (J : JT) : JT := fun h L G Q => match h, L with
  | 0, [l0, l1, l2] => PX0_isCall_19 J l0 l1 l2 G Q
  | _, _ => False
def BX0_target (J : JT) : JT := fun h L G Q => match h, L with
  | 0, [l0, l1, l2] => PX0_target_39 J l0 l1 l2 G Q
  | _, _ => False
def BX1_indexOf (J : JT) : JT := fun h L G Q => match h, L with
  | 0, [o, l1, l2] => PX1_indexOf_2 J o l1 l2 G Q
  | _, _ => False
def BX1_named (J : JT) : JT := fun h L G Q => match h, L with
  | 0, [o, l1, l3] => PX1_named_2 J o l1 l3 G Q
  | _, _ => False
def BX2_faces (J : JT) : JT := fun h L G Q => match h, L with
  | 0, [l1, l2, l3, l4] => PX2_faces_5 J l1 l2 l3 l4 G Q
  | 1, [l1, l2, l3, l4] => PX2_faces_57 J l1 l2 l3 l4 G Q
  | _, _ => False
def BX2_indexIn (J : JT) : JT := fun h L G Q => match h, L with
  | 0, [l0, l1, l2] => PX2_indexIn_2 J l0 l1 l2 G Q
  | _, _ => False
def BX2_fields (J : JT) : JT := fun h L G Q => match h, L with
  | 0, [l1, l2, l3, l4] => PX2_fields_5 J l1 l2 l3 l4 G Q
  | 1, [l1, l2, l3, l4] => PX2_fields_91 J l1 l2 l3 l4 G Q
  | _, _ => False
def BX2_range (J : JT) : JT := fun h L G Q => match h, L with
  | 0, [l0, l1, l2, l3, l4] => PX2_range_8 J l0 l1 l2 l3 l4 G Q
  | _, _ => False
def BX2_sameTokens (J : JT) : JT := fun h L G Q => match h, L with
  | 0, [l1, l2] => PX2_sameTokens_2 J l1 l2 G Q
  | 1, [l1, l2, l3, l4, l5, l6] => PX2_sameTokens_83 J l1 l2 l3 l4 l5 l6 G Q
  | _, _ => False
def BX10_maker (J : JT) : JT := fun h L G Q => match h, L with
  | 0, [o, l1, l2] => PX10_maker_2 J o l1 l2 G Q
  | _, _ => False
def BX2_makers (J : JT) : JT := fun h L G Q => match h, L with
  | 0, [l1, l2, l3, l4] => PX2_makers_5 J l1 l2 l3 l4 G Q
  | 1, [l1, l2, l3, l4] => PX2_makers_147 J l1 l2 l3 l4 G Q
  | _, _ => False
def BX10_plain (J : JT) : JT := fun h L G Q => match h, L with
  | 0, [o, l1, l2] => PX10_plain_2 J o l1 l2 G Q
  | _, _ => False
def BX2_methods (J : JT) : JT := fun h L G Q => match h, L with
  | 0, [l1, l2, l3, l4] => PX2_methods_5 J l1 l2 l3 l4 G Q
  | 1, [l1, l2, l3, l4] => PX2_methods_94 J l1 l2 l3 l4 G Q
  | _, _ => False
def BX2_only (J : JT) : JT := fun h L G Q => match h, L with
  | 0, [l1, l2, l3, l4, l5] => PX2_only_73 J l1 l2 l3 l4 l5 G Q
  | _, _ => False
def BX2_starts (J : JT) : JT := fun h L G Q => match h, L with
  | 0, [l0, l1, l2, l3] => PX2_starts_4 J l0 l1 l2 l3 G Q
  | _, _ => False
def BX2_compare (J : JT) : JT := fun h L G Q => match h, L with
  | 0, [l1, l2, l3, l4] => PX2_compare_44 J l1 l2 l3 l4 G Q
  | 1, [l1, l2, l3, l4] => PX2_compare_273 J l1 l2 l3 l4 G Q
  | _, _ => False
def BX3_useOf (J : JT) : JT := fun h L G Q => match h, L with
  | 0, [l1, l2, l4, l5, l7] => PX3_useOf_9 J l1 l2 l4 l5 l7 G Q
  | _, _ => False
def BX3_bridge (J : JT) : JT := fun h L G Q => match h, L with
  | 0, [l1, l2, l3] => PX3_bridge_39 J l1 l2 l3 G Q
  | _, _ => False
def BX4_above (J : JT) : JT := fun h L G Q => match h, L with
  | 0, [l1, l2, l3] => PX4_above_2 J l1 l2 l3 G Q
  | 1, [l1, l2, l3, l4, l5, l6] => PX4_above_48 J l1 l2 l3 l4 l5 l6 G Q
  | 2, [l1, l2, l3, l4, l5, l6, l7] => PX4_above_113 J l1 l2 l3 l4 l5 l6 l7 G Q
  | _, _ => False
def BX10_bridges (J : JT) : JT := fun h L G Q => match h, L with
  | 0, [o, l1, l2] => PX10_bridges_4 J o l1 l2 G Q
  | _, _ => False
def BX10_method (J : JT) : JT := fun h L G Q => match h, L with
  | 0, [o, l1, l2] => PX10_method_2 J o l1 l2 G Q
  | _, _ => False
def BX4_within (J : JT) : JT := fun h L G Q => match h, L with
  | 0, [l1, l2, l3, l4] => PX4_within_78 J l1 l2 l3 l4 G Q
  | 1, [l1, l2, l3, l4] => PX4_within_144 J l1 l2 l3 l4 G Q
  | _, _ => False
def BX4_head (J : JT) : JT := fun h L G Q => match h, L with
  | 0, [l1, l2, l3] => PX4_head_2 J l1 l2 l3 G Q
  | 1, [l1, l2, l3, l4] => PX4_head_163 J l1 l2 l3 l4 G Q
  | 2, [l1, l2, l3, l4, l5, l6, l7] => PX4_head_196 J l1 l2 l3 l4 l5 l6 l7 G Q
  | _, _ => False
def BX10_hasMaker (J : JT) : JT := fun h L G Q => match h, L with
  | 0, [o, l1] => PX10_hasMaker_2 J o l1 G Q
  | _, _ => False
def BX4_twice (J : JT) : JT := fun h L G Q => match h, L with
  | 0, [l1, l2, l3] => PX4_twice_2 J l1 l2 l3 G Q
  | _, _ => False
def BX4_types (J : JT) : JT := fun h L G Q => match h, L with
  | 0, [l1, l2, l3] => PX4_types_35 J l1 l2 l3 G Q
  | _, _ => False
def BX4_items (J : JT) : JT := fun h L G Q => match h, L with
  | 0, [l1, l2, l3] => PX4_items_2 J l1 l2 l3 G Q
  | _, _ => False
def BX11_mostSpecial (J : JT) : JT := fun h L G Q => match h, L with
  | 0, [o, l1, l2, l3, l4, l5, l7] => PX11_mostSpecial_18 J o l1 l2 l3 l4 l5 l7 G Q
  | 1, [o, l1, l2, l3, l4, l5, l7] => PX11_mostSpecial_60 J o l1 l2 l3 l4 l5 l7 G Q
  | 2, [o, l1, l2, l3, l4, l5, l7, l8] => PX11_mostSpecial_151 J o l1 l2 l3 l4 l5 l7 l8 G Q
  | 3, [o, l1, l2, l3, l4, l5, l7, l8, l9, l10] => PX11_mostSpecial_193 J o l1 l2 l3 l4 l5 l7 l8 l9 l10 G Q
  | _, _ => False
def BX11_overrides (J : JT) : JT := fun h L G Q => match h, L with
  | 0, [o, l1, l2, l3, l4, l5, l6] => PX11_overrides_9 J o l1 l2 l3 l4 l5 l6 G Q
  | 1, [o, l1, l2, l3, l4, l5, l6, l7, l8, l9] => PX11_overrides_107 J o l1 l2 l3 l4 l5 l6 l7 l8 l9 G Q
  | _, _ => False
def BX11_selected (J : JT) : JT := fun h L G Q => match h, L with
  | 0, [o, l1, l2, l3, l4, l5] => PX11_selected_20 J o l1 l2 l3 l4 l5 G Q
  | _, _ => False
def BX4_owed (J : JT) : JT := fun h L G Q => match h, L with
  | 0, [l1, l2, l3, l4, l5] => PX4_owed_14 J l1 l2 l3 l4 l5 G Q
  | _, _ => False
def BX4_whole (J : JT) : JT := fun h L G Q => match h, L with
  | 0, [l1, l2, l3, l4] => PX4_whole_28 J l1 l2 l3 l4 G Q
  | 1, [l1, l2, l3, l4, l5] => PX4_whole_82 J l1 l2 l3 l4 l5 G Q
  | _, _ => False
def BX5_load (J : JT) : JT := fun h L G Q => match h, L with
  | 0, [o, l1, l2, l3] => PX5_load_20 J o l1 l2 l3 G Q
  | _, _ => False
def BX5_linkOwn (J : JT) : JT := fun h L G Q => match h, L with
  | 0, [o, l1, l2, l3] => PX5_linkOwn_12 J o l1 l2 l3 G Q
  | 1, [o, l1, l2, l3, l4, l5, l6] => PX5_linkOwn_49 J o l1 l2 l3 l4 l5 l6 G Q
  | 2, [o, l1, l2, l3, l4] => PX5_linkOwn_175 J o l1 l2 l3 l4 G Q
  | _, _ => False
def BX5_link (J : JT) : JT := fun h L G Q => match h, L with
  | 0, [o, l1, l2, l3, l4] => PX5_link_41 J o l1 l2 l3 l4 G Q
  | _, _ => False
def BX5_askField (J : JT) : JT := fun h L G Q => match h, L with
  | 0, [o, l1, l2, l3, l4, l5] => PX5_askField_36 J o l1 l2 l3 l4 l5 G Q
  | _, _ => False
def BX5_askSuper (J : JT) : JT := fun h L G Q => match h, L with
  | 0, [o, l1, l2, l3, l4] => PX5_askSuper_11 J o l1 l2 l3 l4 G Q
  | _, _ => False
def BX5_resolve (J : JT) : JT := fun h L G Q => match h, L with
  | 0, [o, l1, l2, l3, l4] => PX5_resolve_5 J o l1 l2 l3 l4 G Q
  | 1, [o, l1, l2, l3, l4, l5] => PX5_resolve_103 J o l1 l2 l3 l4 l5 G Q
  | 2, [o, l1, l2, l3, l4, l5] => PX5_resolve_174 J o l1 l2 l3 l4 l5 G Q
  | _, _ => False
def BX6_fail (J : JT) : JT := fun h L G Q => match h, L with
  | 0, [l1, l2] => PX6_fail_12 J l1 l2 G Q
  | _, _ => False
def BX6_openFrame (J : JT) : JT := fun h L G Q => match h, L with
  | 0, [l1, l2, l3, l4, l5, l6] => PX6_openFrame_92 J l1 l2 l3 l4 l5 l6 G Q
  | _, _ => False
def BX6_slotsTo (J : JT) : JT := fun h L G Q => match h, L with
  | 0, [l1, l2, l3, l4] => PX6_slotsTo_26 J l1 l2 l3 l4 G Q
  | _, _ => False
def BX6_throwOne (J : JT) : JT := fun h L G Q => match h, L with
  | 0, [l1, l2] => PX6_throwOne_13 J l1 l2 G Q
  | _, _ => False
def BX10_hasRunning (J : JT) : JT := fun h L G Q => match h, L with
  | 0, [o, l1] => PX10_hasRunning_2 J o l1 G Q
  | _, _ => False
def BX6_startedFace (J : JT) : JT := fun h L G Q => match h, L with
  | 0, [l1, l2, l3, l5, l6, l7, l8] => PX6_startedFace_54 J l1 l2 l3 l5 l6 l7 l8 G Q
  | _, _ => False
def BX6_nextStart (J : JT) : JT := fun h L G Q => match h, L with
  | 0, [l1, l2, l3, l4, l5, l6] => PX6_nextStart_89 J l1 l2 l3 l4 l5 l6 G Q
  | _, _ => False
def BX6_newOne (J : JT) : JT := fun h L G Q => match h, L with
  | 0, [l1, l2, l3] => PX6_newOne_71 J l1 l2 l3 G Q
  | _, _ => False
def BX9_readList (J : JT) : JT := fun h L G Q => match h, L with
  | 0, [l1, l2, l3, l4, l5, l6] => PX9_readList_16 J l1 l2 l3 l4 l5 l6 G Q
  | _, _ => False
def BX9_readParams (J : JT) : JT := fun h L G Q => match h, L with
  | 0, [l1, l2, l3] => PX9_readParams_30 J l1 l2 l3 G Q
  | _, _ => False
def BX9_scanName (J : JT) : JT := fun h L G Q => match h, L with
  | 0, [l1, l2, l3, l5, l6] => PX9_scanName_124 J l1 l2 l3 l5 l6 G Q
  | 1, [l1, l2, l3, l5, l6, l7] => PX9_scanName_235 J l1 l2 l3 l5 l6 l7 G Q
  | _, _ => False
def BX9_scanNumber (J : JT) : JT := fun h L G Q => match h, L with
  | 0, [l1, l2, l3] => PX9_scanNumber_4 J l1 l2 l3 G Q
  | _, _ => False
def BX9_scan (J : JT) : JT := fun h L G Q => match h, L with
  | 0, [l1, l2] => PX9_scan_2 J l1 l2 G Q
  | _, _ => False
def BX11_enter (J : JT) : JT := fun h L G Q => match h, L with
  | 0, [o, l1, l2] => PX11_enter_2 J o l1 l2 G Q
  | 1, [o, l1, l2, l3, l4] => PX11_enter_32 J o l1 l2 l3 l4 G Q
  | _, _ => False
def BX12_allBuilt (J : JT) : JT := fun h L G Q => match h, L with
  | 0, [l1, l2] => PX12_allBuilt_4 J l1 l2 G Q
  | _, _ => False
def BX12_buildOf (J : JT) : JT := fun h L G Q => match h, L with
  | 0, [l1, l2, l3, l4] => PX12_buildOf_8 J l1 l2 l3 l4 G Q
  | _, _ => False
def BX12_fourBytes (J : JT) : JT := fun h L G Q => match h, L with
  | 0, [l1, l2] => PX12_fourBytes_3 J l1 l2 G Q
  | _, _ => False
def BX12_tellLetters (J : JT) : JT := fun h L G Q => match h, L with
  | 0, [l1, l3] => PX12_tellLetters_3 J l1 l3 G Q
  | _, _ => False
def BX12_tellNumber (J : JT) : JT := fun h L G Q => match h, L with
  | 0, [l1, l3, l5, l7] => PX12_tellNumber_19 J l1 l3 l5 l7 G Q
  | 1, [l1, l3, l5, l7] => PX12_tellNumber_66 J l1 l3 l5 l7 G Q
  | _, _ => False
def BX12_lowerTrial (J : JT) : JT := fun h L G Q => match h, L with
  | 0, [l1] => PX12_lowerTrial_2 J l1 G Q
  | _, _ => False
def BX12_runnable (J : JT) : JT := fun h L G Q => match h, L with
  | 0, [l0, l1, l3] => PX12_runnable_2 J l0 l1 l3 G Q
  | _, _ => False
def BX13_packageOf (J : JT) : JT := fun h L G Q => match h, L with
  | 0, [l0, l2, l4] => PX13_packageOf_9 J l0 l2 l4 G Q
  | _, _ => False
def BX13_outName (J : JT) : JT := fun h L G Q => match h, L with
  | 0, [l1, l3, l5] => PX13_outName_9 J l1 l3 l5 G Q
  | 1, [l1, l3, l5, l6] => PX13_outName_40 J l1 l3 l5 l6 G Q
  | _, _ => False
def BX13_outInt (J : JT) : JT := fun h L G Q => match h, L with
  | 0, [l1, l3, l5] => PX13_outInt_20 J l1 l3 l5 G Q
  | 1, [l1, l3, l5] => PX13_outInt_42 J l1 l3 l5 G Q
  | _, _ => False
def BX13_four (J : JT) : JT := fun h L G Q => match h, L with
  | 0, [l1, l2] => PX13_four_3 J l1 l2 G Q
  | _, _ => False
def BX13_splice (J : JT) : JT := fun h L G Q => match h, L with
  | 0, [l1, l2, l3, l4, l5, l6] => PX13_splice_58 J l1 l2 l3 l4 l5 l6 G Q
  | 1, [l1, l2, l3, l4, l5, l6] => PX13_splice_90 J l1 l2 l3 l4 l5 l6 G Q
  | 2, [l1, l2, l3, l4, l5, l6] => PX13_splice_127 J l1 l2 l3 l4 l5 l6 G Q
  | 3, [l1, l2, l3, l4, l5, l6] => PX13_splice_160 J l1 l2 l3 l4 l5 l6 G Q
  | _, _ => False
def BX13_isWord (J : JT) : JT := fun h L G Q => match h, L with
  | 0, [l1, l3] => PX13_isWord_2 J l1 l3 G Q
  | _, _ => False
def BX13_wordEnd (J : JT) : JT := fun h L G Q => match h, L with
  | 0, [l1, l2] => PX13_wordEnd_2 J l1 l2 G Q
  | _, _ => False
def BX13_tokenAt (J : JT) : JT := fun h L G Q => match h, L with
  | 0, [l1, l2, l3, l4, l5, l7] => PX13_tokenAt_80 J l1 l2 l3 l4 l5 l7 G Q
  | 1, [l1, l2, l3, l4, l5, l7] => PX13_tokenAt_155 J l1 l2 l3 l4 l5 l7 G Q
  | 2, [l1, l2, l3, l4, l5] => PX13_tokenAt_258 J l1 l2 l3 l4 l5 G Q
  | _, _ => False
def BX13_tokenize (J : JT) : JT := fun h L G Q => match h, L with
  | 0, [l1, l2, l3] => PX13_tokenize_6 J l1 l2 l3 G Q
  | 1, [l1, l2, l3] => PX13_tokenize_10 J l1 l2 l3 G Q
  | _, _ => False
def BX13_list (J : JT) : JT := fun h L G Q => match h, L with
  | 0, [l1, l2, l3, l4, l5, l6] => PX13_list_6 J l1 l2 l3 l4 l5 l6 G Q
  | _, _ => False
def BX13_inSlot (J : JT) : JT := fun h L G Q => match h, L with
  | 0, [l1, l2, l4] => PX13_inSlot_3 J l1 l2 l4 G Q
  | _, _ => False
def BX13_find (J : JT) : JT := fun h L G Q => match h, L with
  | 0, [l1, l3, l4] => PX13_find_67 J l1 l3 l4 G Q
  | _, _ => False
def BX13_stoodBefore (J : JT) : JT := fun h L G Q => match h, L with
  | 0, [l0, l1, l2, l3, l4] => PX13_stoodBefore_5 J l0 l1 l2 l3 l4 G Q
  | _, _ => False
def BX13_parents (J : JT) : JT := fun h L G Q => match h, L with
  | 0, [l1, l2, l3, l4] => PX13_parents_5 J l1 l2 l3 l4 G Q
  | _, _ => False
def BX13_newStamp (J : JT) : JT := fun h L G Q => match h, L with
  | 0, [l1] => PX13_newStamp_12 J l1 G Q
  | _, _ => False
def BX13_allFaces (J : JT) : JT := fun h L G Q => match h, L with
  | 0, [l1, l2, l3, l4] => PX13_allFaces_24 J l1 l2 l3 l4 G Q
  | 1, [l1, l2, l3, l4, l5, l6, l7] => PX13_allFaces_174 J l1 l2 l3 l4 l5 l6 l7 G Q
  | _, _ => False
def BX13_isHeir (J : JT) : JT := fun h L G Q => match h, L with
  | 0, [l1, l2, l3, l4] => PX13_isHeir_19 J l1 l2 l3 l4 G Q
  | 1, [l1, l2, l3, l4, l5, l6, l7] => PX13_isHeir_106 J l1 l2 l3 l4 l5 l6 l7 G Q
  | _, _ => False
def BX13_stands (J : JT) : JT := fun h L G Q => match h, L with
  | 0, [l0, l1, l2, l3, l5, l6] => PX13_stands_6 J l0 l1 l2 l3 l5 l6 G Q
  | _, _ => False
def BX13_ownField (J : JT) : JT := fun h L G Q => match h, L with
  | 0, [l1, l2, l4, l6] => PX13_ownField_3 J l1 l2 l4 l6 G Q
  | _, _ => False
def BX13_theField (J : JT) : JT := fun h L G Q => match h, L with
  | 0, [l1, l2, l4, l6, l7] => PX13_theField_27 J l1 l2 l4 l6 l7 G Q
  | 1, [l1, l2, l4, l6, l7, l8, l9, l10] => PX13_theField_146 J l1 l2 l4 l6 l7 l8 l9 l10 G Q
  | _, _ => False
def BX13_sameParams (J : JT) : JT := fun h L G Q => match h, L with
  | 0, [l1, l2, l3, l4] => PX13_sameParams_24 J l1 l2 l3 l4 G Q
  | _, _ => False
def BX13_ownMethod (J : JT) : JT := fun h L G Q => match h, L with
  | 0, [l1, l2, l3] => PX13_ownMethod_2 J l1 l2 l3 G Q
  | _, _ => False
def BX13_overrides (J : JT) : JT := fun h L G Q => match h, L with
  | 0, [l1, l2, l3, l4, l6] => PX13_overrides_55 J l1 l2 l3 l4 l6 G Q
  | _, _ => False
def BX13_mostSpecial (J : JT) : JT := fun h L G Q => match h, L with
  | 0, [l1, l2, l3, l4, l5] => PX13_mostSpecial_60 J l1 l2 l3 l4 l5 G Q
  | 1, [l1, l2, l3, l4, l5, l6] => PX13_mostSpecial_142 J l1 l2 l3 l4 l5 l6 G Q
  | 2, [l1, l2, l3, l4, l5, l6, l7, l8] => PX13_mostSpecial_155 J l1 l2 l3 l4 l5 l6 l7 l8 G Q
  | _, _ => False
def BX13_selected (J : JT) : JT := fun h L G Q => match h, L with
  | 0, [l1, l2, l3, l4, l5] => PX13_selected_41 J l1 l2 l3 l4 l5 G Q
  | _, _ => False
def BX13_head (J : JT) : JT := fun h L G Q => match h, L with
  | 0, [l1, l2] => PX13_head_119 J l1 l2 G Q
  | 1, [l1, l2] => PX13_head_292 J l1 l2 G Q
  | 2, [l1, l2] => PX13_head_368 J l1 l2 G Q
  | _, _ => False
def BX13_heads (J : JT) : JT := fun h L G Q => match h, L with
  | 0, [l1] => PX13_heads_2 J l1 G Q
  | 1, [l1] => PX13_heads_43 J l1 G Q
  | _, _ => False
def BX13_membersOf (J : JT) : JT := fun h L G Q => match h, L with
  | 0, [l1] => PX13_membersOf_2 J l1 G Q
  | 1, [l1, l2, l3] => PX13_membersOf_34 J l1 l2 l3 G Q
  | 2, [l1, l2, l3, l4, l5] => PX13_membersOf_124 J l1 l2 l3 l4 l5 G Q
  | 3, [l1, l2, l3, l4, l5] => PX13_membersOf_174 J l1 l2 l3 l4 l5 G Q
  | _, _ => False
def BX13_aboveIn (J : JT) : JT := fun h L G Q => match h, L with
  | 0, [l1, l2, l3, l4] => PX13_aboveIn_3 J l1 l2 l3 l4 G Q
  | _, _ => False
def BX13_findAbove (J : JT) : JT := fun h L G Q => match h, L with
  | 0, [l1, l2, l3, l4] => PX13_findAbove_24 J l1 l2 l3 l4 G Q
  | 1, [l1, l2, l3, l4, l5] => PX13_findAbove_63 J l1 l2 l3 l4 l5 G Q
  | _, _ => False
def BX13_againstAbove (J : JT) : JT := fun h L G Q => match h, L with
  | 0, [l1] => PX13_againstAbove_2 J l1 G Q
  | 1, [l1, l2, l3] => PX13_againstAbove_34 J l1 l2 l3 G Q
  | 2, [l1, l2, l3, l4, l5] => PX13_againstAbove_79 J l1 l2 l3 l4 l5 G Q
  | _, _ => False
def BX13_bridge (J : JT) : JT := fun h L G Q => match h, L with
  | 0, [l1, l2, l3, l5, l6] => PX13_bridge_127 J l1 l2 l3 l5 l6 G Q
  | _, _ => False
def BX13_hasBridge (J : JT) : JT := fun h L G Q => match h, L with
  | 0, [l1, l2, l3, l4, l5] => PX13_hasBridge_6 J l1 l2 l3 l4 l5 G Q
  | _, _ => False
def BX13_bridges (J : JT) : JT := fun h L G Q => match h, L with
  | 0, [l1, l2, l3, l4] => PX13_bridges_12 J l1 l2 l3 l4 G Q
  | 1, [l1, l2, l3, l4, l5, l6] => PX13_bridges_73 J l1 l2 l3 l4 l5 l6 G Q
  | _, _ => False
def BX13_makersAndBridges (J : JT) : JT := fun h L G Q => match h, L with
  | 0, [l1] => PX13_makersAndBridges_2 J l1 G Q
  | 1, [l1, l2, l3, l4] => PX13_makersAndBridges_34 J l1 l2 l3 l4 G Q
  | 2, [l1] => PX13_makersAndBridges_184 J l1 G Q
  | _, _ => False
def BX13_lackingOf (J : JT) : JT := fun h L G Q => match h, L with
  | 0, [l1, l2, l3] => PX13_lackingOf_2 J l1 l2 l3 G Q
  | _, _ => False
def BX13_lacking (J : JT) : JT := fun h L G Q => match h, L with
  | 0, [l1] => PX13_lacking_2 J l1 G Q
  | 1, [l1, l2, l3, l4] => PX13_lacking_66 J l1 l2 l3 l4 G Q
  | 2, [l1, l2, l3, l4, l5] => PX13_lacking_104 J l1 l2 l3 l4 l5 G Q
  | _, _ => False
def BX13_keepParams (J : JT) : JT := fun h L G Q => match h, L with
  | 0, [l1, l2, l3] => PX13_keepParams_14 J l1 l2 l3 G Q
  | _, _ => False
def BX13_best (J : JT) : JT := fun h L G Q => match h, L with
  | 0, [l1] => PX13_best_2 J l1 G Q
  | 1, [l1, l2, l3] => PX13_best_14 J l1 l2 l3 G Q
  | 2, [l1, l2, l3, l4] => PX13_best_29 J l1 l2 l3 l4 G Q
  | _, _ => False
def BX13_takesArgs (J : JT) : JT := fun h L G Q => match h, L with
  | 0, [l1, l2, l3, l4, l5] => PX13_takesArgs_8 J l1 l2 l3 l4 l5 G Q
  | _, _ => False
def BX13_local (J : JT) : JT := fun h L G Q => match h, L with
  | 0, [l1, l3, l5, l6] => PX13_local_3 J l1 l3 l5 l6 G Q
  | _, _ => False
def BX13_keepUse (J : JT) : JT := fun h L G Q => match h, L with
  | 0, [l1, l2] => PX13_keepUse_4 J l1 l2 G Q
  | 1, [l1, l2, l3, l4] => PX13_keepUse_147 J l1 l2 l3 l4 G Q
  | _, _ => False
def BX13_useOf (J : JT) : JT := fun h L G Q => match h, L with
  | 0, [l1, l2, l3, l5, l7, l9, l10] => PX13_useOf_28 J l1 l2 l3 l5 l7 l9 l10 G Q
  | _, _ => False
def BX13_bridgeUse (J : JT) : JT := fun h L G Q => match h, L with
  | 0, [l1, l2, l3, l4, l5] => PX13_bridgeUse_72 J l1 l2 l3 l4 l5 G Q
  | _, _ => False
def BX13_text (J : JT) : JT := fun h L G Q => match h, L with
  | 0, [l1, l2, l3, l4] => PX13_text_28 J l1 l2 l3 l4 G Q
  | _, _ => False
def BX13_buildOf (J : JT) : JT := fun h L G Q => match h, L with
  | 0, [l1, l2] => PX13_buildOf_2 J l1 l2 G Q
  | _, _ => False
def BX13_clearSet (J : JT) : JT := fun h L G Q => match h, L with
  | 0, [l1, l2] => PX13_clearSet_2 J l1 l2 G Q
  | _, _ => False
def BX13_numberWorld (J : JT) : JT := fun h L G Q => match h, L with
  | 0, [l1] => PX13_numberWorld_2 J l1 G Q
  | 1, [l1] => PX13_numberWorld_44 J l1 G Q
  | 2, [l1, l2] => PX13_numberWorld_51 J l1 l2 G Q
  | _, _ => False
def BX13_settle (J : JT) : JT := fun h L G Q => match h, L with
  | 0, [l1] => PX13_settle_31 J l1 G Q
  | _, _ => False
def BX13_memberAt (J : JT) : JT := fun h L G Q => match h, L with
  | 0, [l1, l2, l3, l4] => PX13_memberAt_5 J l1 l2 l3 l4 G Q
  | _, _ => False
def BX13_memberMany (J : JT) : JT := fun h L G Q => match h, L with
  | 0, [l1, l2, l3] => PX13_memberMany_4 J l1 l2 l3 G Q
  | _, _ => False
def BX13_askSuper (J : JT) : JT := fun h L G Q => match h, L with
  | 0, [l1, l2, l3] => PX13_askSuper_5 J l1 l2 l3 G Q
  | _, _ => False
def BX13_overridesFinal (J : JT) : JT := fun h L G Q => match h, L with
  | 0, [l1, l2, l3] => PX13_overridesFinal_4 J l1 l2 l3 G Q
  | 1, [l1, l2, l3, l4, l5] => PX13_overridesFinal_54 J l1 l2 l3 l4 l5 G Q
  | _, _ => False
def BX13_stale (J : JT) : JT := fun h L G Q => match h, L with
  | 0, [l1, l2] => PX13_stale_4 J l1 l2 G Q
  | 1, [l1, l2, l3, l4] => PX13_stale_19 J l1 l2 l3 l4 G Q
  | _, _ => False
def BX13_fresh (J : JT) : JT := fun h L G Q => match h, L with
  | 0, [l1, l2] => PX13_fresh_4 J l1 l2 G Q
  | _, _ => False
def BX13_hasBody (J : JT) : JT := fun h L G Q => match h, L with
  | 0, [l1, l2] => PX13_hasBody_2 J l1 l2 G Q
  | _, _ => False
def BX13_pushFaces (J : JT) : JT := fun h L G Q => match h, L with
  | 0, [l1, l2] => PX13_pushFaces_9 J l1 l2 G Q
  | _, _ => False
def BX13_fieldsOf (J : JT) : JT := fun h L G Q => match h, L with
  | 0, [l1, l2, l3] => PX13_fieldsOf_4 J l1 l2 l3 G Q
  | 1, [l1, l2, l3, l4] => PX13_fieldsOf_13 J l1 l2 l3 l4 G Q
  | _, _ => False
def BX13_cellOf (J : JT) : JT := fun h L G Q => match h, L with
  | 0, [l1, l2, l3, l4, l5] => PX13_cellOf_61 J l1 l2 l3 l4 l5 G Q
  | _, _ => False
def BX13_newObject (J : JT) : JT := fun h L G Q => match h, L with
  | 0, [l1, l2, l3] => PX13_newObject_70 J l1 l2 l3 G Q
  | _, _ => False
def BX13_named (J : JT) : JT := fun h L G Q => match h, L with
  | 0, [l1, l2, l3] => PX13_named_63 J l1 l2 l3 G Q
  | 1, [l1, l2, l3, l5] => PX13_named_162 J l1 l2 l3 l5 G Q
  | 2, [l1, l2, l3, l5, l7, l8] => PX13_named_258 J l1 l2 l3 l5 l7 l8 G Q
  | _, _ => False
def BX13_toldPlace (J : JT) : JT := fun h L G Q => match h, L with
  | 0, [l1, l2, l3, l4] => PX13_toldPlace_23 J l1 l2 l3 l4 G Q
  | _, _ => False
def BX13_compareFields (J : JT) : JT := fun h L G Q => match h, L with
  | 0, [l1, l2, l3] => PX13_compareFields_2 J l1 l2 l3 G Q
  | 1, [l1, l2, l3] => PX13_compareFields_262 J l1 l2 l3 G Q
  | _, _ => False
def BX13_compareHeads (J : JT) : JT := fun h L G Q => match h, L with
  | 0, [l1, l2, l3, l5, l7] => PX13_compareHeads_189 J l1 l2 l3 l5 l7 G Q
  | 1, [l1, l2, l3, l5, l7] => PX13_compareHeads_251 J l1 l2 l3 l5 l7 G Q
  | 2, [l1, l2, l3, l5, l7, l8, l9] => PX13_compareHeads_379 J l1 l2 l3 l5 l7 l8 l9 G Q
  | _, _ => False
def BX13_alike (J : JT) : JT := fun h L G Q => match h, L with
  | 0, [l1, l2, l3] => PX13_alike_2 J l1 l2 l3 G Q
  | _, _ => False
def BX13_sameTokens (J : JT) : JT := fun h L G Q => match h, L with
  | 0, [l1, l2, l3, l4, l5, l6, l7, l8] => PX13_sameTokens_140 J l1 l2 l3 l4 l5 l6 l7 l8 G Q
  | _, _ => False
def BX13_compareMakers (J : JT) : JT := fun h L G Q => match h, L with
  | 0, [l1, l2, l3] => PX13_compareMakers_2 J l1 l2 l3 G Q
  | 1, [l1, l2, l3] => PX13_compareMakers_126 J l1 l2 l3 G Q
  | _, _ => False
def BX13_compareMethods (J : JT) : JT := fun h L G Q => match h, L with
  | 0, [l1, l2, l3] => PX13_compareMethods_2 J l1 l2 l3 G Q
  | 1, [l1, l2, l3] => PX13_compareMethods_282 J l1 l2 l3 G Q
  | _, _ => False
def BX13_rest (J : JT) : JT := fun h L G Q => match h, L with
  | 0, [l1, l2, l3, l4] => PX13_rest_5 J l1 l2 l3 l4 G Q
  | 1, [l1, l2, l3, l4, l5, l6] => PX13_rest_34 J l1 l2 l3 l4 l5 l6 G Q
  | _, _ => False
def BX13_sameRest (J : JT) : JT := fun h L G Q => match h, L with
  | 0, [l1, l2, l3, l4, l5] => PX13_sameRest_33 J l1 l2 l3 l4 l5 G Q
  | _, _ => False
def BX13_compare (J : JT) : JT := fun h L G Q => match h, L with
  | 0, [l1, l2, l3] => PX13_compare_7 J l1 l2 l3 G Q
  | 1, [l1, l2, l3] => PX13_compare_158 J l1 l2 l3 G Q
  | _, _ => False
def BX13_bridgesOf (J : JT) : JT := fun h L G Q => match h, L with
  | 0, [l1, l2, l3] => PX13_bridgesOf_4 J l1 l2 l3 G Q
  | _, _ => False
def BX13_copyMembers (J : JT) : JT := fun h L G Q => match h, L with
  | 0, [l1, l2, l3, l4, l5] => PX13_copyMembers_304 J l1 l2 l3 l4 l5 G Q
  | _, _ => False
def BX13_copyNodes (J : JT) : JT := fun h L G Q => match h, L with
  | 0, [l1, l2, l3, l4] => PX13_copyNodes_203 J l1 l2 l3 l4 G Q
  | _, _ => False
def BX13_heal (J : JT) : JT := fun h L G Q => match h, L with
  | 0, [l1, l2, l3, l4, l5] => PX13_heal_27 J l1 l2 l3 l4 l5 G Q
  | _, _ => False
def BX13_copyUse (J : JT) : JT := fun h L G Q => match h, L with
  | 0, [l1, l2, l3] => PX13_copyUse_67 J l1 l2 l3 G Q
  | _, _ => False
def BX13_weaveUses (J : JT) : JT := fun h L G Q => match h, L with
  | 0, [l1, l2] => PX13_weaveUses_12 J l1 l2 G Q
  | 1, [l1, l2, l3, l4] => PX13_weaveUses_43 J l1 l2 l3 l4 G Q
  | 2, [l1, l2, l3, l4] => PX13_weaveUses_102 J l1 l2 l3 l4 G Q
  | 3, [l1, l2] => PX13_weaveUses_225 J l1 l2 G Q
  | _, _ => False
def BX13_weave (J : JT) : JT := fun h L G Q => match h, L with
  | 0, [l1, l2, l3, l4, l5, l6, l7, l8, l9] => PX13_weave_57 J l1 l2 l3 l4 l5 l6 l7 l8 l9 G Q
  | 1, [l1, l2, l3, l4, l5, l6, l7, l8, l9] => PX13_weave_235 J l1 l2 l3 l4 l5 l6 l7 l8 l9 G Q
  | _, _ => False
def BX3_openRow (J : JT) : JT := fun h L G Q => match h, L with
  | 0, [l1, l2, l3] => PX3_openRow_89 J l1 l2 l3 G Q
  | 1, [l1, l2, l3] => PX3_openRow_220 J l1 l2 l3 G Q
  | _, _ => False
def BX3_copyRow (J : JT) : JT := fun h L G Q => match h, L with
  | 0, [l1, l2, l3, l4, l5, l6] => PX3_copyRow_171 J l1 l2 l3 l4 l5 l6 G Q
  | 1, [l1, l2, l3, l4, l5, l6] => PX3_copyRow_203 J l1 l2 l3 l4 l5 l6 G Q
  | 2, [l1, l2, l3, l4, l5, l6] => PX3_copyRow_278 J l1 l2 l3 l4 l5 l6 G Q
  | _, _ => False
def BX4_addBridge (J : JT) : JT := fun h L G Q => match h, L with
  | 0, [l0, l1, l2, l3, l5, l6] => PX4_addBridge_63 J l0 l1 l2 l3 l5 l6 G Q
  | _, _ => False
def BX4_bridges (J : JT) : JT := fun h L G Q => match h, L with
  | 0, [l1, l2, l3, l4] => PX4_bridges_8 J l1 l2 l3 l4 G Q
  | 1, [l1, l2, l3, l4, l5, l6, l7] => PX4_bridges_69 J l1 l2 l3 l4 l5 l6 l7 G Q
  | 2, [l1, l2, l3, l4, l5, l6, l7, l8] => PX4_bridges_135 J l1 l2 l3 l4 l5 l6 l7 l8 G Q
  | _, _ => False
def BX4_judge (J : JT) : JT := fun h L G Q => match h, L with
  | 0, [l1, l2, l3] => PX4_judge_17 J l1 l2 l3 G Q
  | 1, [l1, l2, l3] => PX4_judge_58 J l1 l2 l3 G Q
  | 2, [l1, l2, l3] => PX4_judge_142 J l1 l2 l3 G Q
  | 3, [l1, l2, l3] => PX4_judge_200 J l1 l2 l3 G Q
  | 4, [l1, l2, l3] => PX4_judge_258 J l1 l2 l3 G Q
  | 5, [l1, l2, l3] => PX4_judge_329 J l1 l2 l3 G Q
  | _, _ => False
def BX5_clear (J : JT) : JT := fun h L G Q => match h, L with
  | 0, [o, l1, l2, l3] => PX5_clear_41 J o l1 l2 l3 G Q
  | 1, [o, l1, l2, l3] => PX5_clear_90 J o l1 l2 l3 G Q
  | _, _ => False
def BX12_stale (J : JT) : JT := fun h L G Q => match h, L with
  | 0, [l1, l2] => PX12_stale_15 J l1 l2 G Q
  | 1, [l1, l2, l3, l4] => PX12_stale_35 J l1 l2 l3 l4 G Q
  | _, _ => False
def BX12_fresh (J : JT) : JT := fun h L G Q => match h, L with
  | 0, [l1, l2] => PX12_fresh_4 J l1 l2 G Q
  | _, _ => False
def BX13_methodOf (J : JT) : JT := fun h L G Q => match h, L with
  | 0, [l1, l2] => PX13_methodOf_2 J l1 l2 G Q
  | 1, [l1, l2, l3, l4, l5] => PX13_methodOf_56 J l1 l2 l3 l4 l5 G Q
  | _, _ => False
def BX9_scanAll (J : JT) : JT := fun h L G Q => match h, L with
  | 0, [l1, l2, l3, l4] => PX9_scanAll_25 J l1 l2 l3 l4 G Q
  | _, _ => False
def BX0_ends (R : JT) (J : JT) : JT := fun h L G Q => match h, L with
  | 0, [l0, l1] => PX0_ends_59 R J l0 l1 G Q
  | _, _ => False
def BX0_chain (R : JT) (J : JT) : JT := fun h L G Q => match h, L with
  | 0, [l1, l2, l3] => PX0_chain_37 R J l1 l2 l3 G Q
  | _, _ => False
def BX0_exprs (R : JT) (J : JT) : JT := fun h L G Q => match h, L with
  | 0, [l1, l2] => PX0_exprs_2 R J l1 l2 G Q
  | _, _ => False
def BX0_unit (R : JT) (J : JT) : JT := fun h L G Q => match h, L with
  | 0, [l1, l2, l4] => PX0_unit_40 R J l1 l2 l4 G Q
  | _, _ => False
def BX0_statement (R : JT) (J : JT) : JT := fun h L G Q => match h, L with
  | 0, [l1, l2, l3] => PX0_statement_69 R J l1 l2 l3 G Q
  | _, _ => False
def BX0_body (J : JT) : JT := fun h L G Q => match h, L with
  | 0, [l1, l2] => PX0_body_80 J l1 l2 G Q
  | _, _ => False
def BX0_foldChain (R : JT) (J : JT) : JT := fun h L G Q => match h, L with
  | 0, [l1, l2, l3] => PX0_foldChain_26 R J l1 l2 l3 G Q
  | _, _ => False
def BX0_constants (J : JT) : JT := fun h L G Q => match h, L with
  | 0, [l1] => PX0_constants_2 J l1 G Q
  | _, _ => False
def BX0_judge (J : JT) : JT := fun h L G Q => match h, L with
  | 0, [l1, l2, l3, l4] => PX0_judge_23 J l1 l2 l3 l4 G Q
  | 1, [l1, l2, l3, l4] => PX0_judge_80 J l1 l2 l3 l4 G Q
  | 2, [l1, l2, l3, l4, l5] => PX0_judge_134 J l1 l2 l3 l4 l5 G Q
  | 3, [l1, l2, l3, l4, l5] => PX0_judge_176 J l1 l2 l3 l4 l5 G Q
  | _, _ => False
def BX3_args (R : JT) (J : JT) : JT := fun h L G Q => match h, L with
  | 0, [l1, l2, l3, l4] => PX3_args_5 R J l1 l2 l3 l4 G Q
  | _, _ => False
def BX3_chain (R : JT) (J : JT) : JT := fun h L G Q => match h, L with
  | 0, [l1, l2] => PX3_chain_27 R J l1 l2 G Q
  | _, _ => False
def BX3_unit (R : JT) (J : JT) : JT := fun h L G Q => match h, L with
  | 0, [l1, l2, l3] => PX3_unit_13 R J l1 l2 l3 G Q
  | _, _ => False
def BX3_statement (R : JT) (J : JT) : JT := fun h L G Q => match h, L with
  | 0, [l1, l2] => PX3_statement_19 R J l1 l2 G Q
  | _, _ => False
def BX3_maker (J : JT) : JT := fun h L G Q => match h, L with
  | 0, [l1, l2, l3] => PX3_maker_205 J l1 l2 l3 G Q
  | _, _ => False
def BX3_write (J : JT) : JT := fun h L G Q => match h, L with
  | 0, [l1, l2, l3] => PX3_write_12 J l1 l2 l3 G Q
  | 1, [l1, l2, l3, l4] => PX3_write_44 J l1 l2 l3 l4 G Q
  | 2, [l1, l2, l3, l4] => PX3_write_132 J l1 l2 l3 l4 G Q
  | _, _ => False
def BX5_undo (J : JT) : JT := fun h L G Q => match h, L with
  | 0, [o, l1] => PX5_undo_0 J o l1 G Q
  | _, _ => False
def BX9_args (R : JT) (J : JT) : JT := fun h L G Q => match h, L with
  | 0, [l1, l2, l3, l4, l5] => PX9_args_34 R J l1 l2 l3 l4 l5 G Q
  | _, _ => False
def BX9_chain (R : JT) (J : JT) : JT := fun h L G Q => match h, L with
  | 0, [l1, l2, l3, l4, l5] => PX9_chain_25 R J l1 l2 l3 l4 l5 G Q
  | _, _ => False
def BX9_unit (R : JT) (J : JT) : JT := fun h L G Q => match h, L with
  | 0, [l1, l2, l3, l4, l5] => PX9_unit_14 R J l1 l2 l3 l4 l5 G Q
  | _, _ => False
def BX9_block (R : JT) (J : JT) : JT := fun h L G Q => match h, L with
  | 0, [l1, l2, l3, l4] => PX9_block_52 R J l1 l2 l3 l4 G Q
  | _, _ => False
def BX9_read (J : JT) : JT := fun h L G Q => match h, L with
  | 0, [l1, l2, l3, l4] => PX9_read_36 J l1 l2 l3 l4 G Q
  | 1, [l1, l2, l3, l4, l5, l6] => PX9_read_67 J l1 l2 l3 l4 l5 l6 G Q
  | _, _ => False
def BX11_close (J : JT) : JT := fun h L G Q => match h, L with
  | 0, [o, l1, l2] => PX11_close_4 J o l1 l2 G Q
  | 1, [o, l1, l2, l3] => PX11_close_18 J o l1 l2 l3 G Q
  | 2, [o, l1, l2, l3, l4, l6] => PX11_close_81 J o l1 l2 l3 l4 l6 G Q
  | 3, [o, l1, l2] => PX11_close_176 J o l1 l2 G Q
  | 4, [o, l1, l2, l3, l5, l6] => PX11_close_204 J o l1 l2 l3 l5 l6 G Q
  | _, _ => False
def BX11_settle (J : JT) : JT := fun h L G Q => match h, L with
  | 0, [o, l1] => PX11_settle_2 J o l1 G Q
  | 1, [o, l1, l2, l3, l4] => PX11_settle_186 J o l1 l2 l3 l4 G Q
  | _, _ => False
def BX12_gather (J : JT) : JT := fun h L G Q => match h, L with
  | 0, [l1, l2, l3] => PX12_gather_6 J l1 l2 l3 G Q
  | _, _ => False
def BX12_make (J : JT) : JT := fun h L G Q => match h, L with
  | 0, [l1, l2, l3, l4] => PX12_make_88 J l1 l2 l3 l4 G Q
  | _, _ => False
def BX12_tellText (J : JT) : JT := fun h L G Q => match h, L with
  | 0, [l1, l2] => PX12_tellText_2 J l1 l2 G Q
  | _, _ => False
def BX12_tellList (J : JT) : JT := fun h L G Q => match h, L with
  | 0, [l1, l2, l3, l4] => PX12_tellList_3 J l1 l2 l3 l4 G Q
  | _, _ => False
def BX12_tellParams (J : JT) : JT := fun h L G Q => match h, L with
  | 0, [l1, l2] => PX12_tellParams_9 J l1 l2 G Q
  | _, _ => False
def BX12_countBroken (J : JT) : JT := fun h L G Q => match h, L with
  | 0, [l1, l2, l3, l4, l5] => PX12_countBroken_6 J l1 l2 l3 l4 l5 G Q
  | 1, [l1, l2, l3, l4, l5, l6, l7] => PX12_countBroken_27 J l1 l2 l3 l4 l5 l6 l7 G Q
  | 2, [l1, l2, l3, l4, l5, l6, l7, l8, l9, l10, l11] => PX12_countBroken_102 J l1 l2 l3 l4 l5 l6 l7 l8 l9 l10 l11 G Q
  | _, _ => False
def BX12_choose (J : JT) : JT := fun h L G Q => match h, L with
  | 0, [l1, l2] => PX12_choose_4 J l1 l2 G Q
  | 1, [l1, l2] => PX12_choose_41 J l1 l2 G Q
  | _, _ => False
def BX12_weave (J : JT) : JT := fun h L G Q => match h, L with
  | 0, [l1, l2, l3, l4, l5, l6, l7, l8, l9] => PX12_weave_115 J l1 l2 l3 l4 l5 l6 l7 l8 l9 G Q
  | 1, [l1, l2, l3, l4, l5, l6, l7, l8, l9, l10, l11, l12] => PX12_weave_163 J l1 l2 l3 l4 l5 l6 l7 l8 l9 l10 l11 l12 G Q
  | _, _ => False
def BX12_run (J : JT) : JT := fun h L G Q => match h, L with
  | 0, [l1, l2, l3, l4] => PX12_run_95 J l1 l2 l3 l4 G Q
  | 1, [l1, l2, l3, l4] => PX12_run_150 J l1 l2 l3 l4 G Q
  | _, _ => False
def BX13_outWord (J : JT) : JT := fun h L G Q => match h, L with
  | 0, [l1, l2] => PX13_outWord_2 J l1 l2 G Q
  | _, _ => False
def BX13_wordTable (J : JT) : JT := fun h L G Q => match h, L with
  | 0, [l1, l3] => PX13_wordTable_4 J l1 l3 G Q
  | _, _ => False
def BX13_arguments (R : JT) (J : JT) : JT := fun h L G Q => match h, L with
  | 0, [l1, l2, l3] => PX13_arguments_47 R J l1 l2 l3 G Q
  | _, _ => False
def BX13_product (R : JT) (J : JT) : JT := fun h L G Q => match h, L with
  | 0, [l1] => PX13_product_5 R J l1 G Q
  | _, _ => False
def BX13_sum (R : JT) (J : JT) : JT := fun h L G Q => match h, L with
  | 0, [l1] => PX13_sum_5 R J l1 G Q
  | _, _ => False
def BX13_unit (R : JT) (J : JT) : JT := fun h L G Q => match h, L with
  | 0, [l1, l2] => PX13_unit_48 R J l1 l2 G Q
  | _, _ => False
def BX13_block (R : JT) (J : JT) : JT := fun h L G Q => match h, L with
  | 0, [l1, l2, l3] => PX13_block_17 R J l1 l2 l3 G Q
  | _, _ => False
def BX13_params (J : JT) : JT := fun h L G Q => match h, L with
  | 0, [l1, l2] => PX13_params_40 J l1 l2 G Q
  | _, _ => False
def BX13_klass (J : JT) : JT := fun h L G Q => match h, L with
  | 0, [l1, l2, l3, l4] => PX13_klass_405 J l1 l2 l3 l4 G Q
  | _, _ => False
def BX13_parse (J : JT) : JT := fun h L G Q => match h, L with
  | 0, [] => PX13_parse_30 J  G Q
  | _, _ => False
def BX13_given (J : JT) : JT := fun h L G Q => match h, L with
  | 0, [l1] => PX13_given_10 J l1 G Q
  | _, _ => False
def BX13_loadAbove (R : JT) (J : JT) : JT := fun h L G Q => match h, L with
  | 0, [l1, l2] => PX13_loadAbove_80 R J l1 l2 G Q
  | _, _ => False
def BX13_folded (R : JT) (J : JT) : JT := fun h L G Q => match h, L with
  | 0, [l1, l2, l3, l4] => PX13_folded_8 R J l1 l2 l3 l4 G Q
  | 1, [l1, l2, l3, l4, l5] => PX13_folded_124 R J l1 l2 l3 l4 l5 G Q
  | _, _ => False
def BX13_constants (J : JT) : JT := fun h L G Q => match h, L with
  | 0, [l1] => PX13_constants_2 J l1 G Q
  | 1, [l1, l2, l3] => PX13_constants_27 J l1 l2 l3 G Q
  | _, _ => False
def BX13_canEnd (R : JT) (J : JT) : JT := fun h L G Q => match h, L with
  | 0, [l1, l2] => PX13_canEnd_57 R J l1 l2 G Q
  | _, _ => False
def BX13_candidatesIn (J : JT) : JT := fun h L G Q => match h, L with
  | 0, [l1, l2, l3, l5, l6] => PX13_candidatesIn_3 J l1 l2 l3 l5 l6 G Q
  | 1, [l1, l2, l3, l5, l6, l7, l8, l9, l10] => PX13_candidatesIn_132 J l1 l2 l3 l5 l6 l7 l8 l9 l10 G Q
  | _, _ => False
def BX13_meant (J : JT) : JT := fun h L G Q => match h, L with
  | 0, [l1, l2, l4, l5, l6] => PX13_meant_19 J l1 l2 l4 l5 l6 G Q
  | 1, [l1, l2, l4, l5, l6, l7] => PX13_meant_61 J l1 l2 l4 l5 l6 l7 G Q
  | _, _ => False
def BX13_nameAlone (J : JT) : JT := fun h L G Q => match h, L with
  | 0, [l1, l2] => PX13_nameAlone_2 J l1 l2 G Q
  | _, _ => False
def BX13_args (R : JT) (J : JT) : JT := fun h L G Q => match h, L with
  | 0, [l1, l2] => PX13_args_2 R J l1 l2 G Q
  | _, _ => False
def BX13_judge (R : JT) (J : JT) : JT := fun h L G Q => match h, L with
  | 0, [l1, l2, l3] => PX13_judge_7 R J l1 l2 l3 G Q
  | 1, [l1, l2, l3] => PX13_judge_117 R J l1 l2 l3 G Q
  | _, _ => False
def BX13_judgeS (R : JT) (J : JT) : JT := fun h L G Q => match h, L with
  | 0, [l1, l2, l3] => PX13_judgeS_67 R J l1 l2 l3 G Q
  | _, _ => False
def BX13_bodyOf (J : JT) : JT := fun h L G Q => match h, L with
  | 0, [l1, l2, l3] => PX13_bodyOf_97 J l1 l2 l3 G Q
  | _, _ => False
def BX13_bodies (J : JT) : JT := fun h L G Q => match h, L with
  | 0, [l1] => PX13_bodies_2 J l1 G Q
  | 1, [l1, l2, l3] => PX13_bodies_34 J l1 l2 l3 G Q
  | _, _ => False
def BX13_copies (R : JT) (J : JT) : JT := fun h L G Q => match h, L with
  | 0, [l1, l2, l3] => PX13_copies_7 R J l1 l2 l3 G Q
  | 1, [l1, l2, l3] => PX13_copies_86 R J l1 l2 l3 G Q
  | _, _ => False
def BX13_usesArgs (R : JT) (J : JT) : JT := fun h L G Q => match h, L with
  | 0, [l1, l2, l3, l4] => PX13_usesArgs_5 R J l1 l2 l3 l4 G Q
  | _, _ => False
def BX13_usesE (R : JT) (J : JT) : JT := fun h L G Q => match h, L with
  | 0, [l1, l2, l3] => PX13_usesE_7 R J l1 l2 l3 G Q
  | 1, [l1, l2, l3] => PX13_usesE_98 R J l1 l2 l3 G Q
  | _, _ => False
def BX13_usesS (R : JT) (J : JT) : JT := fun h L G Q => match h, L with
  | 0, [l1, l2] => PX13_usesS_71 R J l1 l2 G Q
  | _, _ => False
def BX13_usesOf (J : JT) : JT := fun h L G Q => match h, L with
  | 0, [l1, l2] => PX13_usesOf_38 J l1 l2 G Q
  | 1, [l1, l2] => PX13_usesOf_75 J l1 l2 G Q
  | _, _ => False
def BX13_usesOfAll (J : JT) : JT := fun h L G Q => match h, L with
  | 0, [l1] => PX13_usesOfAll_12 J l1 G Q
  | _, _ => False
def BX13_make (J : JT) : JT := fun h L G Q => match h, L with
  | 0, [l1, l2] => PX13_make_43 J l1 l2 G Q
  | _, _ => False
def BX13_outParams (J : JT) : JT := fun h L G Q => match h, L with
  | 0, [l1, l2] => PX13_outParams_8 J l1 l2 G Q
  | _, _ => False
def BX13_outList (J : JT) : JT := fun h L G Q => match h, L with
  | 0, [l1, l2, l3, l4, l5] => PX13_outList_3 J l1 l2 l3 l4 l5 G Q
  | _, _ => False
def BX13_outMember (J : JT) : JT := fun h L G Q => match h, L with
  | 0, [l1, l2, l3] => PX13_outMember_64 J l1 l2 l3 G Q
  | _, _ => False
def BX13_askField (J : JT) : JT := fun h L G Q => match h, L with
  | 0, [l1, l2, l3, l4, l5, l6] => PX13_askField_30 J l1 l2 l3 l4 l5 l6 G Q
  | _, _ => False
def BX13_askMaker (J : JT) : JT := fun h L G Q => match h, L with
  | 0, [l1, l2, l3] => PX13_askMaker_17 J l1 l2 l3 G Q
  | _, _ => False
def BX13_askClass (J : JT) : JT := fun h L G Q => match h, L with
  | 0, [l1, l2, l3, l4, l5, l6, l7] => PX13_askClass_187 J l1 l2 l3 l4 l5 l6 l7 G Q
  | _, _ => False
def BX13_linkWith (R : JT) (J : JT) : JT := fun h L G Q => match h, L with
  | 0, [l1, l2, l3, l4] => PX13_linkWith_25 R J l1 l2 l3 l4 G Q
  | 1, [l1, l2, l3, l4, l5] => PX13_linkWith_94 R J l1 l2 l3 l4 l5 G Q
  | _, _ => False
def BX13_meet (J : JT) : JT := fun h L G Q => match h, L with
  | 0, [l1, l2, l3, l4, l5, l6] => PX13_meet_57 J l1 l2 l3 l4 l5 l6 G Q
  | _, _ => False
def BX13_broken (J : JT) : JT := fun h L G Q => match h, L with
  | 0, [l1] => PX13_broken_7 J l1 G Q
  | 1, [l1, l2, l3] => PX13_broken_21 J l1 l2 l3 G Q
  | _, _ => False
def BX13_isBroken (J : JT) : JT := fun h L G Q => match h, L with
  | 0, [l1] => PX13_isBroken_2 J l1 G Q
  | 1, [l1, l2, l3] => PX13_isBroken_16 J l1 l2 l3 G Q
  | _, _ => False
def BX13_choose (J : JT) : JT := fun h L G Q => match h, L with
  | 0, [l1] => PX13_choose_2 J l1 G Q
  | 1, [l1, l2] => PX13_choose_43 J l1 l2 G Q
  | 2, [l1, l2, l3] => PX13_choose_49 J l1 l2 l3 G Q
  | 3, [l1, l2, l3] => PX13_choose_118 J l1 l2 l3 G Q
  | 4, [l1, l2, l3] => PX13_choose_180 J l1 l2 l3 G Q
  | _, _ => False
def BX13_alongBridge (R : JT) (J : JT) : JT := fun h L G Q => match h, L with
  | 0, [l1, l2, l3, l4, l5] => PX13_alongBridge_9 R J l1 l2 l3 l4 l5 G Q
  | _, _ => False
def BX13_eval (R : JT) (J : JT) : JT := fun h L G Q => match h, L with
  | 0, [l1, l2, l3, l4, l5, l6] => PX13_eval_14 R J l1 l2 l3 l4 l5 l6 G Q
  | _, _ => False
def BX13_evalArgs (R : JT) (J : JT) : JT := fun h L G Q => match h, L with
  | 0, [l1, l2, l3, l4, l5, l6] => PX13_evalArgs_9 R J l1 l2 l3 l4 l5 l6 G Q
  | _, _ => False
def BX13_exec (R : JT) (J : JT) : JT := fun h L G Q => match h, L with
  | 0, [l1, l2, l3, l4, l5] => PX13_exec_76 R J l1 l2 l3 l4 l5 G Q
  | 1, [l1, l2, l3, l4] => PX13_exec_215 R J l1 l2 l3 l4 G Q
  | _, _ => False
def BX13_runMaker (R : JT) (J : JT) : JT := fun h L G Q => match h, L with
  | 0, [l1, l2, l3, l4, l5, l6] => PX13_runMaker_118 R J l1 l2 l3 l4 l5 l6 G Q
  | 1, [l1, l2, l3, l4, l5, l6] => PX13_runMaker_223 R J l1 l2 l3 l4 l5 l6 G Q
  | _, _ => False
def BX13_startFaces (R : JT) (J : JT) : JT := fun h L G Q => match h, L with
  | 0, [l1, l2, l3] => PX13_startFaces_25 R J l1 l2 l3 G Q
  | _, _ => False
def BX13_startSelf (R : JT) (J : JT) : JT := fun h L G Q => match h, L with
  | 0, [l1, l2] => PX13_startSelf_2 R J l1 l2 G Q
  | 1, [l1, l2] => PX13_startSelf_57 R J l1 l2 G Q
  | _, _ => False
def BX13_weight (J : JT) : JT := fun h L G Q => match h, L with
  | 0, [l0, l1] => PX13_weight_22 J l0 l1 G Q
  | _, _ => False
def BX13_word (J : JT) : JT := fun h L G Q => match h, L with
  | 0, [l1, l2, l3, l4, l5, l6, l7, l8] => PX13_word_69 J l1 l2 l3 l4 l5 l6 l7 l8 G Q
  | _, _ => False
end LP
