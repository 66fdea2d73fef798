def zC : List vw_C := [(RX0, TX0, 17), (RX1, TX1, 18), (RX2, TX2, 10), (RX3, TX3, 7), (RX4, TX4, 4), (RX5, TX5, 20), (RX6, TX6, 20), (RX7, TX7, 19), (RX8, TX8, 12), (RX9, TX9, 15), (RX10, TX10, 21), (RX11, TX11, 20), (RX12, TX12, 21), (RX13, TX13, 180)]
def zT : List FieldType := [.int, .long, .byte, .boolean, .object "LinkHouse$Row", .object "LinkHouse$Member", .object "LinkHouse$Build", .object "LinkHouse$Node", .array .int]
def zV (b : Nat) (e : Nat → Value) (D : va_G) (A : Nat → ClassId) (X : State → Prop) : rx_V := (b, e, D, zC, A, zT, X, lw_tbl.filter goodWord)
section ZW
variable {b : Nat} {e : Nat → Value} {D : va_G} {A : Nat → ClassId} {X : State → Prop}
theorem z_e {w : Cond} (h : w ∈ lw_tbl) (hg : goodWord w = true) : w ∈ eW (zV b e D A X) := List.mem_filter.mpr ⟨h, hg⟩
theorem zw0 : Cond.selects RX12 yX12_gather yX12_gather ∈ eW (zV b e D A X) := z_e zx0 rfl
theorem zw1 : Cond.selects RX12 yX12_buildOf yX12_buildOf ∈ eW (zV b e D A X) := z_e zx1 rfl
theorem zw2 : Cond.selects RX12 yX12_allBuilt yX12_allBuilt ∈ eW (zV b e D A X) := z_e zx2 rfl
theorem zw3 : Cond.selects RX11 yX11_bars yX11_bars ∈ eW (zV b e D A X) := z_e zx3 rfl
theorem zw4 : Cond.selects RX11 yX11_close yX11_close ∈ eW (zV b e D A X) := z_e zx4 rfl
theorem zw5 : Cond.selects RX12 yX12_fourBytes yX12_fourBytes ∈ eW (zV b e D A X) := z_e zx5 rfl
theorem zw6 : Cond.selects RX12 yX12_unused yX12_unused ∈ eW (zV b e D A X) := z_e zx6 rfl
theorem zw7 : Cond.selects RX12 yX12_isFull yX12_isFull ∈ eW (zV b e D A X) := z_e zx7 rfl
theorem zw8 : Cond.selects RX9 yX9_scanAll yX9_scanAll ∈ eW (zV b e D A X) := z_e zx8 rfl
theorem zw9 : Cond.selects RX9 yX9_scan yX9_scan ∈ eW (zV b e D A X) := z_e zx9 rfl
theorem zw10 : Cond.selects RX9 yX9_scanName yX9_scanName ∈ eW (zV b e D A X) := z_e zx10 rfl
theorem zw11 : Cond.selects RX9 yX9_scanNumber yX9_scanNumber ∈ eW (zV b e D A X) := z_e zx11 rfl
theorem zw12 : Cond.selects RX9 yX9_now yX9_now ∈ eW (zV b e D A X) := z_e zx12 rfl
theorem zw13 : Cond.selects RX9 yX9_readHead yX9_readHead ∈ eW (zV b e D A X) := z_e zx13 rfl
theorem zw14 : Cond.selects RX9 yX9_take yX9_take ∈ eW (zV b e D A X) := z_e zx14 rfl
theorem zw15 : Cond.selects RX9 yX9_stop yX9_stop ∈ eW (zV b e D A X) := z_e zx15 rfl
theorem zw16 : Cond.selects RX9 yX9_miss yX9_miss ∈ eW (zV b e D A X) := z_e zx16 rfl
theorem zw17 : Cond.selects RX9 yX9_readParents yX9_readParents ∈ eW (zV b e D A X) := z_e zx17 rfl
theorem zw18 : Cond.selects RX9 yX9_readList yX9_readList ∈ eW (zV b e D A X) := z_e zx18 rfl
theorem zw19 : Cond.selects RX9 yX9_need yX9_need ∈ eW (zV b e D A X) := z_e zx19 rfl
theorem zw20 : Cond.selects RX9 yX9_readMember yX9_readMember ∈ eW (zV b e D A X) := z_e zx20 rfl
theorem zw21 : Cond.selects RX9 yX9_readParams yX9_readParams ∈ eW (zV b e D A X) := z_e zx21 rfl
theorem zw22 : Cond.selects RX9 yX9_readTyped yX9_readTyped ∈ eW (zV b e D A X) := z_e zx22 rfl
theorem zw23 : Cond.selects RX9 yX9_readBody yX9_readBody ∈ eW (zV b e D A X) := z_e zx23 rfl
theorem zw24 : Cond.selects RX9 yX9_block yX9_block ∈ eW (zV b e D A X) := z_e zx24 rfl
theorem zw25 : Cond.selects RX9 yX9_node yX9_node ∈ eW (zV b e D A X) := z_e zx25 rfl
theorem zw26 : Cond.selects RX9 yX9_statement yX9_statement ∈ eW (zV b e D A X) := z_e zx26 rfl
theorem zw27 : Cond.selects RX9 yX9_behind yX9_behind ∈ eW (zV b e D A X) := z_e zx27 rfl
theorem zw28 : Cond.selects RX9 yX9_args yX9_args ∈ eW (zV b e D A X) := z_e zx28 rfl
theorem zw29 : Cond.selects RX9 yX9_expr yX9_expr ∈ eW (zV b e D A X) := z_e zx29 rfl
theorem zw30 : Cond.selects RX9 yX9_chain yX9_chain ∈ eW (zV b e D A X) := z_e zx30 rfl
theorem zw31 : Cond.selects RX9 yX9_unit yX9_unit ∈ eW (zV b e D A X) := z_e zx31 rfl
theorem zw32 : Cond.selects RX9 yX9_front yX9_front ∈ eW (zV b e D A X) := z_e zx32 rfl
theorem zw33 : Cond.selects RX9 yX9_ofClass yX9_ofClass ∈ eW (zV b e D A X) := z_e zx33 rfl
theorem zw34 : Cond.selects RX9 yX9_superCall yX9_superCall ∈ eW (zV b e D A X) := z_e zx34 rfl
theorem zw35 : Cond.selects RX9 yX9_round yX9_round ∈ eW (zV b e D A X) := z_e zx35 rfl
theorem zw36 : Cond.selects RX9 yX9_behindUnit yX9_behindUnit ∈ eW (zV b e D A X) := z_e zx36 rfl
theorem zw37 : Cond.selects RX9 yX9_simple yX9_simple ∈ eW (zV b e D A X) := z_e zx37 rfl
theorem zw38 : Cond.selects RX9 yX9_worded yX9_worded ∈ eW (zV b e D A X) := z_e zx38 rfl
theorem zw39 : Cond.selects RX9 yX9_tested yX9_tested ∈ eW (zV b e D A X) := z_e zx39 rfl
theorem zw40 : Cond.selects RX9 yX9_tried yX9_tried ∈ eW (zV b e D A X) := z_e zx40 rfl
theorem zw41 : Cond.selects RX12 yX12_faulted yX12_faulted ∈ eW (zV b e D A X) := z_e zx41 rfl
theorem zw42 : Cond.selects RX4 yX4_head yX4_head ∈ eW (zV b e D A X) := z_e zx42 rfl
theorem zw43 : Cond.selects RX4 yX4_fail yX4_fail ∈ eW (zV b e D A X) := z_e zx43 rfl
theorem zw44 : Cond.selects RX4 yX4_barred yX4_barred ∈ eW (zV b e D A X) := z_e zx44 rfl
theorem zw45 : Cond.selects RX4 yX4_within yX4_within ∈ eW (zV b e D A X) := z_e zx45 rfl
theorem zw46 : Cond.selects RX4 yX4_items yX4_items ∈ eW (zV b e D A X) := z_e zx46 rfl
theorem zw47 : Cond.selects RX4 yX4_types yX4_types ∈ eW (zV b e D A X) := z_e zx47 rfl
theorem zw48 : Cond.selects RX4 yX4_isType yX4_isType ∈ eW (zV b e D A X) := z_e zx48 rfl
theorem zw49 : Cond.selects RX4 yX4_twice yX4_twice ∈ eW (zV b e D A X) := z_e zx49 rfl
theorem zw50 : Cond.selects RX4 yX4_above yX4_above ∈ eW (zV b e D A X) := z_e zx50 rfl
theorem zw51 : Cond.selects RX4 yX4_aboveIn yX4_aboveIn ∈ eW (zV b e D A X) := z_e zx51 rfl
theorem zw52 : Cond.selects RX4 yX4_against yX4_against ∈ eW (zV b e D A X) := z_e zx52 rfl
theorem zw53 : Cond.selects RX4 yX4_impliedMaker yX4_impliedMaker ∈ eW (zV b e D A X) := z_e zx53 rfl
theorem zw54 : Cond.selects RX4 yX4_bridges yX4_bridges ∈ eW (zV b e D A X) := z_e zx54 rfl
theorem zw55 : Cond.selects RX4 yX4_bridge yX4_bridge ∈ eW (zV b e D A X) := z_e zx55 rfl
theorem zw56 : Cond.selects RX4 yX4_whole yX4_whole ∈ eW (zV b e D A X) := z_e zx56 rfl
theorem zw57 : Cond.selects RX4 yX4_owed yX4_owed ∈ eW (zV b e D A X) := z_e zx57 rfl
theorem zw58 : Cond.selects RX0 yX0_constants yX0_constants ∈ eW (zV b e D A X) := z_e zx58 rfl
theorem zw59 : Cond.selects RX0 yX0_fold yX0_fold ∈ eW (zV b e D A X) := z_e zx59 rfl
theorem zw60 : Cond.selects RX0 yX0_foldField yX0_foldField ∈ eW (zV b e D A X) := z_e zx60 rfl
theorem zw61 : Cond.selects RX0 yX0_foldCompare yX0_foldCompare ∈ eW (zV b e D A X) := z_e zx61 rfl
theorem zw62 : Cond.selects RX0 yX0_foldChain yX0_foldChain ∈ eW (zV b e D A X) := z_e zx62 rfl
theorem zw63 : Cond.selects RX0 yX0_body yX0_body ∈ eW (zV b e D A X) := z_e zx63 rfl
theorem zw64 : Cond.selects RX0 yX0_expr yX0_expr ∈ eW (zV b e D A X) := z_e zx64 rfl
theorem zw65 : Cond.selects RX0 yX0_fail yX0_fail ∈ eW (zV b e D A X) := z_e zx65 rfl
theorem zw66 : Cond.selects RX0 yX0_isLocal yX0_isLocal ∈ eW (zV b e D A X) := z_e zx66 rfl
theorem zw67 : Cond.selects RX0 yX0_localOf yX0_localOf ∈ eW (zV b e D A X) := z_e zx67 rfl
theorem zw68 : Cond.selects RX0 yX0_field yX0_field ∈ eW (zV b e D A X) := z_e zx68 rfl
theorem zw69 : Cond.selects RX0 yX0_statics yX0_statics ∈ eW (zV b e D A X) := z_e zx69 rfl
theorem zw70 : Cond.selects RX0 yX0_exprs yX0_exprs ∈ eW (zV b e D A X) := z_e zx70 rfl
theorem zw71 : Cond.selects RX0 yX0_meant yX0_meant ∈ eW (zV b e D A X) := z_e zx71 rfl
theorem zw72 : Cond.selects RX0 yX0_whereLooked yX0_whereLooked ∈ eW (zV b e D A X) := z_e zx72 rfl
theorem zw73 : Cond.selects RX0 yX0_consider yX0_consider ∈ eW (zV b e D A X) := z_e zx73 rfl
theorem zw74 : Cond.selects RX0 yX0_calls yX0_calls ∈ eW (zV b e D A X) := z_e zx74 rfl
theorem zw75 : Cond.selects RX0 yX0_named yX0_named ∈ eW (zV b e D A X) := z_e zx75 rfl
theorem zw76 : Cond.selects RX0 yX0_superCall yX0_superCall ∈ eW (zV b e D A X) := z_e zx76 rfl
theorem zw77 : Cond.selects RX0 yX0_made yX0_made ∈ eW (zV b e D A X) := z_e zx77 rfl
theorem zw78 : Cond.selects RX0 yX0_isObject yX0_isObject ∈ eW (zV b e D A X) := z_e zx78 rfl
theorem zw79 : Cond.selects RX0 yX0_unit yX0_unit ∈ eW (zV b e D A X) := z_e zx79 rfl
theorem zw80 : Cond.selects RX0 yX0_behind yX0_behind ∈ eW (zV b e D A X) := z_e zx80 rfl
theorem zw81 : Cond.selects RX0 yX0_chain yX0_chain ∈ eW (zV b e D A X) := z_e zx81 rfl
theorem zw82 : Cond.selects RX0 yX0_wanted yX0_wanted ∈ eW (zV b e D A X) := z_e zx82 rfl
theorem zw83 : Cond.selects RX0 yX0_compare yX0_compare ∈ eW (zV b e D A X) := z_e zx83 rfl
theorem zw84 : Cond.selects RX0 yX0_local yX0_local ∈ eW (zV b e D A X) := z_e zx84 rfl
theorem zw85 : Cond.selects RX0 yX0_statement yX0_statement ∈ eW (zV b e D A X) := z_e zx85 rfl
theorem zw86 : Cond.selects RX0 yX0_let yX0_let ∈ eW (zV b e D A X) := z_e zx86 rfl
theorem zw87 : Cond.selects RX0 yX0_returned yX0_returned ∈ eW (zV b e D A X) := z_e zx87 rfl
theorem zw88 : Cond.selects RX0 yX0_tried yX0_tried ∈ eW (zV b e D A X) := z_e zx88 rfl
theorem zw89 : Cond.selects RX0 yX0_superMaker yX0_superMaker ∈ eW (zV b e D A X) := z_e zx89 rfl
theorem zw90 : Cond.selects RX0 yX0_put yX0_put ∈ eW (zV b e D A X) := z_e zx90 rfl
theorem zw91 : Cond.selects RX3 yX3_openRow yX3_openRow ∈ eW (zV b e D A X) := z_e zx91 rfl
theorem zw92 : Cond.selects RX3 yX3_useOf yX3_useOf ∈ eW (zV b e D A X) := z_e zx92 rfl
theorem zw93 : Cond.selects RX3 yX3_field yX3_field ∈ eW (zV b e D A X) := z_e zx93 rfl
theorem zw94 : Cond.selects RX3 yX3_expr yX3_expr ∈ eW (zV b e D A X) := z_e zx94 rfl
theorem zw95 : Cond.selects RX3 yX3_got yX3_got ∈ eW (zV b e D A X) := z_e zx95 rfl
theorem zw96 : Cond.selects RX3 yX3_args yX3_args ∈ eW (zV b e D A X) := z_e zx96 rfl
theorem zw97 : Cond.selects RX3 yX3_unit yX3_unit ∈ eW (zV b e D A X) := z_e zx97 rfl
theorem zw98 : Cond.selects RX3 yX3_callSort yX3_callSort ∈ eW (zV b e D A X) := z_e zx98 rfl
theorem zw99 : Cond.selects RX3 yX3_chain yX3_chain ∈ eW (zV b e D A X) := z_e zx99 rfl
theorem zw100 : Cond.selects RX3 yX3_call yX3_call ∈ eW (zV b e D A X) := z_e zx100 rfl
theorem zw101 : Cond.selects RX3 yX3_openStart yX3_openStart ∈ eW (zV b e D A X) := z_e zx101 rfl
theorem zw102 : Cond.selects RX3 yX3_maker yX3_maker ∈ eW (zV b e D A X) := z_e zx102 rfl
theorem zw103 : Cond.selects RX3 yX3_statement yX3_statement ∈ eW (zV b e D A X) := z_e zx103 rfl
theorem zw104 : Cond.selects RX3 yX3_branch yX3_branch ∈ eW (zV b e D A X) := z_e zx104 rfl
theorem zw105 : Cond.selects RX3 yX3_loop yX3_loop ∈ eW (zV b e D A X) := z_e zx105 rfl
theorem zw106 : Cond.selects RX3 yX3_tried yX3_tried ∈ eW (zV b e D A X) := z_e zx106 rfl
theorem zw107 : Cond.selects RX3 yX3_put yX3_put ∈ eW (zV b e D A X) := z_e zx107 rfl
theorem zw108 : Cond.selects RX3 yX3_body yX3_body ∈ eW (zV b e D A X) := z_e zx108 rfl
theorem zw109 : Cond.selects RX3 yX3_bridge yX3_bridge ∈ eW (zV b e D A X) := z_e zx109 rfl
theorem zw110 : Cond.selects RX3 yX3_closeRow yX3_closeRow ∈ eW (zV b e D A X) := z_e zx110 rfl
theorem zw111 : Cond.selects RX12 yX12_keep yX12_keep ∈ eW (zV b e D A X) := z_e zx111 rfl
theorem zw112 : Cond.selects RX12 yX12_renewWorld yX12_renewWorld ∈ eW (zV b e D A X) := z_e zx112 rfl
theorem zw113 : Cond.selects RX12 yX12_rowOf yX12_rowOf ∈ eW (zV b e D A X) := z_e zx113 rfl
theorem zw114 : Cond.selects RX12 yX12_tellHead yX12_tellHead ∈ eW (zV b e D A X) := z_e zx114 rfl
theorem zw115 : Cond.selects RX12 yX12_tellText yX12_tellText ∈ eW (zV b e D A X) := z_e zx115 rfl
theorem zw116 : Cond.selects RX12 yX12_tellByte yX12_tellByte ∈ eW (zV b e D A X) := z_e zx116 rfl
theorem zw117 : Cond.selects RX12 yX12_tellType yX12_tellType ∈ eW (zV b e D A X) := z_e zx117 rfl
theorem zw118 : Cond.selects RX12 yX12_tellLetters yX12_tellLetters ∈ eW (zV b e D A X) := z_e zx118 rfl
theorem zw119 : Cond.selects RX12 yX12_tellList yX12_tellList ∈ eW (zV b e D A X) := z_e zx119 rfl
theorem zw120 : Cond.selects RX12 yX12_tellMember yX12_tellMember ∈ eW (zV b e D A X) := z_e zx120 rfl
theorem zw121 : Cond.selects RX12 yX12_tellParams yX12_tellParams ∈ eW (zV b e D A X) := z_e zx121 rfl
theorem zw122 : Cond.selects RX12 yX12_tellName yX12_tellName ∈ eW (zV b e D A X) := z_e zx122 rfl
theorem zw123 : Cond.selects RX12 yX12_tellNumber yX12_tellNumber ∈ eW (zV b e D A X) := z_e zx123 rfl
theorem zw124 : Cond.selects RX12 yX12_tellUsed yX12_tellUsed ∈ eW (zV b e D A X) := z_e zx124 rfl
theorem zw125 : Cond.selects RX12 yX12_whereUsed yX12_whereUsed ∈ eW (zV b e D A X) := z_e zx125 rfl
theorem zw126 : Cond.selects RX5 yX5_askCopy yX5_askCopy ∈ eW (zV b e D A X) := z_e zx126 rfl
theorem zw127 : Cond.selects RX5 yX5_openLoad yX5_openLoad ∈ eW (zV b e D A X) := z_e zx127 rfl
theorem zw128 : Cond.selects RX5 yX5_askFit yX5_askFit ∈ eW (zV b e D A X) := z_e zx128 rfl
theorem zw129 : Cond.selects RX5 yX5_askCatch yX5_askCatch ∈ eW (zV b e D A X) := z_e zx129 rfl
theorem zw130 : Cond.selects RX5 yX5_askMember yX5_askMember ∈ eW (zV b e D A X) := z_e zx130 rfl
theorem zw131 : Cond.selects RX5 yX5_isLet yX5_isLet ∈ eW (zV b e D A X) := z_e zx131 rfl
theorem zw132 : Cond.selects RX5 yX5_askField yX5_askField ∈ eW (zV b e D A X) := z_e zx132 rfl
theorem zw133 : Cond.selects RX5 yX5_askMethod yX5_askMethod ∈ eW (zV b e D A X) := z_e zx133 rfl
theorem zw134 : Cond.selects RX5 yX5_resolve yX5_resolve ∈ eW (zV b e D A X) := z_e zx134 rfl
theorem zw135 : Cond.selects RX5 yX5_askSuper yX5_askSuper ∈ eW (zV b e D A X) := z_e zx135 rfl
theorem zw136 : Cond.selects RX12 yX12_countBroken yX12_countBroken ∈ eW (zV b e D A X) := z_e zx136 rfl
theorem zw137 : Cond.selects RX12 yX12_list yX12_list ∈ eW (zV b e D A X) := z_e zx137 rfl
theorem zw138 : Cond.selects RX12 yX12_greatest yX12_greatest ∈ eW (zV b e D A X) := z_e zx138 rfl
theorem zw139 : Cond.selects RX12 yX12_lowerTrial yX12_lowerTrial ∈ eW (zV b e D A X) := z_e zx139 rfl
theorem zw140 : Cond.selects RX2 yX2_note yX2_note ∈ eW (zV b e D A X) := z_e zx140 rfl
theorem zw141 : Cond.selects RX2 yX2_heads yX2_heads ∈ eW (zV b e D A X) := z_e zx141 rfl
theorem zw142 : Cond.selects RX2 yX2_turned yX2_turned ∈ eW (zV b e D A X) := z_e zx142 rfl
theorem zw143 : Cond.selects RX2 yX2_faces yX2_faces ∈ eW (zV b e D A X) := z_e zx143 rfl
theorem zw144 : Cond.selects RX2 yX2_only yX2_only ∈ eW (zV b e D A X) := z_e zx144 rfl
theorem zw145 : Cond.selects RX2 yX2_fields yX2_fields ∈ eW (zV b e D A X) := z_e zx145 rfl
theorem zw146 : Cond.selects RX2 yX2_field yX2_field ∈ eW (zV b e D A X) := z_e zx146 rfl
theorem zw147 : Cond.selects RX2 yX2_access yX2_access ∈ eW (zV b e D A X) := z_e zx147 rfl
theorem zw148 : Cond.selects RX2 yX2_methods yX2_methods ∈ eW (zV b e D A X) := z_e zx148 rfl
theorem zw149 : Cond.selects RX2 yX2_method yX2_method ∈ eW (zV b e D A X) := z_e zx149 rfl
theorem zw150 : Cond.selects RX2 yX2_sameBlocks yX2_sameBlocks ∈ eW (zV b e D A X) := z_e zx150 rfl
theorem zw151 : Cond.selects RX2 yX2_sameTokens yX2_sameTokens ∈ eW (zV b e D A X) := z_e zx151 rfl
theorem zw152 : Cond.selects RX2 yX2_makers yX2_makers ∈ eW (zV b e D A X) := z_e zx152 rfl
theorem zw153 : Cond.selects RX2 yX2_sameStarts yX2_sameStarts ∈ eW (zV b e D A X) := z_e zx153 rfl
theorem zw154 : Cond.selects RX12 yX12_healing yX12_healing ∈ eW (zV b e D A X) := z_e zx154 rfl
theorem zw155 : Cond.selects RX6 yX6_ready yX6_ready ∈ eW (zV b e D A X) := z_e zx155 rfl
theorem zw156 : Cond.selects RX5 yX5_linkOwn yX5_linkOwn ∈ eW (zV b e D A X) := z_e zx156 rfl
theorem zw157 : Cond.selects RX6 yX6_openFrame yX6_openFrame ∈ eW (zV b e D A X) := z_e zx157 rfl
theorem zw158 : Cond.selects RX6 yX6_nextStart yX6_nextStart ∈ eW (zV b e D A X) := z_e zx158 rfl
theorem zw159 : Cond.selects RX6 yX6_startedFace yX6_startedFace ∈ eW (zV b e D A X) := z_e zx159 rfl
theorem zw160 : Cond.selects RX6 yX6_plainOne yX6_plainOne ∈ eW (zV b e D A X) := z_e zx160 rfl
theorem zw161 : Cond.selects RX6 yX6_push yX6_push ∈ eW (zV b e D A X) := z_e zx161 rfl
theorem zw162 : Cond.selects RX6 yX6_pop yX6_pop ∈ eW (zV b e D A X) := z_e zx162 rfl
theorem zw163 : Cond.selects RX6 yX6_peek yX6_peek ∈ eW (zV b e D A X) := z_e zx163 rfl
theorem zw164 : Cond.selects RX6 yX6_goOne yX6_goOne ∈ eW (zV b e D A X) := z_e zx164 rfl
theorem zw165 : Cond.selects RX6 yX6_throwOne yX6_throwOne ∈ eW (zV b e D A X) := z_e zx165 rfl
theorem zw166 : Cond.selects RX6 yX6_close yX6_close ∈ eW (zV b e D A X) := z_e zx166 rfl
theorem zw167 : Cond.selects RX6 yX6_fieldOne yX6_fieldOne ∈ eW (zV b e D A X) := z_e zx167 rfl
theorem zw168 : Cond.selects RX6 yX6_staticOne yX6_staticOne ∈ eW (zV b e D A X) := z_e zx168 rfl
theorem zw169 : Cond.selects RX6 yX6_giveBack yX6_giveBack ∈ eW (zV b e D A X) := z_e zx169 rfl
theorem zw170 : Cond.selects RX6 yX6_useOne yX6_useOne ∈ eW (zV b e D A X) := z_e zx170 rfl
theorem zw171 : Cond.selects RX6 yX6_newOne yX6_newOne ∈ eW (zV b e D A X) := z_e zx171 rfl
theorem zw172 : Cond.selects RX6 yX6_isOne yX6_isOne ∈ eW (zV b e D A X) := z_e zx172 rfl
theorem zw173 : Cond.selects RX6 yX6_makerOne yX6_makerOne ∈ eW (zV b e D A X) := z_e zx173 rfl
theorem zw174 : Cond.selects RX6 yX6_selectOne yX6_selectOne ∈ eW (zV b e D A X) := z_e zx174 rfl
theorem zw175 : Cond.selects RX13 yX13_four yX13_four ∈ eW (zV b e D A X) := z_e zx175 rfl
theorem zw176 : Cond.selects RX13 yX13_isLib yX13_isLib ∈ eW (zV b e D A X) := z_e zx176 rfl
theorem zw177 : Cond.selects RX13 yX13_tokenize yX13_tokenize ∈ eW (zV b e D A X) := z_e zx177 rfl
theorem zw178 : Cond.selects RX13 yX13_byteAt yX13_byteAt ∈ eW (zV b e D A X) := z_e zx178 rfl
theorem zw179 : Cond.selects RX13 yX13_tokenAt yX13_tokenAt ∈ eW (zV b e D A X) := z_e zx179 rfl
theorem zw180 : Cond.selects RX13 yX13_wordEnd yX13_wordEnd ∈ eW (zV b e D A X) := z_e zx180 rfl
theorem zw181 : Cond.selects RX13 yX13_isWord yX13_isWord ∈ eW (zV b e D A X) := z_e zx181 rfl
theorem zw182 : Cond.selects RX13 yX13_parse yX13_parse ∈ eW (zV b e D A X) := z_e zx182 rfl
theorem zw183 : Cond.selects RX13 yX13_kindAt yX13_kindAt ∈ eW (zV b e D A X) := z_e zx183 rfl
theorem zw184 : Cond.selects RX13 yX13_klass yX13_klass ∈ eW (zV b e D A X) := z_e zx184 rfl
theorem zw185 : Cond.selects RX13 yX13_takesWord yX13_takesWord ∈ eW (zV b e D A X) := z_e zx185 rfl
theorem zw186 : Cond.selects RX13 yX13_isWordAt yX13_isWordAt ∈ eW (zV b e D A X) := z_e zx186 rfl
theorem zw187 : Cond.selects RX13 yX13_nameAt yX13_nameAt ∈ eW (zV b e D A X) := z_e zx187 rfl
theorem zw188 : Cond.selects RX13 yX13_step yX13_step ∈ eW (zV b e D A X) := z_e zx188 rfl
theorem zw189 : Cond.selects RX13 yX13_placeAt yX13_placeAt ∈ eW (zV b e D A X) := z_e zx189 rfl
theorem zw190 : Cond.selects RX13 yX13_fault yX13_fault ∈ eW (zV b e D A X) := z_e zx190 rfl
theorem zw191 : Cond.selects RX13 yX13_wantWord yX13_wantWord ∈ eW (zV b e D A X) := z_e zx191 rfl
theorem zw192 : Cond.selects RX13 yX13_wrong yX13_wrong ∈ eW (zV b e D A X) := z_e zx192 rfl
theorem zw193 : Cond.selects RX13 yX13_want yX13_want ∈ eW (zV b e D A X) := z_e zx193 rfl
theorem zw194 : Cond.selects RX13 yX13_list yX13_list ∈ eW (zV b e D A X) := z_e zx194 rfl
theorem zw195 : Cond.selects RX13 yX13_isSign yX13_isSign ∈ eW (zV b e D A X) := z_e zx195 rfl
theorem zw196 : Cond.selects RX13 yX13_wantSign yX13_wantSign ∈ eW (zV b e D A X) := z_e zx196 rfl
theorem zw197 : Cond.selects RX13 yX13_member yX13_member ∈ eW (zV b e D A X) := z_e zx197 rfl
theorem zw198 : Cond.selects RX13 yX13_beginsMember yX13_beginsMember ∈ eW (zV b e D A X) := z_e zx198 rfl
theorem zw199 : Cond.selects RX13 yX13_newMember yX13_newMember ∈ eW (zV b e D A X) := z_e zx199 rfl
theorem zw200 : Cond.selects RX13 yX13_params yX13_params ∈ eW (zV b e D A X) := z_e zx200 rfl
theorem zw201 : Cond.selects RX13 yX13_typeToken yX13_typeToken ∈ eW (zV b e D A X) := z_e zx201 rfl
theorem zw202 : Cond.selects RX13 yX13_body yX13_body ∈ eW (zV b e D A X) := z_e zx202 rfl
theorem zw203 : Cond.selects RX13 yX13_statement yX13_statement ∈ eW (zV b e D A X) := z_e zx203 rfl
theorem zw204 : Cond.selects RX13 yX13_beginsS yX13_beginsS ∈ eW (zV b e D A X) := z_e zx204 rfl
theorem zw205 : Cond.selects RX13 yX13_beginsE yX13_beginsE ∈ eW (zV b e D A X) := z_e zx205 rfl
theorem zw206 : Cond.selects RX13 yX13_statementWithin yX13_statementWithin ∈ eW (zV b e D A X) := z_e zx206 rfl
theorem zw207 : Cond.selects RX13 yX13_block yX13_block ∈ eW (zV b e D A X) := z_e zx207 rfl
theorem zw208 : Cond.selects RX13 yX13_node yX13_node ∈ eW (zV b e D A X) := z_e zx208 rfl
theorem zw209 : Cond.selects RX13 yX13_expression yX13_expression ∈ eW (zV b e D A X) := z_e zx209 rfl
theorem zw210 : Cond.selects RX13 yX13_sum yX13_sum ∈ eW (zV b e D A X) := z_e zx210 rfl
theorem zw211 : Cond.selects RX13 yX13_product yX13_product ∈ eW (zV b e D A X) := z_e zx211 rfl
theorem zw212 : Cond.selects RX13 yX13_unit yX13_unit ∈ eW (zV b e D A X) := z_e zx212 rfl
theorem zw213 : Cond.selects RX13 yX13_first yX13_first ∈ eW (zV b e D A X) := z_e zx213 rfl
theorem zw214 : Cond.selects RX13 yX13_arguments yX13_arguments ∈ eW (zV b e D A X) := z_e zx214 rfl
theorem zw215 : Cond.selects RX13 yX13_ofClass yX13_ofClass ∈ eW (zV b e D A X) := z_e zx215 rfl
theorem zw216 : Cond.selects RX13 yX13_inBrackets yX13_inBrackets ∈ eW (zV b e D A X) := z_e zx216 rfl
theorem zw217 : Cond.selects RX13 yX13_tryOf yX13_tryOf ∈ eW (zV b e D A X) := z_e zx217 rfl
theorem zw218 : Cond.selects RX13 yX13_blockOnly yX13_blockOnly ∈ eW (zV b e D A X) := z_e zx218 rfl
theorem zw219 : Cond.selects RX13 yX13_isSignNext yX13_isSignNext ∈ eW (zV b e D A X) := z_e zx219 rfl
theorem zw220 : Cond.selects RX13 yX13_fieldOrMethod yX13_fieldOrMethod ∈ eW (zV b e D A X) := z_e zx220 rfl
theorem zw221 : Cond.selects RX13 yX13_effects yX13_effects ∈ eW (zV b e D A X) := z_e zx221 rfl
theorem zw222 : Cond.selects RX13 yX13_judgeAll yX13_judgeAll ∈ eW (zV b e D A X) := z_e zx222 rfl
theorem zw223 : Cond.selects RX13 yX13_heads yX13_heads ∈ eW (zV b e D A X) := z_e zx223 rfl
theorem zw224 : Cond.selects RX13 yX13_head yX13_head ∈ eW (zV b e D A X) := z_e zx224 rfl
theorem zw225 : Cond.selects RX13 yX13_inSlot yX13_inSlot ∈ eW (zV b e D A X) := z_e zx225 rfl
theorem zw226 : Cond.selects RX13 yX13_find yX13_find ∈ eW (zV b e D A X) := z_e zx226 rfl
theorem zw227 : Cond.selects RX13 yX13_isFace yX13_isFace ∈ eW (zV b e D A X) := z_e zx227 rfl
theorem zw228 : Cond.selects RX13 yX13_letsBelow yX13_letsBelow ∈ eW (zV b e D A X) := z_e zx228 rfl
theorem zw229 : Cond.selects RX13 yX13_isLet yX13_isLet ∈ eW (zV b e D A X) := z_e zx229 rfl
theorem zw230 : Cond.selects RX13 yX13_onePackage yX13_onePackage ∈ eW (zV b e D A X) := z_e zx230 rfl
theorem zw231 : Cond.selects RX13 yX13_isHeir yX13_isHeir ∈ eW (zV b e D A X) := z_e zx231 rfl
theorem zw232 : Cond.selects RX13 yX13_newStamp yX13_newStamp ∈ eW (zV b e D A X) := z_e zx232 rfl
theorem zw233 : Cond.selects RX13 yX13_parent yX13_parent ∈ eW (zV b e D A X) := z_e zx233 rfl
theorem zw234 : Cond.selects RX13 yX13_membersOf yX13_membersOf ∈ eW (zV b e D A X) := z_e zx234 rfl
theorem zw235 : Cond.selects RX13 yX13_isWrongInFace yX13_isWrongInFace ∈ eW (zV b e D A X) := z_e zx235 rfl
theorem zw236 : Cond.selects RX13 yX13_isWrongInClass yX13_isWrongInClass ∈ eW (zV b e D A X) := z_e zx236 rfl
theorem zw237 : Cond.selects RX13 yX13_type yX13_type ∈ eW (zV b e D A X) := z_e zx237 rfl
theorem zw238 : Cond.selects RX13 yX13_sameParams yX13_sameParams ∈ eW (zV b e D A X) := z_e zx238 rfl
theorem zw239 : Cond.selects RX13 yX13_againstAbove yX13_againstAbove ∈ eW (zV b e D A X) := z_e zx239 rfl
theorem zw240 : Cond.selects RX13 yX13_findAbove yX13_findAbove ∈ eW (zV b e D A X) := z_e zx240 rfl
theorem zw241 : Cond.selects RX13 yX13_classOfMember yX13_classOfMember ∈ eW (zV b e D A X) := z_e zx241 rfl
theorem zw242 : Cond.selects RX13 yX13_parents yX13_parents ∈ eW (zV b e D A X) := z_e zx242 rfl
theorem zw243 : Cond.selects RX13 yX13_aboveIn yX13_aboveIn ∈ eW (zV b e D A X) := z_e zx243 rfl
theorem zw244 : Cond.selects RX13 yX13_allFaces yX13_allFaces ∈ eW (zV b e D A X) := z_e zx244 rfl
theorem zw245 : Cond.selects RX13 yX13_isAgainst yX13_isAgainst ∈ eW (zV b e D A X) := z_e zx245 rfl
theorem zw246 : Cond.selects RX13 yX13_fits yX13_fits ∈ eW (zV b e D A X) := z_e zx246 rfl
theorem zw247 : Cond.selects RX13 yX13_makersAndBridges yX13_makersAndBridges ∈ eW (zV b e D A X) := z_e zx247 rfl
theorem zw248 : Cond.selects RX13 yX13_bridges yX13_bridges ∈ eW (zV b e D A X) := z_e zx248 rfl
theorem zw249 : Cond.selects RX13 yX13_isFree yX13_isFree ∈ eW (zV b e D A X) := z_e zx249 rfl
theorem zw250 : Cond.selects RX13 yX13_hasBridge yX13_hasBridge ∈ eW (zV b e D A X) := z_e zx250 rfl
theorem zw251 : Cond.selects RX13 yX13_sameSign yX13_sameSign ∈ eW (zV b e D A X) := z_e zx251 rfl
theorem zw252 : Cond.selects RX13 yX13_bridge yX13_bridge ∈ eW (zV b e D A X) := z_e zx252 rfl
theorem zw253 : Cond.selects RX13 yX13_lacking yX13_lacking ∈ eW (zV b e D A X) := z_e zx253 rfl
theorem zw254 : Cond.selects RX13 yX13_lackingOf yX13_lackingOf ∈ eW (zV b e D A X) := z_e zx254 rfl
theorem zw255 : Cond.selects RX13 yX13_selected yX13_selected ∈ eW (zV b e D A X) := z_e zx255 rfl
theorem zw256 : Cond.selects RX13 yX13_ownMethod yX13_ownMethod ∈ eW (zV b e D A X) := z_e zx256 rfl
theorem zw257 : Cond.selects RX13 yX13_overrides yX13_overrides ∈ eW (zV b e D A X) := z_e zx257 rfl
theorem zw258 : Cond.selects RX13 yX13_mostSpecial yX13_mostSpecial ∈ eW (zV b e D A X) := z_e zx258 rfl
theorem zw259 : Cond.selects RX13 yX13_constants yX13_constants ∈ eW (zV b e D A X) := z_e zx259 rfl
theorem zw260 : Cond.selects RX13 yX13_folded yX13_folded ∈ eW (zV b e D A X) := z_e zx260 rfl
theorem zw261 : Cond.selects RX13 yX13_knownConstant yX13_knownConstant ∈ eW (zV b e D A X) := z_e zx261 rfl
theorem zw262 : Cond.selects RX13 yX13_theField yX13_theField ∈ eW (zV b e D A X) := z_e zx262 rfl
theorem zw263 : Cond.selects RX13 yX13_ownField yX13_ownField ∈ eW (zV b e D A X) := z_e zx263 rfl
theorem zw264 : Cond.selects RX13 yX13_isLetMember yX13_isLetMember ∈ eW (zV b e D A X) := z_e zx264 rfl
theorem zw265 : Cond.selects RX13 yX13_nestsAreOne yX13_nestsAreOne ∈ eW (zV b e D A X) := z_e zx265 rfl
theorem zw266 : Cond.selects RX13 yX13_nest yX13_nest ∈ eW (zV b e D A X) := z_e zx266 rfl
theorem zw267 : Cond.selects RX13 yX13_load yX13_load ∈ eW (zV b e D A X) := z_e zx267 rfl
theorem zw268 : Cond.selects RX13 yX13_stateOf yX13_stateOf ∈ eW (zV b e D A X) := z_e zx268 rfl
theorem zw269 : Cond.selects RX13 yX13_becomes yX13_becomes ∈ eW (zV b e D A X) := z_e zx269 rfl
theorem zw270 : Cond.selects RX13 yX13_event yX13_event ∈ eW (zV b e D A X) := z_e zx270 rfl
theorem zw271 : Cond.selects RX13 yX13_loadAbove yX13_loadAbove ∈ eW (zV b e D A X) := z_e zx271 rfl
theorem zw272 : Cond.selects RX13 yX13_bodies yX13_bodies ∈ eW (zV b e D A X) := z_e zx272 rfl
theorem zw273 : Cond.selects RX13 yX13_bodyOf yX13_bodyOf ∈ eW (zV b e D A X) := z_e zx273 rfl
theorem zw274 : Cond.selects RX13 yX13_judge yX13_judge ∈ eW (zV b e D A X) := z_e zx274 rfl
theorem zw275 : Cond.selects RX13 yX13_leaf yX13_leaf ∈ eW (zV b e D A X) := z_e zx275 rfl
theorem zw276 : Cond.selects RX13 yX13_nameAlone yX13_nameAlone ∈ eW (zV b e D A X) := z_e zx276 rfl
theorem zw277 : Cond.selects RX13 yX13_field yX13_field ∈ eW (zV b e D A X) := z_e zx277 rfl
theorem zw278 : Cond.selects RX13 yX13_args yX13_args ∈ eW (zV b e D A X) := z_e zx278 rfl
theorem zw279 : Cond.selects RX13 yX13_call yX13_call ∈ eW (zV b e D A X) := z_e zx279 rfl
theorem zw280 : Cond.selects RX13 yX13_meant yX13_meant ∈ eW (zV b e D A X) := z_e zx280 rfl
theorem zw281 : Cond.selects RX13 yX13_candidatesIn yX13_candidatesIn ∈ eW (zV b e D A X) := z_e zx281 rfl
theorem zw282 : Cond.selects RX13 yX13_takesArgs yX13_takesArgs ∈ eW (zV b e D A X) := z_e zx282 rfl
theorem zw283 : Cond.selects RX13 yX13_best yX13_best ∈ eW (zV b e D A X) := z_e zx283 rfl
theorem zw284 : Cond.selects RX13 yX13_means yX13_means ∈ eW (zV b e D A X) := z_e zx284 rfl
theorem zw285 : Cond.selects RX13 yX13_keepParams yX13_keepParams ∈ eW (zV b e D A X) := z_e zx285 rfl
theorem zw286 : Cond.selects RX13 yX13_leafOfMore yX13_leafOfMore ∈ eW (zV b e D A X) := z_e zx286 rfl
theorem zw287 : Cond.selects RX13 yX13_superCall yX13_superCall ∈ eW (zV b e D A X) := z_e zx287 rfl
theorem zw288 : Cond.selects RX13 yX13_meantMaker yX13_meantMaker ∈ eW (zV b e D A X) := z_e zx288 rfl
theorem zw289 : Cond.selects RX13 yX13_overLeft yX13_overLeft ∈ eW (zV b e D A X) := z_e zx289 rfl
theorem zw290 : Cond.selects RX13 yX13_dot yX13_dot ∈ eW (zV b e D A X) := z_e zx290 rfl
theorem zw291 : Cond.selects RX13 yX13_two yX13_two ∈ eW (zV b e D A X) := z_e zx291 rfl
theorem zw292 : Cond.selects RX13 yX13_wanted yX13_wanted ∈ eW (zV b e D A X) := z_e zx292 rfl
theorem zw293 : Cond.selects RX13 yX13_local yX13_local ∈ eW (zV b e D A X) := z_e zx293 rfl
theorem zw294 : Cond.selects RX13 yX13_beginsBySuper yX13_beginsBySuper ∈ eW (zV b e D A X) := z_e zx294 rfl
theorem zw295 : Cond.selects RX13 yX13_judgeS yX13_judgeS ∈ eW (zV b e D A X) := z_e zx295 rfl
theorem zw296 : Cond.selects RX13 yX13_judgeOther yX13_judgeOther ∈ eW (zV b e D A X) := z_e zx296 rfl
theorem zw297 : Cond.selects RX13 yX13_judgeReturn yX13_judgeReturn ∈ eW (zV b e D A X) := z_e zx297 rfl
theorem zw298 : Cond.selects RX13 yX13_judgePut yX13_judgePut ∈ eW (zV b e D A X) := z_e zx298 rfl
theorem zw299 : Cond.selects RX13 yX13_canEnd yX13_canEnd ∈ eW (zV b e D A X) := z_e zx299 rfl
theorem zw300 : Cond.selects RX13 yX13_usesOfAll yX13_usesOfAll ∈ eW (zV b e D A X) := z_e zx300 rfl
theorem zw301 : Cond.selects RX13 yX13_usesOf yX13_usesOf ∈ eW (zV b e D A X) := z_e zx301 rfl
theorem zw302 : Cond.selects RX13 yX13_useFor yX13_useFor ∈ eW (zV b e D A X) := z_e zx302 rfl
theorem zw303 : Cond.selects RX13 yX13_nextUse yX13_nextUse ∈ eW (zV b e D A X) := z_e zx303 rfl
theorem zw304 : Cond.selects RX13 yX13_keepUse yX13_keepUse ∈ eW (zV b e D A X) := z_e zx304 rfl
theorem zw305 : Cond.selects RX13 yX13_bridgeUse yX13_bridgeUse ∈ eW (zV b e D A X) := z_e zx305 rfl
theorem zw306 : Cond.selects RX13 yX13_copies yX13_copies ∈ eW (zV b e D A X) := z_e zx306 rfl
theorem zw307 : Cond.selects RX13 yX13_copyOf yX13_copyOf ∈ eW (zV b e D A X) := z_e zx307 rfl
theorem zw308 : Cond.selects RX13 yX13_usesE yX13_usesE ∈ eW (zV b e D A X) := z_e zx308 rfl
theorem zw309 : Cond.selects RX13 yX13_usesLeaf yX13_usesLeaf ∈ eW (zV b e D A X) := z_e zx309 rfl
theorem zw310 : Cond.selects RX13 yX13_fieldUse yX13_fieldUse ∈ eW (zV b e D A X) := z_e zx310 rfl
theorem zw311 : Cond.selects RX13 yX13_usesArgs yX13_usesArgs ∈ eW (zV b e D A X) := z_e zx311 rfl
theorem zw312 : Cond.selects RX13 yX13_fit yX13_fit ∈ eW (zV b e D A X) := z_e zx312 rfl
theorem zw313 : Cond.selects RX13 yX13_callUse yX13_callUse ∈ eW (zV b e D A X) := z_e zx313 rfl
theorem zw314 : Cond.selects RX13 yX13_useOf yX13_useOf ∈ eW (zV b e D A X) := z_e zx314 rfl
theorem zw315 : Cond.selects RX13 yX13_usesS yX13_usesS ∈ eW (zV b e D A X) := z_e zx315 rfl
theorem zw316 : Cond.selects RX13 yX13_usesPut yX13_usesPut ∈ eW (zV b e D A X) := z_e zx316 rfl
theorem zw317 : Cond.selects RX13 yX13_slotAt yX13_slotAt ∈ eW (zV b e D A X) := z_e zx317 rfl
theorem zw318 : Cond.selects RX13 yX13_buildOf yX13_buildOf ∈ eW (zV b e D A X) := z_e zx318 rfl
theorem zw319 : Cond.selects RX13 yX13_settle yX13_settle ∈ eW (zV b e D A X) := z_e zx319 rfl
theorem zw320 : Cond.selects RX13 yX13_numberWorld yX13_numberWorld ∈ eW (zV b e D A X) := z_e zx320 rfl
theorem zw321 : Cond.selects RX13 yX13_intoWorld yX13_intoWorld ∈ eW (zV b e D A X) := z_e zx321 rfl
theorem zw322 : Cond.selects RX13 yX13_clearSet yX13_clearSet ∈ eW (zV b e D A X) := z_e zx322 rfl
theorem zw323 : Cond.selects RX13 yX13_classAt yX13_classAt ∈ eW (zV b e D A X) := z_e zx323 rfl
theorem zw324 : Cond.selects RX13 yX13_memberMany yX13_memberMany ∈ eW (zV b e D A X) := z_e zx324 rfl
theorem zw325 : Cond.selects RX13 yX13_memberAt yX13_memberAt ∈ eW (zV b e D A X) := z_e zx325 rfl
theorem zw326 : Cond.selects RX13 yX13_outWord yX13_outWord ∈ eW (zV b e D A X) := z_e zx326 rfl
theorem zw327 : Cond.selects RX13 yX13_outByte yX13_outByte ∈ eW (zV b e D A X) := z_e zx327 rfl
theorem zw328 : Cond.selects RX13 yX13_outName yX13_outName ∈ eW (zV b e D A X) := z_e zx328 rfl
theorem zw329 : Cond.selects RX13 yX13_outList yX13_outList ∈ eW (zV b e D A X) := z_e zx329 rfl
theorem zw330 : Cond.selects RX13 yX13_outType yX13_outType ∈ eW (zV b e D A X) := z_e zx330 rfl
theorem zw331 : Cond.selects RX13 yX13_outParams yX13_outParams ∈ eW (zV b e D A X) := z_e zx331 rfl
theorem zw332 : Cond.selects RX13 yX13_outInt yX13_outInt ∈ eW (zV b e D A X) := z_e zx332 rfl
theorem zw333 : Cond.selects RX13 yX13_useAt yX13_useAt ∈ eW (zV b e D A X) := z_e zx333 rfl
theorem zw334 : Cond.selects RX13 yX13_outMember yX13_outMember ∈ eW (zV b e D A X) := z_e zx334 rfl
theorem zw335 : Cond.selects RX13 yX13_stands_ yX13_stands_ ∈ eW (zV b e D A X) := z_e zx335 rfl
theorem zw336 : Cond.selects RX13 yX13_foretell yX13_foretell ∈ eW (zV b e D A X) := z_e zx336 rfl
theorem zw337 : Cond.selects RX13 yX13_ask yX13_ask ∈ eW (zV b e D A X) := z_e zx337 rfl
theorem zw338 : Cond.selects RX13 yX13_isStale yX13_isStale ∈ eW (zV b e D A X) := z_e zx338 rfl
theorem zw339 : Cond.selects RX13 yX13_askFit yX13_askFit ∈ eW (zV b e D A X) := z_e zx339 rfl
theorem zw340 : Cond.selects RX13 yX13_askClass yX13_askClass ∈ eW (zV b e D A X) := z_e zx340 rfl
theorem zw341 : Cond.selects RX13 yX13_askMaker yX13_askMaker ∈ eW (zV b e D A X) := z_e zx341 rfl
theorem zw342 : Cond.selects RX13 yX13_see yX13_see ∈ eW (zV b e D A X) := z_e zx342 rfl
theorem zw343 : Cond.selects RX13 yX13_askField yX13_askField ∈ eW (zV b e D A X) := z_e zx343 rfl
theorem zw344 : Cond.selects RX13 yX13_askMethod yX13_askMethod ∈ eW (zV b e D A X) := z_e zx344 rfl
theorem zw345 : Cond.selects RX13 yX13_methodOf yX13_methodOf ∈ eW (zV b e D A X) := z_e zx345 rfl
theorem zw346 : Cond.selects RX13 yX13_askSuper yX13_askSuper ∈ eW (zV b e D A X) := z_e zx346 rfl
theorem zw347 : Cond.selects RX13 yX13_askCalled yX13_askCalled ∈ eW (zV b e D A X) := z_e zx347 rfl
theorem zw348 : Cond.selects RX13 yX13_askFaceSuper yX13_askFaceSuper ∈ eW (zV b e D A X) := z_e zx348 rfl
theorem zw349 : Cond.selects RX13 yX13_isBroken yX13_isBroken ∈ eW (zV b e D A X) := z_e zx349 rfl
theorem zw350 : Cond.selects RX13 yX13_named yX13_named ∈ eW (zV b e D A X) := z_e zx350 rfl
theorem zw351 : Cond.selects RX13 yX13_start yX13_start ∈ eW (zV b e D A X) := z_e zx351 rfl
theorem zw352 : Cond.selects RX13 yX13_fail yX13_fail ∈ eW (zV b e D A X) := z_e zx352 rfl
theorem zw353 : Cond.selects RX13 yX13_link yX13_link ∈ eW (zV b e D A X) := z_e zx353 rfl
theorem zw354 : Cond.selects RX13 yX13_linkWith yX13_linkWith ∈ eW (zV b e D A X) := z_e zx354 rfl
theorem zw355 : Cond.selects RX13 yX13_overridesFinal yX13_overridesFinal ∈ eW (zV b e D A X) := z_e zx355 rfl
theorem zw356 : Cond.selects RX13 yX13_startFaces yX13_startFaces ∈ eW (zV b e D A X) := z_e zx356 rfl
theorem zw357 : Cond.selects RX13 yX13_pushFaces yX13_pushFaces ∈ eW (zV b e D A X) := z_e zx357 rfl
theorem zw358 : Cond.selects RX13 yX13_hasBody yX13_hasBody ∈ eW (zV b e D A X) := z_e zx358 rfl
theorem zw359 : Cond.selects RX13 yX13_startSelf yX13_startSelf ∈ eW (zV b e D A X) := z_e zx359 rfl
theorem zw360 : Cond.selects RX13 yX13_eval yX13_eval ∈ eW (zV b e D A X) := z_e zx360 rfl
theorem zw361 : Cond.selects RX13 yX13_push yX13_push ∈ eW (zV b e D A X) := z_e zx361 rfl
theorem zw362 : Cond.selects RX13 yX13_evalNode yX13_evalNode ∈ eW (zV b e D A X) := z_e zx362 rfl
theorem zw363 : Cond.selects RX13 yX13_getStatic yX13_getStatic ∈ eW (zV b e D A X) := z_e zx363 rfl
theorem zw364 : Cond.selects RX13 yX13_asks yX13_asks ∈ eW (zV b e D A X) := z_e zx364 rfl
theorem zw365 : Cond.selects RX13 yX13_getOf yX13_getOf ∈ eW (zV b e D A X) := z_e zx365 rfl
theorem zw366 : Cond.selects RX13 yX13_cellOf yX13_cellOf ∈ eW (zV b e D A X) := z_e zx366 rfl
theorem zw367 : Cond.selects RX13 yX13_fieldsOf yX13_fieldsOf ∈ eW (zV b e D A X) := z_e zx367 rfl
theorem zw368 : Cond.selects RX13 yX13_asked yX13_asked ∈ eW (zV b e D A X) := z_e zx368 rfl
theorem zw369 : Cond.selects RX13 yX13_isMade yX13_isMade ∈ eW (zV b e D A X) := z_e zx369 rfl
theorem zw370 : Cond.selects RX13 yX13_cast yX13_cast ∈ eW (zV b e D A X) := z_e zx370 rfl
theorem zw371 : Cond.selects RX13 yX13_beginArgs yX13_beginArgs ∈ eW (zV b e D A X) := z_e zx371 rfl
theorem zw372 : Cond.selects RX13 yX13_evalCall yX13_evalCall ∈ eW (zV b e D A X) := z_e zx372 rfl
theorem zw373 : Cond.selects RX13 yX13_invoke yX13_invoke ∈ eW (zV b e D A X) := z_e zx373 rfl
theorem zw374 : Cond.selects RX13 yX13_steps yX13_steps ∈ eW (zV b e D A X) := z_e zx374 rfl
theorem zw375 : Cond.selects RX13 yX13_alongBridge yX13_alongBridge ∈ eW (zV b e D A X) := z_e zx375 rfl
theorem zw376 : Cond.selects RX13 yX13_callBy yX13_callBy ∈ eW (zV b e D A X) := z_e zx376 rfl
theorem zw377 : Cond.selects RX13 yX13_runMaker yX13_runMaker ∈ eW (zV b e D A X) := z_e zx377 rfl
theorem zw378 : Cond.selects RX13 yX13_exec yX13_exec ∈ eW (zV b e D A X) := z_e zx378 rfl
theorem zw379 : Cond.selects RX13 yX13_caught yX13_caught ∈ eW (zV b e D A X) := z_e zx379 rfl
theorem zw380 : Cond.selects RX13 yX13_execOther yX13_execOther ∈ eW (zV b e D A X) := z_e zx380 rfl
theorem zw381 : Cond.selects RX13 yX13_evalArgs yX13_evalArgs ∈ eW (zV b e D A X) := z_e zx381 rfl
theorem zw382 : Cond.selects RX13 yX13_execPut yX13_execPut ∈ eW (zV b e D A X) := z_e zx382 rfl
theorem zw383 : Cond.selects RX13 yX13_evalNew yX13_evalNew ∈ eW (zV b e D A X) := z_e zx383 rfl
theorem zw384 : Cond.selects RX13 yX13_newObject yX13_newObject ∈ eW (zV b e D A X) := z_e zx384 rfl
theorem zw385 : Cond.selects RX13 yX13_evalTwo yX13_evalTwo ∈ eW (zV b e D A X) := z_e zx385 rfl
theorem zw386 : Cond.selects RX13 yX13_compare yX13_compare ∈ eW (zV b e D A X) := z_e zx386 rfl
theorem zw387 : Cond.selects RX13 yX13_differs yX13_differs ∈ eW (zV b e D A X) := z_e zx387 rfl
theorem zw388 : Cond.selects RX13 yX13_toldPlace yX13_toldPlace ∈ eW (zV b e D A X) := z_e zx388 rfl
theorem zw389 : Cond.selects RX13 yX13_compareHeads yX13_compareHeads ∈ eW (zV b e D A X) := z_e zx389 rfl
theorem zw390 : Cond.selects RX13 yX13_either yX13_either ∈ eW (zV b e D A X) := z_e zx390 rfl
theorem zw391 : Cond.selects RX13 yX13_compareFields yX13_compareFields ∈ eW (zV b e D A X) := z_e zx391 rfl
theorem zw392 : Cond.selects RX13 yX13_eitherOf yX13_eitherOf ∈ eW (zV b e D A X) := z_e zx392 rfl
theorem zw393 : Cond.selects RX13 yX13_accessOf yX13_accessOf ∈ eW (zV b e D A X) := z_e zx393 rfl
theorem zw394 : Cond.selects RX13 yX13_compareMethods yX13_compareMethods ∈ eW (zV b e D A X) := z_e zx394 rfl
theorem zw395 : Cond.selects RX13 yX13_alike yX13_alike ∈ eW (zV b e D A X) := z_e zx395 rfl
theorem zw396 : Cond.selects RX13 yX13_sameTokens yX13_sameTokens ∈ eW (zV b e D A X) := z_e zx396 rfl
theorem zw397 : Cond.selects RX13 yX13_sameToken yX13_sameToken ∈ eW (zV b e D A X) := z_e zx397 rfl
theorem zw398 : Cond.selects RX13 yX13_compareMakers yX13_compareMakers ∈ eW (zV b e D A X) := z_e zx398 rfl
theorem zw399 : Cond.selects RX13 yX13_sameRest yX13_sameRest ∈ eW (zV b e D A X) := z_e zx399 rfl
theorem zw400 : Cond.selects RX13 yX13_rest yX13_rest ∈ eW (zV b e D A X) := z_e zx400 rfl
theorem zw401 : Cond.selects RX13 yX13_isRest yX13_isRest ∈ eW (zV b e D A X) := z_e zx401 rfl
theorem zw402 : Cond.selects RX13 yX13_heal yX13_heal ∈ eW (zV b e D A X) := z_e zx402 rfl
theorem zw403 : Cond.selects RX13 yX13_bridgesOf yX13_bridgesOf ∈ eW (zV b e D A X) := z_e zx403 rfl
theorem zw404 : Cond.selects RX13 yX13_copyBuild yX13_copyBuild ∈ eW (zV b e D A X) := z_e zx404 rfl
theorem zw405 : Cond.selects RX13 yX13_copyClasses yX13_copyClasses ∈ eW (zV b e D A X) := z_e zx405 rfl
theorem zw406 : Cond.selects RX13 yX13_copyMembers yX13_copyMembers ∈ eW (zV b e D A X) := z_e zx406 rfl
theorem zw407 : Cond.selects RX13 yX13_copyNodes yX13_copyNodes ∈ eW (zV b e D A X) := z_e zx407 rfl
theorem zw408 : Cond.selects RX13 yX13_weaveUses yX13_weaveUses ∈ eW (zV b e D A X) := z_e zx408 rfl
theorem zw409 : Cond.selects RX13 yX13_copyUse yX13_copyUse ∈ eW (zV b e D A X) := z_e zx409 rfl
theorem zw410 : Cond.selects RX13 yX13_wordTable yX13_wordTable ∈ eW (zV b e D A X) := z_e zx410 rfl
theorem zw411 : Cond.selects RX13 yX13_given yX13_given ∈ eW (zV b e D A X) := z_e zx411 rfl
theorem zw413 : Cond.initialized RX12 ∈ eW (zV b e D A X) := z_e zx413 rfl
theorem zw414 : Cond.initialized RX9 ∈ eW (zV b e D A X) := z_e zx414 rfl
theorem zw415 : Cond.initialized RX8 ∈ eW (zV b e D A X) := z_e zx415 rfl
theorem zw416 : Cond.initialized RJ0 ∈ eW (zV b e D A X) := z_e zx416 rfl
theorem zw417 : Cond.initialized RJ1 ∈ eW (zV b e D A X) := z_e zx417 rfl
theorem zw418 : Cond.initialized RJ3 ∈ eW (zV b e D A X) := z_e zx418 rfl
theorem zw420 : Cond.initialized RX4 ∈ eW (zV b e D A X) := z_e zx420 rfl
theorem zw421 : Cond.initialized RX0 ∈ eW (zV b e D A X) := z_e zx421 rfl
theorem zw422 : Cond.initialized RX3 ∈ eW (zV b e D A X) := z_e zx422 rfl
theorem zw423 : Cond.initialized RX11 ∈ eW (zV b e D A X) := z_e zx423 rfl
theorem zw424 : Cond.initialized RX1 ∈ eW (zV b e D A X) := z_e zx424 rfl
theorem zw425 : Cond.initialized RX10 ∈ eW (zV b e D A X) := z_e zx425 rfl
theorem zw426 : Cond.initialized RX7 ∈ eW (zV b e D A X) := z_e zx426 rfl
theorem zw427 : Cond.initialized RJ7 ∈ eW (zV b e D A X) := z_e zx427 rfl
theorem zw428 : Cond.initialized RX5 ∈ eW (zV b e D A X) := z_e zx428 rfl
theorem zw429 : Cond.initialized RX2 ∈ eW (zV b e D A X) := z_e zx429 rfl
theorem zw430 : Cond.initialized RX6 ∈ eW (zV b e D A X) := z_e zx430 rfl
theorem zw431 : Cond.initialized RX13 ∈ eW (zV b e D A X) := z_e zx431 rfl
theorem zw432 : Cond.initialized RJ9 ∈ eW (zV b e D A X) := z_e zx432 rfl
theorem zw433 : Cond.initialized RJ10 ∈ eW (zV b e D A X) := z_e zx433 rfl
theorem zw438 : Cond.code yX12_init cX12_init 2 none ∈ eW (zV b e D A X) := z_e zx438 rfl
theorem zw439 : Cond.methodLink RX12 3 Lib.objectInit ∈ eW (zV b e D A X) := z_e zx439 rfl
theorem zw440 : Cond.instanceMethod Lib.objectInit ∈ eW (zV b e D A X) := z_e zx440 rfl
theorem zw441 : Cond.code Lib.objectInit ⟨#[0xb1]⟩ 1 none ∈ eW (zV b e D A X) := z_e zx441 rfl
theorem zw442 : Cond.classLink RX12 16 RX1 ∈ eW (zV b e D A X) := z_e zx442 rfl
theorem zw444 : Cond.classLink RX12 32 RX9 ∈ eW (zV b e D A X) := z_e zx444 rfl
theorem zw445 : Cond.instantiable RX9 15 ∈ eW (zV b e D A X) := z_e zx445 rfl
theorem zw446 : Cond.methodLink RX12 34 yX9_init ∈ eW (zV b e D A X) := z_e zx446 rfl
theorem zw447 : Cond.instanceMethod yX9_init ∈ eW (zV b e D A X) := z_e zx447 rfl
theorem zw448 : Cond.code yX9_init cX9_init 5 none ∈ eW (zV b e D A X) := z_e zx448 rfl
theorem zw449 : Cond.methodLink RX9 3 Lib.objectInit ∈ eW (zV b e D A X) := z_e zx449 rfl
theorem zw450 : Cond.classLink RX9 28 RX8 ∈ eW (zV b e D A X) := z_e zx450 rfl
theorem zw452 : Cond.instantiable RX8 12 ∈ eW (zV b e D A X) := z_e zx452 rfl
theorem zw454 : Cond.instanceMethod yX8_init ∈ eW (zV b e D A X) := z_e zx454 rfl
theorem zw455 : Cond.code yX8_init cX8_init 1 none ∈ eW (zV b e D A X) := z_e zx455 rfl
theorem zw456 : Cond.methodLink RX8 3 Lib.objectInit ∈ eW (zV b e D A X) := z_e zx456 rfl
theorem zw457 : Cond.fieldLink RX8 9 "LinkHouse$Node" "kind" "I" ∈ eW (zV b e D A X) := z_e zx457 rfl
theorem zw458 : Cond.fieldLink RX0 144 "LinkHouse$Node" "kind" "I" ∈ eW (zV b e D A X) := z_e zx458 rfl
theorem zw459 : Cond.fieldLink RX3 188 "LinkHouse$Node" "kind" "I" ∈ eW (zV b e D A X) := z_e zx459 rfl
theorem zw460 : Cond.fieldLink RX9 295 "LinkHouse$Node" "kind" "I" ∈ eW (zV b e D A X) := z_e zx460 rfl
theorem zw461 : Cond.fieldLink RX8 15 "LinkHouse$Node" "first" "I" ∈ eW (zV b e D A X) := z_e zx461 rfl
theorem zw462 : Cond.fieldLink RX0 162 "LinkHouse$Node" "first" "I" ∈ eW (zV b e D A X) := z_e zx462 rfl
theorem zw463 : Cond.fieldLink RX9 319 "LinkHouse$Node" "first" "I" ∈ eW (zV b e D A X) := z_e zx463 rfl
theorem zw464 : Cond.fieldLink RX8 18 "LinkHouse$Node" "tok" "I" ∈ eW (zV b e D A X) := z_e zx464 rfl
theorem zw465 : Cond.fieldLink RX0 168 "LinkHouse$Node" "tok" "I" ∈ eW (zV b e D A X) := z_e zx465 rfl
theorem zw466 : Cond.fieldLink RX9 311 "LinkHouse$Node" "tok" "I" ∈ eW (zV b e D A X) := z_e zx466 rfl
theorem zw467 : Cond.fieldLink RX8 21 "LinkHouse$Node" "op" "I" ∈ eW (zV b e D A X) := z_e zx467 rfl
theorem zw468 : Cond.fieldLink RX0 188 "LinkHouse$Node" "op" "I" ∈ eW (zV b e D A X) := z_e zx468 rfl
theorem zw469 : Cond.fieldLink RX3 288 "LinkHouse$Node" "op" "I" ∈ eW (zV b e D A X) := z_e zx469 rfl
theorem zw470 : Cond.fieldLink RX9 322 "LinkHouse$Node" "op" "I" ∈ eW (zV b e D A X) := z_e zx470 rfl
theorem zw471 : Cond.fieldLink RX8 24 "LinkHouse$Node" "slot" "I" ∈ eW (zV b e D A X) := z_e zx471 rfl
theorem zw472 : Cond.fieldLink RX3 246 "LinkHouse$Node" "slot" "I" ∈ eW (zV b e D A X) := z_e zx472 rfl
theorem zw473 : Cond.fieldLink RX0 280 "LinkHouse$Node" "slot" "I" ∈ eW (zV b e D A X) := z_e zx473 rfl
theorem zw474 : Cond.fieldLink RX8 27 "LinkHouse$Node" "a" "LLinkHouse$Node;" ∈ eW (zV b e D A X) := z_e zx474 rfl
theorem zw475 : Cond.fieldLink RX0 150 "LinkHouse$Node" "a" "LLinkHouse$Node;" ∈ eW (zV b e D A X) := z_e zx475 rfl
theorem zw476 : Cond.fieldLink RX3 185 "LinkHouse$Node" "a" "LLinkHouse$Node;" ∈ eW (zV b e D A X) := z_e zx476 rfl
theorem zw477 : Cond.fieldLink RX9 273 "LinkHouse$Node" "a" "LLinkHouse$Node;" ∈ eW (zV b e D A X) := z_e zx477 rfl
theorem zw478 : Cond.fieldLink RX8 31 "LinkHouse$Node" "b" "LLinkHouse$Node;" ∈ eW (zV b e D A X) := z_e zx478 rfl
theorem zw479 : Cond.fieldLink RX0 185 "LinkHouse$Node" "b" "LLinkHouse$Node;" ∈ eW (zV b e D A X) := z_e zx479 rfl
theorem zw480 : Cond.fieldLink RX3 270 "LinkHouse$Node" "b" "LLinkHouse$Node;" ∈ eW (zV b e D A X) := z_e zx480 rfl
theorem zw481 : Cond.fieldLink RX9 296 "LinkHouse$Node" "b" "LLinkHouse$Node;" ∈ eW (zV b e D A X) := z_e zx481 rfl
theorem zw482 : Cond.fieldLink RX8 34 "LinkHouse$Node" "c" "LLinkHouse$Node;" ∈ eW (zV b e D A X) := z_e zx482 rfl
theorem zw483 : Cond.fieldLink RX3 276 "LinkHouse$Node" "c" "LLinkHouse$Node;" ∈ eW (zV b e D A X) := z_e zx483 rfl
theorem zw484 : Cond.fieldLink RX0 250 "LinkHouse$Node" "c" "LLinkHouse$Node;" ∈ eW (zV b e D A X) := z_e zx484 rfl
theorem zw485 : Cond.fieldLink RX9 308 "LinkHouse$Node" "c" "LLinkHouse$Node;" ∈ eW (zV b e D A X) := z_e zx485 rfl
theorem zw486 : Cond.fieldLink RX8 37 "LinkHouse$Node" "next" "LLinkHouse$Node;" ∈ eW (zV b e D A X) := z_e zx486 rfl
theorem zw487 : Cond.fieldLink RX0 191 "LinkHouse$Node" "next" "LLinkHouse$Node;" ∈ eW (zV b e D A X) := z_e zx487 rfl
theorem zw488 : Cond.fieldLink RX3 196 "LinkHouse$Node" "next" "LLinkHouse$Node;" ∈ eW (zV b e D A X) := z_e zx488 rfl
theorem zw489 : Cond.fieldLink RX9 276 "LinkHouse$Node" "next" "LLinkHouse$Node;" ∈ eW (zV b e D A X) := z_e zx489 rfl
theorem zw490 : Cond.fieldLink RX8 42 "LinkHouse$Node" "type" "J" ∈ eW (zV b e D A X) := z_e zx490 rfl
theorem zw491 : Cond.fieldLink RX3 179 "LinkHouse$Node" "type" "J" ∈ eW (zV b e D A X) := z_e zx491 rfl
theorem zw492 : Cond.fieldLink RX0 245 "LinkHouse$Node" "type" "J" ∈ eW (zV b e D A X) := z_e zx492 rfl
theorem zw493 : Cond.fieldLink RX9 307 "LinkHouse$Node" "type" "J" ∈ eW (zV b e D A X) := z_e zx493 rfl
theorem zw494 : Cond.fieldLink RX8 46 "LinkHouse$Node" "owner" "J" ∈ eW (zV b e D A X) := z_e zx494 rfl
theorem zw495 : Cond.fieldLink RX0 147 "LinkHouse$Node" "owner" "J" ∈ eW (zV b e D A X) := z_e zx495 rfl
theorem zw496 : Cond.fieldLink RX3 279 "LinkHouse$Node" "owner" "J" ∈ eW (zV b e D A X) := z_e zx496 rfl
theorem zw497 : Cond.fieldLink RX9 312 "LinkHouse$Node" "owner" "J" ∈ eW (zV b e D A X) := z_e zx497 rfl
theorem zw498 : Cond.fieldLink RX8 49 "LinkHouse$Node" "member" "LLinkHouse$Member;" ∈ eW (zV b e D A X) := z_e zx498 rfl
theorem zw499 : Cond.fieldLink RX3 191 "LinkHouse$Node" "member" "LLinkHouse$Member;" ∈ eW (zV b e D A X) := z_e zx499 rfl
theorem zw500 : Cond.fieldLink RX0 283 "LinkHouse$Node" "member" "LLinkHouse$Member;" ∈ eW (zV b e D A X) := z_e zx500 rfl
theorem zw526 : Cond.arrayClass .byte ∈ eW (zV b e D A X) := z_e zx526 rfl
theorem zw527 : Cond.arrayClass .int ∈ eW (zV b e D A X) := z_e zx527 rfl
theorem zw528 : Cond.arrayClass .long ∈ eW (zV b e D A X) := z_e zx528 rfl
theorem zw530 : Cond.methodLink RX9 37 yJ0_length_8abf5 ∈ eW (zV b e D A X) := z_e zx530 rfl
theorem zw531 : Cond.instanceMethod yJ0_length_8abf5 ∈ eW (zV b e D A X) := z_e zx531 rfl
theorem zw532 : Cond.selects RJ0 yJ0_length_8abf5 yJ0_length_8abf5 ∈ eW (zV b e D A X) := z_e zx532 rfl
theorem zw533 : Cond.code yJ0_length_8abf5 cJ0_length_8abf5 1 (some .int) ∈ eW (zV b e D A X) := z_e zx533 rfl
theorem zw534 : Cond.methodLink RJ0 335 yJ0_coder_7d493 ∈ eW (zV b e D A X) := z_e zx534 rfl
theorem zw535 : Cond.instanceMethod yJ0_coder_7d493 ∈ eW (zV b e D A X) := z_e zx535 rfl
theorem zw536 : Cond.selects RJ0 yJ0_coder_7d493 yJ0_coder_7d493 ∈ eW (zV b e D A X) := z_e zx536 rfl
theorem zw537 : Cond.code yJ0_coder_7d493 cJ0_coder_7d493 1 (some .byte) ∈ eW (zV b e D A X) := z_e zx537 rfl
theorem zw538 : Cond.fieldLink RJ0 38 "java/lang/String" "COMPACT_STRINGS" "Z" ∈ eW (zV b e D A X) := z_e zx538 rfl
theorem zw540 : Cond.methodLink RX9 43 yJ0_charAt_5068e ∈ eW (zV b e D A X) := z_e zx540 rfl
theorem zw541 : Cond.instanceMethod yJ0_charAt_5068e ∈ eW (zV b e D A X) := z_e zx541 rfl
theorem zw542 : Cond.selects RJ0 yJ0_charAt_5068e yJ0_charAt_5068e ∈ eW (zV b e D A X) := z_e zx542 rfl
theorem zw543 : Cond.code yJ0_charAt_5068e cJ0_charAt_5068e 2 (some .char) ∈ eW (zV b e D A X) := z_e zx543 rfl
theorem zw544 : Cond.methodLink RJ0 492 yJ0_isLatin1_aae02 ∈ eW (zV b e D A X) := z_e zx544 rfl
theorem zw545 : Cond.instanceMethod yJ0_isLatin1_aae02 ∈ eW (zV b e D A X) := z_e zx545 rfl
theorem zw546 : Cond.selects RJ0 yJ0_isLatin1_aae02 yJ0_isLatin1_aae02 ∈ eW (zV b e D A X) := z_e zx546 rfl
theorem zw547 : Cond.code yJ0_isLatin1_aae02 cJ0_isLatin1_aae02 1 (some .boolean) ∈ eW (zV b e D A X) := z_e zx547 rfl
theorem zw548 : Cond.methodLink RJ0 495 yJ1_charAt_3b067 ∈ eW (zV b e D A X) := z_e zx548 rfl
theorem zw549 : Cond.static yJ1_charAt_3b067 ∈ eW (zV b e D A X) := z_e zx549 rfl
theorem zw550 : Cond.code yJ1_charAt_3b067 cJ1_charAt_3b067 2 (some .char) ∈ eW (zV b e D A X) := z_e zx550 rfl
theorem zw551 : Cond.methodLink RJ1 9 yJ0_checkIndex_df160 ∈ eW (zV b e D A X) := z_e zx551 rfl
theorem zw552 : Cond.static yJ0_checkIndex_df160 ∈ eW (zV b e D A X) := z_e zx552 rfl
theorem zw553 : Cond.code yJ0_checkIndex_df160 cJ0_checkIndex_df160 2 none ∈ eW (zV b e D A X) := z_e zx553 rfl
theorem zw554 : Cond.fieldLink RJ0 1053 "jdk/internal/util/Preconditions" "SIOOBE_FORMATTER" "Ljava/util/function/BiFunction;" ∈ eW (zV b e D A X) := z_e zx554 rfl
theorem zw556 : Cond.methodLink RJ0 1059 yJ3_checkIndex_8e157 ∈ eW (zV b e D A X) := z_e zx556 rfl
theorem zw557 : Cond.static yJ3_checkIndex_8e157 ∈ eW (zV b e D A X) := z_e zx557 rfl
theorem zw558 : Cond.code yJ3_checkIndex_8e157 cJ3_checkIndex_8e157 3 (some .int) ∈ eW (zV b e D A X) := z_e zx558 rfl
theorem zw578 : Cond.methodLink RX9 47 yX9_sixBits ∈ eW (zV b e D A X) := z_e zx578 rfl
theorem zw579 : Cond.static yX9_sixBits ∈ eW (zV b e D A X) := z_e zx579 rfl
theorem zw580 : Cond.code yX9_sixBits cX9_sixBits 1 (some .long) ∈ eW (zV b e D A X) := z_e zx580 rfl
theorem zw581 : Cond.fieldLink RX9 9 "LinkHouse$Reader" "words" "[J" ∈ eW (zV b e D A X) := z_e zx581 rfl
theorem zw582 : Cond.fieldLink RX9 15 "LinkHouse$Reader" "kind" "[I" ∈ eW (zV b e D A X) := z_e zx582 rfl
theorem zw583 : Cond.fieldLink RX9 19 "LinkHouse$Reader" "from" "[I" ∈ eW (zV b e D A X) := z_e zx583 rfl
theorem zw584 : Cond.fieldLink RX12 221 "LinkHouse$Reader" "from" "[I" ∈ eW (zV b e D A X) := z_e zx584 rfl
theorem zw585 : Cond.fieldLink RX9 22 "LinkHouse$Reader" "to" "[I" ∈ eW (zV b e D A X) := z_e zx585 rfl
theorem zw586 : Cond.fieldLink RX9 25 "LinkHouse$Reader" "code" "[J" ∈ eW (zV b e D A X) := z_e zx586 rfl
theorem zw587 : Cond.fieldLink RX0 157 "LinkHouse$Reader" "code" "[J" ∈ eW (zV b e D A X) := z_e zx587 rfl
theorem zw588 : Cond.fieldLink RX12 567 "LinkHouse$Reader" "code" "[J" ∈ eW (zV b e D A X) := z_e zx588 rfl
theorem zw589 : Cond.fieldLink RX9 111 "LinkHouse$Reader" "count" "I" ∈ eW (zV b e D A X) := z_e zx589 rfl
theorem zw590 : Cond.fieldLink RX9 105 "LinkHouse$Reader" "text" "[B" ∈ eW (zV b e D A X) := z_e zx590 rfl
theorem zw591 : Cond.fieldLink RX9 109 "LinkHouse$Reader" "length" "I" ∈ eW (zV b e D A X) := z_e zx591 rfl
theorem zw592 : Cond.fieldLink RX9 114 "LinkHouse$Reader" "at" "I" ∈ eW (zV b e D A X) := z_e zx592 rfl
theorem zw593 : Cond.fieldLink RX9 60 "LinkHouse$Reader" "fault" "I" ∈ eW (zV b e D A X) := z_e zx593 rfl
theorem zw594 : Cond.fieldLink RX12 192 "LinkHouse$Reader" "fault" "I" ∈ eW (zV b e D A X) := z_e zx594 rfl
theorem zw595 : Cond.fieldLink RX9 64 "LinkHouse$Reader" "faultToken" "I" ∈ eW (zV b e D A X) := z_e zx595 rfl
theorem zw596 : Cond.fieldLink RX12 195 "LinkHouse$Reader" "faultToken" "I" ∈ eW (zV b e D A X) := z_e zx596 rfl
theorem zw597 : Cond.fieldLink RX9 51 "LinkHouse$Reader" "build" "LLinkHouse$Build;" ∈ eW (zV b e D A X) := z_e zx597 rfl
theorem zw598 : Cond.fieldLink RX9 85 "LinkHouse$Reader" "behindHead" "I" ∈ eW (zV b e D A X) := z_e zx598 rfl
theorem zw599 : Cond.fieldLink RX9 30 "LinkHouse$Reader" "nodes" "[LLinkHouse$Node;" ∈ eW (zV b e D A X) := z_e zx599 rfl
theorem zw600 : Cond.fieldLink RX9 67 "LinkHouse$Reader" "nodeCount" "I" ∈ eW (zV b e D A X) := z_e zx600 rfl
theorem zw632 : Cond.classLink RX12 39 RX4 ∈ eW (zV b e D A X) := z_e zx632 rfl
theorem zw633 : Cond.instantiable RX4 4 ∈ eW (zV b e D A X) := z_e zx633 rfl
theorem zw635 : Cond.instanceMethod yX4_init ∈ eW (zV b e D A X) := z_e zx635 rfl
theorem zw636 : Cond.code yX4_init cX4_init 1 none ∈ eW (zV b e D A X) := z_e zx636 rfl
theorem zw637 : Cond.methodLink RX4 3 Lib.objectInit ∈ eW (zV b e D A X) := z_e zx637 rfl
theorem zw638 : Cond.fieldLink RX4 18 "LinkHouse$Judge" "world" "LLinkHouse$World;" ∈ eW (zV b e D A X) := z_e zx638 rfl
theorem zw639 : Cond.fieldLink RX4 22 "LinkHouse$Judge" "build" "LLinkHouse$Build;" ∈ eW (zV b e D A X) := z_e zx639 rfl
theorem zw640 : Cond.fieldLink RX4 9 "LinkHouse$Judge" "fault" "I" ∈ eW (zV b e D A X) := z_e zx640 rfl
theorem zw641 : Cond.fieldLink RX12 204 "LinkHouse$Judge" "fault" "I" ∈ eW (zV b e D A X) := z_e zx641 rfl
theorem zw642 : Cond.fieldLink RX4 15 "LinkHouse$Judge" "faultToken" "I" ∈ eW (zV b e D A X) := z_e zx642 rfl
theorem zw643 : Cond.fieldLink RX12 205 "LinkHouse$Judge" "faultToken" "I" ∈ eW (zV b e D A X) := z_e zx643 rfl
theorem zw653 : Cond.classLink RX12 46 RX0 ∈ eW (zV b e D A X) := z_e zx653 rfl
theorem zw654 : Cond.instantiable RX0 17 ∈ eW (zV b e D A X) := z_e zx654 rfl
theorem zw656 : Cond.instanceMethod yX0_init ∈ eW (zV b e D A X) := z_e zx656 rfl
theorem zw657 : Cond.code yX0_init cX0_init 1 none ∈ eW (zV b e D A X) := z_e zx657 rfl
theorem zw658 : Cond.methodLink RX0 3 Lib.objectInit ∈ eW (zV b e D A X) := z_e zx658 rfl
theorem zw659 : Cond.classLink RX0 18 RX7 ∈ eW (zV b e D A X) := z_e zx659 rfl
theorem zw661 : Cond.fieldLink RX0 35 "LinkHouse$Bodies" "world" "LLinkHouse$World;" ∈ eW (zV b e D A X) := z_e zx661 rfl
theorem zw662 : Cond.fieldLink RX0 39 "LinkHouse$Bodies" "build" "LLinkHouse$Build;" ∈ eW (zV b e D A X) := z_e zx662 rfl
theorem zw663 : Cond.fieldLink RX0 43 "LinkHouse$Bodies" "reader" "LLinkHouse$Reader;" ∈ eW (zV b e D A X) := z_e zx663 rfl
theorem zw664 : Cond.fieldLink RX0 28 "LinkHouse$Bodies" "fault" "I" ∈ eW (zV b e D A X) := z_e zx664 rfl
theorem zw665 : Cond.fieldLink RX12 209 "LinkHouse$Bodies" "fault" "I" ∈ eW (zV b e D A X) := z_e zx665 rfl
theorem zw666 : Cond.fieldLink RX0 32 "LinkHouse$Bodies" "faultToken" "I" ∈ eW (zV b e D A X) := z_e zx666 rfl
theorem zw667 : Cond.fieldLink RX12 210 "LinkHouse$Bodies" "faultToken" "I" ∈ eW (zV b e D A X) := z_e zx667 rfl
theorem zw668 : Cond.fieldLink RX0 56 "LinkHouse$Bodies" "row" "LLinkHouse$Row;" ∈ eW (zV b e D A X) := z_e zx668 rfl
theorem zw669 : Cond.fieldLink RX0 72 "LinkHouse$Bodies" "self" "I" ∈ eW (zV b e D A X) := z_e zx669 rfl
theorem zw670 : Cond.fieldLink RX0 194 "LinkHouse$Bodies" "member" "LLinkHouse$Member;" ∈ eW (zV b e D A X) := z_e zx670 rfl
theorem zw671 : Cond.fieldLink RX0 198 "LinkHouse$Bodies" "fixed" "Z" ∈ eW (zV b e D A X) := z_e zx671 rfl
theorem zw672 : Cond.fieldLink RX0 9 "LinkHouse$Bodies" "localName" "[J" ∈ eW (zV b e D A X) := z_e zx672 rfl
theorem zw673 : Cond.fieldLink RX0 15 "LinkHouse$Bodies" "localType" "[J" ∈ eW (zV b e D A X) := z_e zx673 rfl
theorem zw674 : Cond.fieldLink RX0 199 "LinkHouse$Bodies" "locals" "I" ∈ eW (zV b e D A X) := z_e zx674 rfl
theorem zw675 : Cond.fieldLink RX0 202 "LinkHouse$Bodies" "localsMost" "I" ∈ eW (zV b e D A X) := z_e zx675 rfl
theorem zw676 : Cond.fieldLink RX0 20 "LinkHouse$Bodies" "candidate" "[LLinkHouse$Member;" ∈ eW (zV b e D A X) := z_e zx676 rfl
theorem zw677 : Cond.fieldLink RX0 350 "LinkHouse$Bodies" "candidates" "I" ∈ eW (zV b e D A X) := z_e zx677 rfl
theorem zw678 : Cond.fieldLink RX0 24 "LinkHouse$Bodies" "places" "[I" ∈ eW (zV b e D A X) := z_e zx678 rfl
theorem zw679 : Cond.fieldLink RX0 138 "LinkHouse$Bodies" "folded" "I" ∈ eW (zV b e D A X) := z_e zx679 rfl
theorem zw715 : Cond.classLink RX12 53 RX3 ∈ eW (zV b e D A X) := z_e zx715 rfl
theorem zw716 : Cond.instantiable RX3 7 ∈ eW (zV b e D A X) := z_e zx716 rfl
theorem zw718 : Cond.instanceMethod yX3_init ∈ eW (zV b e D A X) := z_e zx718 rfl
theorem zw719 : Cond.code yX3_init cX3_init 1 none ∈ eW (zV b e D A X) := z_e zx719 rfl
theorem zw720 : Cond.methodLink RX3 3 Lib.objectInit ∈ eW (zV b e D A X) := z_e zx720 rfl
theorem zw721 : Cond.fieldLink RX3 9 "LinkHouse$Emitter" "world" "LLinkHouse$World;" ∈ eW (zV b e D A X) := z_e zx721 rfl
theorem zw722 : Cond.fieldLink RX3 15 "LinkHouse$Emitter" "build" "LLinkHouse$Build;" ∈ eW (zV b e D A X) := z_e zx722 rfl
theorem zw723 : Cond.fieldLink RX3 36 "LinkHouse$Emitter" "row" "LLinkHouse$Row;" ∈ eW (zV b e D A X) := z_e zx723 rfl
theorem zw724 : Cond.fieldLink RX3 25 "LinkHouse$Emitter" "rowNumber" "I" ∈ eW (zV b e D A X) := z_e zx724 rfl
theorem zw725 : Cond.fieldLink RX3 49 "LinkHouse$Emitter" "member" "LLinkHouse$Member;" ∈ eW (zV b e D A X) := z_e zx725 rfl
theorem zw726 : Cond.fieldLink RX3 113 "LinkHouse$Emitter" "startTail" "I" ∈ eW (zV b e D A X) := z_e zx726 rfl
theorem zw727 : Cond.fieldLink RX3 116 "LinkHouse$Emitter" "fieldTail" "I" ∈ eW (zV b e D A X) := z_e zx727 rfl
theorem zw743 : Cond.classLink RX12 64 RX11 ∈ eW (zV b e D A X) := z_e zx743 rfl
theorem zw744 : Cond.instantiable RX11 20 ∈ eW (zV b e D A X) := z_e zx744 rfl
theorem zw745 : Cond.methodLink RX12 66 yX11_init ∈ eW (zV b e D A X) := z_e zx745 rfl
theorem zw746 : Cond.instanceMethod yX11_init ∈ eW (zV b e D A X) := z_e zx746 rfl
theorem zw747 : Cond.code yX11_init cX11_init 4 none ∈ eW (zV b e D A X) := z_e zx747 rfl
theorem zw748 : Cond.methodLink RX11 3 Lib.objectInit ∈ eW (zV b e D A X) := z_e zx748 rfl
theorem zw749 : Cond.classLink RX11 9 RX10 ∈ eW (zV b e D A X) := z_e zx749 rfl
theorem zw751 : Cond.classLink RX11 55 RX7 ∈ eW (zV b e D A X) := z_e zx751 rfl
theorem zw752 : Cond.classLink RX11 61 RX1 ∈ eW (zV b e D A X) := z_e zx752 rfl
theorem zw753 : Cond.instantiable RX1 18 ∈ eW (zV b e D A X) := z_e zx753 rfl
theorem zw754 : Cond.methodLink RX11 63 yX1_init ∈ eW (zV b e D A X) := z_e zx754 rfl
theorem zw755 : Cond.instanceMethod yX1_init ∈ eW (zV b e D A X) := z_e zx755 rfl
theorem zw756 : Cond.code yX1_init cX1_init 8 none ∈ eW (zV b e D A X) := z_e zx756 rfl
theorem zw757 : Cond.methodLink RX1 3 Lib.objectInit ∈ eW (zV b e D A X) := z_e zx757 rfl
theorem zw758 : Cond.classLink RX1 9 RX10 ∈ eW (zV b e D A X) := z_e zx758 rfl
theorem zw759 : Cond.instantiable RX10 21 ∈ eW (zV b e D A X) := z_e zx759 rfl
theorem zw761 : Cond.instanceMethod yX10_init ∈ eW (zV b e D A X) := z_e zx761 rfl
theorem zw762 : Cond.code yX10_init cX10_init 1 none ∈ eW (zV b e D A X) := z_e zx762 rfl
theorem zw763 : Cond.methodLink RX10 3 Lib.objectInit ∈ eW (zV b e D A X) := z_e zx763 rfl
theorem zw764 : Cond.classLink RX10 19 RX7 ∈ eW (zV b e D A X) := z_e zx764 rfl
theorem zw765 : Cond.fieldLink RX10 28 "LinkHouse$Row" "home" "LLinkHouse$Build;" ∈ eW (zV b e D A X) := z_e zx765 rfl
theorem zw766 : Cond.fieldLink RX6 138 "LinkHouse$Row" "home" "LLinkHouse$Build;" ∈ eW (zV b e D A X) := z_e zx766 rfl
theorem zw767 : Cond.fieldLink RX5 150 "LinkHouse$Row" "home" "LLinkHouse$Build;" ∈ eW (zV b e D A X) := z_e zx767 rfl
theorem zw768 : Cond.fieldLink RX11 76 "LinkHouse$Row" "name" "J" ∈ eW (zV b e D A X) := z_e zx768 rfl
theorem zw769 : Cond.fieldLink RX10 34 "LinkHouse$Row" "name" "J" ∈ eW (zV b e D A X) := z_e zx769 rfl
theorem zw770 : Cond.fieldLink RX2 51 "LinkHouse$Row" "name" "J" ∈ eW (zV b e D A X) := z_e zx770 rfl
theorem zw771 : Cond.fieldLink RX0 60 "LinkHouse$Row" "name" "J" ∈ eW (zV b e D A X) := z_e zx771 rfl
theorem zw772 : Cond.fieldLink RX4 39 "LinkHouse$Row" "name" "J" ∈ eW (zV b e D A X) := z_e zx772 rfl
theorem zw773 : Cond.fieldLink RX1 77 "LinkHouse$Row" "name" "J" ∈ eW (zV b e D A X) := z_e zx773 rfl
theorem zw774 : Cond.fieldLink RX3 210 "LinkHouse$Row" "name" "J" ∈ eW (zV b e D A X) := z_e zx774 rfl
theorem zw775 : Cond.fieldLink RX5 207 "LinkHouse$Row" "name" "J" ∈ eW (zV b e D A X) := z_e zx775 rfl
theorem zw776 : Cond.fieldLink RX9 177 "LinkHouse$Row" "name" "J" ∈ eW (zV b e D A X) := z_e zx776 rfl
theorem zw777 : Cond.fieldLink RX12 280 "LinkHouse$Row" "name" "J" ∈ eW (zV b e D A X) := z_e zx777 rfl
theorem zw778 : Cond.fieldLink RX10 38 "LinkHouse$Row" "tok" "I" ∈ eW (zV b e D A X) := z_e zx778 rfl
theorem zw779 : Cond.fieldLink RX4 55 "LinkHouse$Row" "tok" "I" ∈ eW (zV b e D A X) := z_e zx779 rfl
theorem zw780 : Cond.fieldLink RX0 110 "LinkHouse$Row" "tok" "I" ∈ eW (zV b e D A X) := z_e zx780 rfl
theorem zw781 : Cond.fieldLink RX9 181 "LinkHouse$Row" "tok" "I" ∈ eW (zV b e D A X) := z_e zx781 rfl
theorem zw782 : Cond.fieldLink RX3 311 "LinkHouse$Row" "tok" "I" ∈ eW (zV b e D A X) := z_e zx782 rfl
theorem zw783 : Cond.fieldLink RX11 80 "LinkHouse$Row" "open" "Z" ∈ eW (zV b e D A X) := z_e zx783 rfl
theorem zw784 : Cond.fieldLink RX10 42 "LinkHouse$Row" "open" "Z" ∈ eW (zV b e D A X) := z_e zx784 rfl
theorem zw785 : Cond.fieldLink RX4 111 "LinkHouse$Row" "open" "Z" ∈ eW (zV b e D A X) := z_e zx785 rfl
theorem zw786 : Cond.fieldLink RX2 108 "LinkHouse$Row" "open" "Z" ∈ eW (zV b e D A X) := z_e zx786 rfl
theorem zw787 : Cond.fieldLink RX9 164 "LinkHouse$Row" "open" "Z" ∈ eW (zV b e D A X) := z_e zx787 rfl
theorem zw788 : Cond.fieldLink RX3 314 "LinkHouse$Row" "open" "Z" ∈ eW (zV b e D A X) := z_e zx788 rfl
theorem zw789 : Cond.fieldLink RX12 251 "LinkHouse$Row" "open" "Z" ∈ eW (zV b e D A X) := z_e zx789 rfl
theorem zw790 : Cond.fieldLink RX10 46 "LinkHouse$Row" "face" "Z" ∈ eW (zV b e D A X) := z_e zx790 rfl
theorem zw791 : Cond.fieldLink RX2 72 "LinkHouse$Row" "face" "Z" ∈ eW (zV b e D A X) := z_e zx791 rfl
theorem zw792 : Cond.fieldLink RX4 87 "LinkHouse$Row" "face" "Z" ∈ eW (zV b e D A X) := z_e zx792 rfl
theorem zw793 : Cond.fieldLink RX11 132 "LinkHouse$Row" "face" "Z" ∈ eW (zV b e D A X) := z_e zx793 rfl
theorem zw794 : Cond.fieldLink RX5 103 "LinkHouse$Row" "face" "Z" ∈ eW (zV b e D A X) := z_e zx794 rfl
theorem zw795 : Cond.fieldLink RX3 207 "LinkHouse$Row" "face" "Z" ∈ eW (zV b e D A X) := z_e zx795 rfl
theorem zw796 : Cond.fieldLink RX6 192 "LinkHouse$Row" "face" "Z" ∈ eW (zV b e D A X) := z_e zx796 rfl
theorem zw797 : Cond.fieldLink RX9 168 "LinkHouse$Row" "face" "Z" ∈ eW (zV b e D A X) := z_e zx797 rfl
theorem zw798 : Cond.fieldLink RX12 273 "LinkHouse$Row" "face" "Z" ∈ eW (zV b e D A X) := z_e zx798 rfl
theorem zw799 : Cond.fieldLink RX0 335 "LinkHouse$Row" "face" "Z" ∈ eW (zV b e D A X) := z_e zx799 rfl
theorem zw800 : Cond.fieldLink RX10 49 "LinkHouse$Row" "last" "Z" ∈ eW (zV b e D A X) := z_e zx800 rfl
theorem zw801 : Cond.fieldLink RX4 93 "LinkHouse$Row" "last" "Z" ∈ eW (zV b e D A X) := z_e zx801 rfl
theorem zw802 : Cond.fieldLink RX2 115 "LinkHouse$Row" "last" "Z" ∈ eW (zV b e D A X) := z_e zx802 rfl
theorem zw803 : Cond.fieldLink RX11 159 "LinkHouse$Row" "last" "Z" ∈ eW (zV b e D A X) := z_e zx803 rfl
theorem zw804 : Cond.fieldLink RX9 171 "LinkHouse$Row" "last" "Z" ∈ eW (zV b e D A X) := z_e zx804 rfl
theorem zw805 : Cond.fieldLink RX3 317 "LinkHouse$Row" "last" "Z" ∈ eW (zV b e D A X) := z_e zx805 rfl
theorem zw806 : Cond.fieldLink RX12 263 "LinkHouse$Row" "last" "Z" ∈ eW (zV b e D A X) := z_e zx806 rfl
theorem zw807 : Cond.fieldLink RX10 52 "LinkHouse$Row" "bare" "Z" ∈ eW (zV b e D A X) := z_e zx807 rfl
theorem zw808 : Cond.fieldLink RX2 118 "LinkHouse$Row" "bare" "Z" ∈ eW (zV b e D A X) := z_e zx808 rfl
theorem zw809 : Cond.fieldLink RX4 170 "LinkHouse$Row" "bare" "Z" ∈ eW (zV b e D A X) := z_e zx809 rfl
theorem zw810 : Cond.fieldLink RX5 210 "LinkHouse$Row" "bare" "Z" ∈ eW (zV b e D A X) := z_e zx810 rfl
theorem zw811 : Cond.fieldLink RX9 174 "LinkHouse$Row" "bare" "Z" ∈ eW (zV b e D A X) := z_e zx811 rfl
theorem zw812 : Cond.fieldLink RX3 320 "LinkHouse$Row" "bare" "Z" ∈ eW (zV b e D A X) := z_e zx812 rfl
theorem zw813 : Cond.fieldLink RX12 268 "LinkHouse$Row" "bare" "Z" ∈ eW (zV b e D A X) := z_e zx813 rfl
theorem zw814 : Cond.fieldLink RX0 341 "LinkHouse$Row" "bare" "Z" ∈ eW (zV b e D A X) := z_e zx814 rfl
theorem zw815 : Cond.fieldLink RX11 102 "LinkHouse$Row" "told" "Z" ∈ eW (zV b e D A X) := z_e zx815 rfl
theorem zw816 : Cond.fieldLink RX10 55 "LinkHouse$Row" "told" "Z" ∈ eW (zV b e D A X) := z_e zx816 rfl
theorem zw817 : Cond.fieldLink RX3 122 "LinkHouse$Row" "told" "Z" ∈ eW (zV b e D A X) := z_e zx817 rfl
theorem zw818 : Cond.fieldLink RX4 80 "LinkHouse$Row" "told" "Z" ∈ eW (zV b e D A X) := z_e zx818 rfl
theorem zw819 : Cond.fieldLink RX9 187 "LinkHouse$Row" "told" "Z" ∈ eW (zV b e D A X) := z_e zx819 rfl
theorem zw820 : Cond.fieldLink RX12 288 "LinkHouse$Row" "told" "Z" ∈ eW (zV b e D A X) := z_e zx820 rfl
theorem zw821 : Cond.fieldLink RX11 86 "LinkHouse$Row" "parent" "J" ∈ eW (zV b e D A X) := z_e zx821 rfl
theorem zw822 : Cond.fieldLink RX10 60 "LinkHouse$Row" "parent" "J" ∈ eW (zV b e D A X) := z_e zx822 rfl
theorem zw823 : Cond.fieldLink RX3 125 "LinkHouse$Row" "parent" "J" ∈ eW (zV b e D A X) := z_e zx823 rfl
theorem zw824 : Cond.fieldLink RX4 84 "LinkHouse$Row" "parent" "J" ∈ eW (zV b e D A X) := z_e zx824 rfl
theorem zw825 : Cond.fieldLink RX2 121 "LinkHouse$Row" "parent" "J" ∈ eW (zV b e D A X) := z_e zx825 rfl
theorem zw826 : Cond.fieldLink RX9 190 "LinkHouse$Row" "parent" "J" ∈ eW (zV b e D A X) := z_e zx826 rfl
theorem zw827 : Cond.fieldLink RX0 284 "LinkHouse$Row" "parent" "J" ∈ eW (zV b e D A X) := z_e zx827 rfl
theorem zw828 : Cond.fieldLink RX12 293 "LinkHouse$Row" "parent" "J" ∈ eW (zV b e D A X) := z_e zx828 rfl
theorem zw829 : Cond.fieldLink RX10 63 "LinkHouse$Row" "within" "J" ∈ eW (zV b e D A X) := z_e zx829 rfl
theorem zw830 : Cond.fieldLink RX4 118 "LinkHouse$Row" "within" "J" ∈ eW (zV b e D A X) := z_e zx830 rfl
theorem zw831 : Cond.fieldLink RX11 138 "LinkHouse$Row" "within" "J" ∈ eW (zV b e D A X) := z_e zx831 rfl
theorem zw832 : Cond.fieldLink RX2 135 "LinkHouse$Row" "within" "J" ∈ eW (zV b e D A X) := z_e zx832 rfl
theorem zw833 : Cond.fieldLink RX9 197 "LinkHouse$Row" "within" "J" ∈ eW (zV b e D A X) := z_e zx833 rfl
theorem zw834 : Cond.fieldLink RX3 323 "LinkHouse$Row" "within" "J" ∈ eW (zV b e D A X) := z_e zx834 rfl
theorem zw835 : Cond.fieldLink RX12 302 "LinkHouse$Row" "within" "J" ∈ eW (zV b e D A X) := z_e zx835 rfl
theorem zw836 : Cond.fieldLink RX10 9 "LinkHouse$Row" "listed" "[J" ∈ eW (zV b e D A X) := z_e zx836 rfl
theorem zw837 : Cond.fieldLink RX3 326 "LinkHouse$Row" "listed" "[J" ∈ eW (zV b e D A X) := z_e zx837 rfl
theorem zw838 : Cond.fieldLink RX10 15 "LinkHouse$Row" "counts" "[I" ∈ eW (zV b e D A X) := z_e zx838 rfl
theorem zw839 : Cond.fieldLink RX3 135 "LinkHouse$Row" "counts" "[I" ∈ eW (zV b e D A X) := z_e zx839 rfl
theorem zw840 : Cond.fieldLink RX4 100 "LinkHouse$Row" "counts" "[I" ∈ eW (zV b e D A X) := z_e zx840 rfl
theorem zw841 : Cond.fieldLink RX11 149 "LinkHouse$Row" "counts" "[I" ∈ eW (zV b e D A X) := z_e zx841 rfl
theorem zw842 : Cond.fieldLink RX2 124 "LinkHouse$Row" "counts" "[I" ∈ eW (zV b e D A X) := z_e zx842 rfl
theorem zw843 : Cond.fieldLink RX5 106 "LinkHouse$Row" "counts" "[I" ∈ eW (zV b e D A X) := z_e zx843 rfl
theorem zw844 : Cond.fieldLink RX9 200 "LinkHouse$Row" "counts" "[I" ∈ eW (zV b e D A X) := z_e zx844 rfl
theorem zw845 : Cond.fieldLink RX12 313 "LinkHouse$Row" "counts" "[I" ∈ eW (zV b e D A X) := z_e zx845 rfl
theorem zw846 : Cond.fieldLink RX10 21 "LinkHouse$Row" "items" "[LLinkHouse$Member;" ∈ eW (zV b e D A X) := z_e zx846 rfl
theorem zw847 : Cond.fieldLink RX3 45 "LinkHouse$Row" "items" "[LLinkHouse$Member;" ∈ eW (zV b e D A X) := z_e zx847 rfl
theorem zw848 : Cond.fieldLink RX9 93 "LinkHouse$Row" "items" "[LLinkHouse$Member;" ∈ eW (zV b e D A X) := z_e zx848 rfl
theorem zw849 : Cond.fieldLink RX0 81 "LinkHouse$Row" "items" "[LLinkHouse$Member;" ∈ eW (zV b e D A X) := z_e zx849 rfl
theorem zw850 : Cond.fieldLink RX4 129 "LinkHouse$Row" "items" "[LLinkHouse$Member;" ∈ eW (zV b e D A X) := z_e zx850 rfl
theorem zw851 : Cond.fieldLink RX2 220 "LinkHouse$Row" "items" "[LLinkHouse$Member;" ∈ eW (zV b e D A X) := z_e zx851 rfl
theorem zw852 : Cond.fieldLink RX3 40 "LinkHouse$Row" "itemCount" "I" ∈ eW (zV b e D A X) := z_e zx852 rfl
theorem zw853 : Cond.fieldLink RX10 72 "LinkHouse$Row" "itemCount" "I" ∈ eW (zV b e D A X) := z_e zx853 rfl
theorem zw854 : Cond.fieldLink RX9 88 "LinkHouse$Row" "itemCount" "I" ∈ eW (zV b e D A X) := z_e zx854 rfl
theorem zw855 : Cond.fieldLink RX0 78 "LinkHouse$Row" "itemCount" "I" ∈ eW (zV b e D A X) := z_e zx855 rfl
theorem zw856 : Cond.fieldLink RX4 126 "LinkHouse$Row" "itemCount" "I" ∈ eW (zV b e D A X) := z_e zx856 rfl
theorem zw857 : Cond.fieldLink RX2 217 "LinkHouse$Row" "itemCount" "I" ∈ eW (zV b e D A X) := z_e zx857 rfl
theorem zw858 : Cond.fieldLink RX10 25 "LinkHouse$Row" "members" "[LLinkHouse$Member;" ∈ eW (zV b e D A X) := z_e zx858 rfl
theorem zw859 : Cond.fieldLink RX3 75 "LinkHouse$Row" "members" "[LLinkHouse$Member;" ∈ eW (zV b e D A X) := z_e zx859 rfl
theorem zw860 : Cond.fieldLink RX0 91 "LinkHouse$Row" "members" "[LLinkHouse$Member;" ∈ eW (zV b e D A X) := z_e zx860 rfl
theorem zw861 : Cond.fieldLink RX2 141 "LinkHouse$Row" "members" "[LLinkHouse$Member;" ∈ eW (zV b e D A X) := z_e zx861 rfl
theorem zw862 : Cond.fieldLink RX5 126 "LinkHouse$Row" "members" "[LLinkHouse$Member;" ∈ eW (zV b e D A X) := z_e zx862 rfl
theorem zw863 : Cond.fieldLink RX6 204 "LinkHouse$Row" "members" "[LLinkHouse$Member;" ∈ eW (zV b e D A X) := z_e zx863 rfl
theorem zw864 : Cond.fieldLink RX4 200 "LinkHouse$Row" "members" "[LLinkHouse$Member;" ∈ eW (zV b e D A X) := z_e zx864 rfl
theorem zw865 : Cond.fieldLink RX12 243 "LinkHouse$Row" "members" "[LLinkHouse$Member;" ∈ eW (zV b e D A X) := z_e zx865 rfl
theorem zw866 : Cond.fieldLink RX10 75 "LinkHouse$Row" "memberCount" "I" ∈ eW (zV b e D A X) := z_e zx866 rfl
theorem zw867 : Cond.fieldLink RX3 72 "LinkHouse$Row" "memberCount" "I" ∈ eW (zV b e D A X) := z_e zx867 rfl
theorem zw868 : Cond.fieldLink RX0 88 "LinkHouse$Row" "memberCount" "I" ∈ eW (zV b e D A X) := z_e zx868 rfl
theorem zw869 : Cond.fieldLink RX2 138 "LinkHouse$Row" "memberCount" "I" ∈ eW (zV b e D A X) := z_e zx869 rfl
theorem zw870 : Cond.fieldLink RX5 123 "LinkHouse$Row" "memberCount" "I" ∈ eW (zV b e D A X) := z_e zx870 rfl
theorem zw871 : Cond.fieldLink RX6 201 "LinkHouse$Row" "memberCount" "I" ∈ eW (zV b e D A X) := z_e zx871 rfl
theorem zw872 : Cond.fieldLink RX4 197 "LinkHouse$Row" "memberCount" "I" ∈ eW (zV b e D A X) := z_e zx872 rfl
theorem zw873 : Cond.fieldLink RX12 234 "LinkHouse$Row" "memberCount" "I" ∈ eW (zV b e D A X) := z_e zx873 rfl
theorem zw874 : Cond.fieldLink RX10 78 "LinkHouse$Row" "useFrom" "I" ∈ eW (zV b e D A X) := z_e zx874 rfl
theorem zw875 : Cond.fieldLink RX3 94 "LinkHouse$Row" "useFrom" "I" ∈ eW (zV b e D A X) := z_e zx875 rfl
theorem zw876 : Cond.fieldLink RX5 154 "LinkHouse$Row" "useFrom" "I" ∈ eW (zV b e D A X) := z_e zx876 rfl
theorem zw877 : Cond.fieldLink RX6 186 "LinkHouse$Row" "useFrom" "I" ∈ eW (zV b e D A X) := z_e zx877 rfl
theorem zw878 : Cond.fieldLink RX12 454 "LinkHouse$Row" "useFrom" "I" ∈ eW (zV b e D A X) := z_e zx878 rfl
theorem zw879 : Cond.fieldLink RX5 77 "LinkHouse$Row" "useCount" "I" ∈ eW (zV b e D A X) := z_e zx879 rfl
theorem zw880 : Cond.fieldLink RX10 81 "LinkHouse$Row" "useCount" "I" ∈ eW (zV b e D A X) := z_e zx880 rfl
theorem zw881 : Cond.fieldLink RX3 143 "LinkHouse$Row" "useCount" "I" ∈ eW (zV b e D A X) := z_e zx881 rfl
theorem zw882 : Cond.fieldLink RX12 484 "LinkHouse$Row" "useCount" "I" ∈ eW (zV b e D A X) := z_e zx882 rfl
theorem zw883 : Cond.fieldLink RX10 84 "LinkHouse$Row" "begin" "LLinkHouse$Member;" ∈ eW (zV b e D A X) := z_e zx883 rfl
theorem zw884 : Cond.fieldLink RX3 101 "LinkHouse$Row" "begin" "LLinkHouse$Member;" ∈ eW (zV b e D A X) := z_e zx884 rfl
theorem zw885 : Cond.fieldLink RX6 116 "LinkHouse$Row" "begin" "LLinkHouse$Member;" ∈ eW (zV b e D A X) := z_e zx885 rfl
theorem zw886 : Cond.fieldLink RX10 88 "LinkHouse$Row" "fieldCode" "I" ∈ eW (zV b e D A X) := z_e zx886 rfl
theorem zw887 : Cond.fieldLink RX3 107 "LinkHouse$Row" "fieldCode" "I" ∈ eW (zV b e D A X) := z_e zx887 rfl
theorem zw888 : Cond.fieldLink RX6 243 "LinkHouse$Row" "fieldCode" "I" ∈ eW (zV b e D A X) := z_e zx888 rfl
theorem zw889 : Cond.fieldLink RX11 105 "LinkHouse$Row" "slots" "I" ∈ eW (zV b e D A X) := z_e zx889 rfl
theorem zw890 : Cond.fieldLink RX10 91 "LinkHouse$Row" "slots" "I" ∈ eW (zV b e D A X) := z_e zx890 rfl
theorem zw891 : Cond.fieldLink RX3 110 "LinkHouse$Row" "slots" "I" ∈ eW (zV b e D A X) := z_e zx891 rfl
theorem zw892 : Cond.fieldLink RX6 284 "LinkHouse$Row" "slots" "I" ∈ eW (zV b e D A X) := z_e zx892 rfl
theorem zw936 : Cond.classLink RX1 18 RX7 ∈ eW (zV b e D A X) := z_e zx936 rfl
theorem zw937 : Cond.instantiable RX7 19 ∈ eW (zV b e D A X) := z_e zx937 rfl
theorem zw939 : Cond.instanceMethod yX7_init ∈ eW (zV b e D A X) := z_e zx939 rfl
theorem zw940 : Cond.code yX7_init cX7_init 1 none ∈ eW (zV b e D A X) := z_e zx940 rfl
theorem zw941 : Cond.methodLink RX7 3 Lib.objectInit ∈ eW (zV b e D A X) := z_e zx941 rfl
theorem zw942 : Cond.fieldLink RX7 15 "LinkHouse$Member" "kind" "I" ∈ eW (zV b e D A X) := z_e zx942 rfl
theorem zw943 : Cond.fieldLink RX11 120 "LinkHouse$Member" "kind" "I" ∈ eW (zV b e D A X) := z_e zx943 rfl
theorem zw944 : Cond.fieldLink RX3 53 "LinkHouse$Member" "kind" "I" ∈ eW (zV b e D A X) := z_e zx944 rfl
theorem zw945 : Cond.fieldLink RX0 94 "LinkHouse$Member" "kind" "I" ∈ eW (zV b e D A X) := z_e zx945 rfl
theorem zw946 : Cond.fieldLink RX4 147 "LinkHouse$Member" "kind" "I" ∈ eW (zV b e D A X) := z_e zx946 rfl
theorem zw947 : Cond.fieldLink RX10 98 "LinkHouse$Member" "kind" "I" ∈ eW (zV b e D A X) := z_e zx947 rfl
theorem zw948 : Cond.fieldLink RX2 145 "LinkHouse$Member" "kind" "I" ∈ eW (zV b e D A X) := z_e zx948 rfl
theorem zw949 : Cond.fieldLink RX5 132 "LinkHouse$Member" "kind" "I" ∈ eW (zV b e D A X) := z_e zx949 rfl
theorem zw950 : Cond.fieldLink RX6 208 "LinkHouse$Member" "kind" "I" ∈ eW (zV b e D A X) := z_e zx950 rfl
theorem zw951 : Cond.fieldLink RX9 215 "LinkHouse$Member" "kind" "I" ∈ eW (zV b e D A X) := z_e zx951 rfl
theorem zw952 : Cond.fieldLink RX12 343 "LinkHouse$Member" "kind" "I" ∈ eW (zV b e D A X) := z_e zx952 rfl
theorem zw953 : Cond.fieldLink RX11 109 "LinkHouse$Member" "access" "I" ∈ eW (zV b e D A X) := z_e zx953 rfl
theorem zw954 : Cond.fieldLink RX7 19 "LinkHouse$Member" "access" "I" ∈ eW (zV b e D A X) := z_e zx954 rfl
theorem zw955 : Cond.fieldLink RX4 164 "LinkHouse$Member" "access" "I" ∈ eW (zV b e D A X) := z_e zx955 rfl
theorem zw956 : Cond.fieldLink RX2 171 "LinkHouse$Member" "access" "I" ∈ eW (zV b e D A X) := z_e zx956 rfl
theorem zw957 : Cond.fieldLink RX5 274 "LinkHouse$Member" "access" "I" ∈ eW (zV b e D A X) := z_e zx957 rfl
theorem zw958 : Cond.fieldLink RX9 223 "LinkHouse$Member" "access" "I" ∈ eW (zV b e D A X) := z_e zx958 rfl
theorem zw959 : Cond.fieldLink RX6 300 "LinkHouse$Member" "access" "I" ∈ eW (zV b e D A X) := z_e zx959 rfl
theorem zw960 : Cond.fieldLink RX12 329 "LinkHouse$Member" "access" "I" ∈ eW (zV b e D A X) := z_e zx960 rfl
theorem zw961 : Cond.fieldLink RX7 22 "LinkHouse$Member" "fixed" "Z" ∈ eW (zV b e D A X) := z_e zx961 rfl
theorem zw962 : Cond.fieldLink RX3 119 "LinkHouse$Member" "fixed" "Z" ∈ eW (zV b e D A X) := z_e zx962 rfl
theorem zw963 : Cond.fieldLink RX0 117 "LinkHouse$Member" "fixed" "Z" ∈ eW (zV b e D A X) := z_e zx963 rfl
theorem zw964 : Cond.fieldLink RX4 167 "LinkHouse$Member" "fixed" "Z" ∈ eW (zV b e D A X) := z_e zx964 rfl
theorem zw965 : Cond.fieldLink RX6 173 "LinkHouse$Member" "fixed" "Z" ∈ eW (zV b e D A X) := z_e zx965 rfl
theorem zw966 : Cond.fieldLink RX2 167 "LinkHouse$Member" "fixed" "Z" ∈ eW (zV b e D A X) := z_e zx966 rfl
theorem zw967 : Cond.fieldLink RX11 162 "LinkHouse$Member" "fixed" "Z" ∈ eW (zV b e D A X) := z_e zx967 rfl
theorem zw968 : Cond.fieldLink RX10 115 "LinkHouse$Member" "fixed" "Z" ∈ eW (zV b e D A X) := z_e zx968 rfl
theorem zw969 : Cond.fieldLink RX5 242 "LinkHouse$Member" "fixed" "Z" ∈ eW (zV b e D A X) := z_e zx969 rfl
theorem zw970 : Cond.fieldLink RX9 229 "LinkHouse$Member" "fixed" "Z" ∈ eW (zV b e D A X) := z_e zx970 rfl
theorem zw971 : Cond.fieldLink RX12 336 "LinkHouse$Member" "fixed" "Z" ∈ eW (zV b e D A X) := z_e zx971 rfl
theorem zw972 : Cond.fieldLink RX7 26 "LinkHouse$Member" "last" "Z" ∈ eW (zV b e D A X) := z_e zx972 rfl
theorem zw973 : Cond.fieldLink RX0 120 "LinkHouse$Member" "last" "Z" ∈ eW (zV b e D A X) := z_e zx973 rfl
theorem zw974 : Cond.fieldLink RX4 175 "LinkHouse$Member" "last" "Z" ∈ eW (zV b e D A X) := z_e zx974 rfl
theorem zw975 : Cond.fieldLink RX5 143 "LinkHouse$Member" "last" "Z" ∈ eW (zV b e D A X) := z_e zx975 rfl
theorem zw976 : Cond.fieldLink RX2 170 "LinkHouse$Member" "last" "Z" ∈ eW (zV b e D A X) := z_e zx976 rfl
theorem zw977 : Cond.fieldLink RX9 232 "LinkHouse$Member" "last" "Z" ∈ eW (zV b e D A X) := z_e zx977 rfl
theorem zw978 : Cond.fieldLink RX12 341 "LinkHouse$Member" "last" "Z" ∈ eW (zV b e D A X) := z_e zx978 rfl
theorem zw979 : Cond.fieldLink RX7 29 "LinkHouse$Member" "bare" "Z" ∈ eW (zV b e D A X) := z_e zx979 rfl
theorem zw980 : Cond.fieldLink RX4 158 "LinkHouse$Member" "bare" "Z" ∈ eW (zV b e D A X) := z_e zx980 rfl
theorem zw981 : Cond.fieldLink RX2 193 "LinkHouse$Member" "bare" "Z" ∈ eW (zV b e D A X) := z_e zx981 rfl
theorem zw982 : Cond.fieldLink RX10 114 "LinkHouse$Member" "bare" "Z" ∈ eW (zV b e D A X) := z_e zx982 rfl
theorem zw983 : Cond.fieldLink RX11 187 "LinkHouse$Member" "bare" "Z" ∈ eW (zV b e D A X) := z_e zx983 rfl
theorem zw984 : Cond.fieldLink RX5 265 "LinkHouse$Member" "bare" "Z" ∈ eW (zV b e D A X) := z_e zx984 rfl
theorem zw985 : Cond.fieldLink RX9 233 "LinkHouse$Member" "bare" "Z" ∈ eW (zV b e D A X) := z_e zx985 rfl
theorem zw986 : Cond.fieldLink RX12 342 "LinkHouse$Member" "bare" "Z" ∈ eW (zV b e D A X) := z_e zx986 rfl
theorem zw987 : Cond.fieldLink RX0 338 "LinkHouse$Member" "bare" "Z" ∈ eW (zV b e D A X) := z_e zx987 rfl
theorem zw988 : Cond.fieldLink RX7 32 "LinkHouse$Member" "bridge" "Z" ∈ eW (zV b e D A X) := z_e zx988 rfl
theorem zw989 : Cond.fieldLink RX3 78 "LinkHouse$Member" "bridge" "Z" ∈ eW (zV b e D A X) := z_e zx989 rfl
theorem zw990 : Cond.fieldLink RX10 107 "LinkHouse$Member" "bridge" "Z" ∈ eW (zV b e D A X) := z_e zx990 rfl
theorem zw991 : Cond.fieldLink RX2 183 "LinkHouse$Member" "bridge" "Z" ∈ eW (zV b e D A X) := z_e zx991 rfl
theorem zw992 : Cond.fieldLink RX4 266 "LinkHouse$Member" "bridge" "Z" ∈ eW (zV b e D A X) := z_e zx992 rfl
theorem zw993 : Cond.fieldLink RX12 322 "LinkHouse$Member" "bridge" "Z" ∈ eW (zV b e D A X) := z_e zx993 rfl
theorem zw994 : Cond.fieldLink RX0 353 "LinkHouse$Member" "bridge" "Z" ∈ eW (zV b e D A X) := z_e zx994 rfl
theorem zw995 : Cond.fieldLink RX7 35 "LinkHouse$Member" "block" "Z" ∈ eW (zV b e D A X) := z_e zx995 rfl
theorem zw996 : Cond.fieldLink RX3 65 "LinkHouse$Member" "block" "Z" ∈ eW (zV b e D A X) := z_e zx996 rfl
theorem zw997 : Cond.fieldLink RX0 97 "LinkHouse$Member" "block" "Z" ∈ eW (zV b e D A X) := z_e zx997 rfl
theorem zw998 : Cond.fieldLink RX4 161 "LinkHouse$Member" "block" "Z" ∈ eW (zV b e D A X) := z_e zx998 rfl
theorem zw999 : Cond.fieldLink RX2 194 "LinkHouse$Member" "block" "Z" ∈ eW (zV b e D A X) := z_e zx999 rfl
theorem zw1000 : Cond.fieldLink RX9 251 "LinkHouse$Member" "block" "Z" ∈ eW (zV b e D A X) := z_e zx1000 rfl
theorem zw1001 : Cond.fieldLink RX12 592 "LinkHouse$Member" "block" "Z" ∈ eW (zV b e D A X) := z_e zx1001 rfl
theorem zw1002 : Cond.fieldLink RX11 114 "LinkHouse$Member" "name" "J" ∈ eW (zV b e D A X) := z_e zx1002 rfl
theorem zw1003 : Cond.fieldLink RX7 40 "LinkHouse$Member" "name" "J" ∈ eW (zV b e D A X) := z_e zx1003 rfl
theorem zw1004 : Cond.fieldLink RX10 94 "LinkHouse$Member" "name" "J" ∈ eW (zV b e D A X) := z_e zx1004 rfl
theorem zw1005 : Cond.fieldLink RX2 150 "LinkHouse$Member" "name" "J" ∈ eW (zV b e D A X) := z_e zx1005 rfl
theorem zw1006 : Cond.fieldLink RX4 203 "LinkHouse$Member" "name" "J" ∈ eW (zV b e D A X) := z_e zx1006 rfl
theorem zw1007 : Cond.fieldLink RX5 225 "LinkHouse$Member" "name" "J" ∈ eW (zV b e D A X) := z_e zx1007 rfl
theorem zw1008 : Cond.fieldLink RX9 244 "LinkHouse$Member" "name" "J" ∈ eW (zV b e D A X) := z_e zx1008 rfl
theorem zw1009 : Cond.fieldLink RX0 290 "LinkHouse$Member" "name" "J" ∈ eW (zV b e D A X) := z_e zx1009 rfl
theorem zw1010 : Cond.fieldLink RX12 356 "LinkHouse$Member" "name" "J" ∈ eW (zV b e D A X) := z_e zx1010 rfl
theorem zw1011 : Cond.fieldLink RX11 117 "LinkHouse$Member" "type" "J" ∈ eW (zV b e D A X) := z_e zx1011 rfl
theorem zw1012 : Cond.fieldLink RX7 46 "LinkHouse$Member" "type" "J" ∈ eW (zV b e D A X) := z_e zx1012 rfl
theorem zw1013 : Cond.fieldLink RX0 123 "LinkHouse$Member" "type" "J" ∈ eW (zV b e D A X) := z_e zx1013 rfl
theorem zw1014 : Cond.fieldLink RX3 184 "LinkHouse$Member" "type" "J" ∈ eW (zV b e D A X) := z_e zx1014 rfl
theorem zw1015 : Cond.fieldLink RX10 95 "LinkHouse$Member" "type" "J" ∈ eW (zV b e D A X) := z_e zx1015 rfl
theorem zw1016 : Cond.fieldLink RX4 176 "LinkHouse$Member" "type" "J" ∈ eW (zV b e D A X) := z_e zx1016 rfl
theorem zw1017 : Cond.fieldLink RX2 164 "LinkHouse$Member" "type" "J" ∈ eW (zV b e D A X) := z_e zx1017 rfl
theorem zw1018 : Cond.fieldLink RX5 226 "LinkHouse$Member" "type" "J" ∈ eW (zV b e D A X) := z_e zx1018 rfl
theorem zw1019 : Cond.fieldLink RX9 241 "LinkHouse$Member" "type" "J" ∈ eW (zV b e D A X) := z_e zx1019 rfl
theorem zw1020 : Cond.fieldLink RX12 351 "LinkHouse$Member" "type" "J" ∈ eW (zV b e D A X) := z_e zx1020 rfl
theorem zw1021 : Cond.fieldLink RX7 49 "LinkHouse$Member" "count" "I" ∈ eW (zV b e D A X) := z_e zx1021 rfl
theorem zw1022 : Cond.fieldLink RX10 101 "LinkHouse$Member" "count" "I" ∈ eW (zV b e D A X) := z_e zx1022 rfl
theorem zw1023 : Cond.fieldLink RX3 204 "LinkHouse$Member" "count" "I" ∈ eW (zV b e D A X) := z_e zx1023 rfl
theorem zw1024 : Cond.fieldLink RX0 212 "LinkHouse$Member" "count" "I" ∈ eW (zV b e D A X) := z_e zx1024 rfl
theorem zw1025 : Cond.fieldLink RX4 183 "LinkHouse$Member" "count" "I" ∈ eW (zV b e D A X) := z_e zx1025 rfl
theorem zw1026 : Cond.fieldLink RX6 274 "LinkHouse$Member" "count" "I" ∈ eW (zV b e D A X) := z_e zx1026 rfl
theorem zw1027 : Cond.fieldLink RX9 245 "LinkHouse$Member" "count" "I" ∈ eW (zV b e D A X) := z_e zx1027 rfl
theorem zw1028 : Cond.fieldLink RX12 401 "LinkHouse$Member" "count" "I" ∈ eW (zV b e D A X) := z_e zx1028 rfl
theorem zw1029 : Cond.fieldLink RX7 9 "LinkHouse$Member" "param" "[J" ∈ eW (zV b e D A X) := z_e zx1029 rfl
theorem zw1030 : Cond.fieldLink RX10 104 "LinkHouse$Member" "param" "[J" ∈ eW (zV b e D A X) := z_e zx1030 rfl
theorem zw1031 : Cond.fieldLink RX0 216 "LinkHouse$Member" "param" "[J" ∈ eW (zV b e D A X) := z_e zx1031 rfl
theorem zw1032 : Cond.fieldLink RX4 186 "LinkHouse$Member" "param" "[J" ∈ eW (zV b e D A X) := z_e zx1032 rfl
theorem zw1033 : Cond.fieldLink RX3 243 "LinkHouse$Member" "param" "[J" ∈ eW (zV b e D A X) := z_e zx1033 rfl
theorem zw1034 : Cond.fieldLink RX9 246 "LinkHouse$Member" "param" "[J" ∈ eW (zV b e D A X) := z_e zx1034 rfl
theorem zw1035 : Cond.fieldLink RX12 404 "LinkHouse$Member" "param" "[J" ∈ eW (zV b e D A X) := z_e zx1035 rfl
theorem zw1036 : Cond.fieldLink RX7 58 "LinkHouse$Member" "tok" "I" ∈ eW (zV b e D A X) := z_e zx1036 rfl
theorem zw1037 : Cond.fieldLink RX4 140 "LinkHouse$Member" "tok" "I" ∈ eW (zV b e D A X) := z_e zx1037 rfl
theorem zw1038 : Cond.fieldLink RX0 215 "LinkHouse$Member" "tok" "I" ∈ eW (zV b e D A X) := z_e zx1038 rfl
theorem zw1039 : Cond.fieldLink RX9 219 "LinkHouse$Member" "tok" "I" ∈ eW (zV b e D A X) := z_e zx1039 rfl
theorem zw1040 : Cond.fieldLink RX7 61 "LinkHouse$Member" "from" "I" ∈ eW (zV b e D A X) := z_e zx1040 rfl
theorem zw1041 : Cond.fieldLink RX2 207 "LinkHouse$Member" "from" "I" ∈ eW (zV b e D A X) := z_e zx1041 rfl
theorem zw1042 : Cond.fieldLink RX9 249 "LinkHouse$Member" "from" "I" ∈ eW (zV b e D A X) := z_e zx1042 rfl
theorem zw1043 : Cond.fieldLink RX7 64 "LinkHouse$Member" "to" "I" ∈ eW (zV b e D A X) := z_e zx1043 rfl
theorem zw1044 : Cond.fieldLink RX2 204 "LinkHouse$Member" "to" "I" ∈ eW (zV b e D A X) := z_e zx1044 rfl
theorem zw1045 : Cond.fieldLink RX9 264 "LinkHouse$Member" "to" "I" ∈ eW (zV b e D A X) := z_e zx1045 rfl
theorem zw1046 : Cond.fieldLink RX7 67 "LinkHouse$Member" "body" "LLinkHouse$Node;" ∈ eW (zV b e D A X) := z_e zx1046 rfl
theorem zw1047 : Cond.fieldLink RX0 128 "LinkHouse$Member" "body" "LLinkHouse$Node;" ∈ eW (zV b e D A X) := z_e zx1047 rfl
theorem zw1048 : Cond.fieldLink RX3 166 "LinkHouse$Member" "body" "LLinkHouse$Node;" ∈ eW (zV b e D A X) := z_e zx1048 rfl
theorem zw1049 : Cond.fieldLink RX4 171 "LinkHouse$Member" "body" "LLinkHouse$Node;" ∈ eW (zV b e D A X) := z_e zx1049 rfl
theorem zw1050 : Cond.fieldLink RX9 260 "LinkHouse$Member" "body" "LLinkHouse$Node;" ∈ eW (zV b e D A X) := z_e zx1050 rfl
theorem zw1051 : Cond.fieldLink RX7 71 "LinkHouse$Member" "constant" "Z" ∈ eW (zV b e D A X) := z_e zx1051 rfl
theorem zw1052 : Cond.fieldLink RX0 135 "LinkHouse$Member" "constant" "Z" ∈ eW (zV b e D A X) := z_e zx1052 rfl
theorem zw1053 : Cond.fieldLink RX3 173 "LinkHouse$Member" "constant" "Z" ∈ eW (zV b e D A X) := z_e zx1053 rfl
theorem zw1054 : Cond.fieldLink RX2 177 "LinkHouse$Member" "constant" "Z" ∈ eW (zV b e D A X) := z_e zx1054 rfl
theorem zw1055 : Cond.fieldLink RX6 211 "LinkHouse$Member" "constant" "Z" ∈ eW (zV b e D A X) := z_e zx1055 rfl
theorem zw1056 : Cond.fieldLink RX5 268 "LinkHouse$Member" "constant" "Z" ∈ eW (zV b e D A X) := z_e zx1056 rfl
theorem zw1057 : Cond.fieldLink RX12 360 "LinkHouse$Member" "constant" "Z" ∈ eW (zV b e D A X) := z_e zx1057 rfl
theorem zw1058 : Cond.fieldLink RX7 74 "LinkHouse$Member" "worth" "I" ∈ eW (zV b e D A X) := z_e zx1058 rfl
theorem zw1059 : Cond.fieldLink RX0 141 "LinkHouse$Member" "worth" "I" ∈ eW (zV b e D A X) := z_e zx1059 rfl
theorem zw1060 : Cond.fieldLink RX2 180 "LinkHouse$Member" "worth" "I" ∈ eW (zV b e D A X) := z_e zx1060 rfl
theorem zw1061 : Cond.fieldLink RX6 214 "LinkHouse$Member" "worth" "I" ∈ eW (zV b e D A X) := z_e zx1061 rfl
theorem zw1062 : Cond.fieldLink RX3 294 "LinkHouse$Member" "worth" "I" ∈ eW (zV b e D A X) := z_e zx1062 rfl
theorem zw1063 : Cond.fieldLink RX5 271 "LinkHouse$Member" "worth" "I" ∈ eW (zV b e D A X) := z_e zx1063 rfl
theorem zw1064 : Cond.fieldLink RX12 365 "LinkHouse$Member" "worth" "I" ∈ eW (zV b e D A X) := z_e zx1064 rfl
theorem zw1065 : Cond.fieldLink RX7 77 "LinkHouse$Member" "code" "I" ∈ eW (zV b e D A X) := z_e zx1065 rfl
theorem zw1066 : Cond.fieldLink RX3 104 "LinkHouse$Member" "code" "I" ∈ eW (zV b e D A X) := z_e zx1066 rfl
theorem zw1067 : Cond.fieldLink RX6 126 "LinkHouse$Member" "code" "I" ∈ eW (zV b e D A X) := z_e zx1067 rfl
theorem zw1068 : Cond.fieldLink RX7 80 "LinkHouse$Member" "locals" "I" ∈ eW (zV b e D A X) := z_e zx1068 rfl
theorem zw1069 : Cond.fieldLink RX3 158 "LinkHouse$Member" "locals" "I" ∈ eW (zV b e D A X) := z_e zx1069 rfl
theorem zw1070 : Cond.fieldLink RX6 131 "LinkHouse$Member" "locals" "I" ∈ eW (zV b e D A X) := z_e zx1070 rfl
theorem zw1071 : Cond.fieldLink RX0 235 "LinkHouse$Member" "locals" "I" ∈ eW (zV b e D A X) := z_e zx1071 rfl
theorem zw1111 : Cond.fieldLink RX12 153 "LinkHouse$Build" "library" "I" ∈ eW (zV b e D A X) := z_e zx1111 rfl
theorem zw1112 : Cond.fieldLink RX12 156 "LinkHouse$Build" "number" "I" ∈ eW (zV b e D A X) := z_e zx1112 rfl
theorem zw1113 : Cond.fieldLink RX1 11 "LinkHouse$Build" "rows" "[LLinkHouse$Row;" ∈ eW (zV b e D A X) := z_e zx1113 rfl
theorem zw1114 : Cond.fieldLink RX3 28 "LinkHouse$Build" "rows" "[LLinkHouse$Row;" ∈ eW (zV b e D A X) := z_e zx1114 rfl
theorem zw1115 : Cond.fieldLink RX2 47 "LinkHouse$Build" "rows" "[LLinkHouse$Row;" ∈ eW (zV b e D A X) := z_e zx1115 rfl
theorem zw1116 : Cond.fieldLink RX11 126 "LinkHouse$Build" "rows" "[LLinkHouse$Row;" ∈ eW (zV b e D A X) := z_e zx1116 rfl
theorem zw1117 : Cond.fieldLink RX4 31 "LinkHouse$Build" "rows" "[LLinkHouse$Row;" ∈ eW (zV b e D A X) := z_e zx1117 rfl
theorem zw1118 : Cond.fieldLink RX0 52 "LinkHouse$Build" "rows" "[LLinkHouse$Row;" ∈ eW (zV b e D A X) := z_e zx1118 rfl
theorem zw1119 : Cond.fieldLink RX12 168 "LinkHouse$Build" "rows" "[LLinkHouse$Row;" ∈ eW (zV b e D A X) := z_e zx1119 rfl
theorem zw1120 : Cond.fieldLink RX1 55 "LinkHouse$Build" "rowCount" "I" ∈ eW (zV b e D A X) := z_e zx1120 rfl
theorem zw1121 : Cond.fieldLink RX3 19 "LinkHouse$Build" "rowCount" "I" ∈ eW (zV b e D A X) := z_e zx1121 rfl
theorem zw1122 : Cond.fieldLink RX2 42 "LinkHouse$Build" "rowCount" "I" ∈ eW (zV b e D A X) := z_e zx1122 rfl
theorem zw1123 : Cond.fieldLink RX4 26 "LinkHouse$Build" "rowCount" "I" ∈ eW (zV b e D A X) := z_e zx1123 rfl
theorem zw1124 : Cond.fieldLink RX0 47 "LinkHouse$Build" "rowCount" "I" ∈ eW (zV b e D A X) := z_e zx1124 rfl
theorem zw1125 : Cond.fieldLink RX11 129 "LinkHouse$Build" "rowCount" "I" ∈ eW (zV b e D A X) := z_e zx1125 rfl
theorem zw1126 : Cond.fieldLink RX12 165 "LinkHouse$Build" "rowCount" "I" ∈ eW (zV b e D A X) := z_e zx1126 rfl
theorem zw1127 : Cond.fieldLink RX1 20 "LinkHouse$Build" "pool" "[LLinkHouse$Member;" ∈ eW (zV b e D A X) := z_e zx1127 rfl
theorem zw1128 : Cond.fieldLink RX1 59 "LinkHouse$Build" "poolCount" "I" ∈ eW (zV b e D A X) := z_e zx1128 rfl
theorem zw1129 : Cond.fieldLink RX1 25 "LinkHouse$Build" "text" "[B" ∈ eW (zV b e D A X) := z_e zx1129 rfl
theorem zw1130 : Cond.fieldLink RX9 121 "LinkHouse$Build" "text" "[B" ∈ eW (zV b e D A X) := z_e zx1130 rfl
theorem zw1131 : Cond.fieldLink RX12 130 "LinkHouse$Build" "text" "[B" ∈ eW (zV b e D A X) := z_e zx1131 rfl
theorem zw1132 : Cond.fieldLink RX2 231 "LinkHouse$Build" "text" "[B" ∈ eW (zV b e D A X) := z_e zx1132 rfl
theorem zw1133 : Cond.fieldLink RX1 62 "LinkHouse$Build" "length" "I" ∈ eW (zV b e D A X) := z_e zx1133 rfl
theorem zw1134 : Cond.fieldLink RX9 134 "LinkHouse$Build" "length" "I" ∈ eW (zV b e D A X) := z_e zx1134 rfl
theorem zw1135 : Cond.fieldLink RX12 143 "LinkHouse$Build" "length" "I" ∈ eW (zV b e D A X) := z_e zx1135 rfl
theorem zw1136 : Cond.fieldLink RX1 29 "LinkHouse$Build" "from" "[I" ∈ eW (zV b e D A X) := z_e zx1136 rfl
theorem zw1137 : Cond.fieldLink RX9 135 "LinkHouse$Build" "from" "[I" ∈ eW (zV b e D A X) := z_e zx1137 rfl
theorem zw1138 : Cond.fieldLink RX2 227 "LinkHouse$Build" "from" "[I" ∈ eW (zV b e D A X) := z_e zx1138 rfl
theorem zw1139 : Cond.fieldLink RX12 541 "LinkHouse$Build" "from" "[I" ∈ eW (zV b e D A X) := z_e zx1139 rfl
theorem zw1140 : Cond.fieldLink RX1 33 "LinkHouse$Build" "to" "[I" ∈ eW (zV b e D A X) := z_e zx1140 rfl
theorem zw1141 : Cond.fieldLink RX9 136 "LinkHouse$Build" "to" "[I" ∈ eW (zV b e D A X) := z_e zx1141 rfl
theorem zw1142 : Cond.fieldLink RX2 229 "LinkHouse$Build" "to" "[I" ∈ eW (zV b e D A X) := z_e zx1142 rfl
theorem zw1143 : Cond.fieldLink RX12 542 "LinkHouse$Build" "to" "[I" ∈ eW (zV b e D A X) := z_e zx1143 rfl
theorem zw1144 : Cond.fieldLink RX1 36 "LinkHouse$Build" "useSort" "[I" ∈ eW (zV b e D A X) := z_e zx1144 rfl
theorem zw1145 : Cond.fieldLink RX3 222 "LinkHouse$Build" "useSort" "[I" ∈ eW (zV b e D A X) := z_e zx1145 rfl
theorem zw1146 : Cond.fieldLink RX5 156 "LinkHouse$Build" "useSort" "[I" ∈ eW (zV b e D A X) := z_e zx1146 rfl
theorem zw1147 : Cond.fieldLink RX6 183 "LinkHouse$Build" "useSort" "[I" ∈ eW (zV b e D A X) := z_e zx1147 rfl
theorem zw1148 : Cond.fieldLink RX12 421 "LinkHouse$Build" "useSort" "[I" ∈ eW (zV b e D A X) := z_e zx1148 rfl
theorem zw1149 : Cond.fieldLink RX1 39 "LinkHouse$Build" "useOwner" "[I" ∈ eW (zV b e D A X) := z_e zx1149 rfl
theorem zw1150 : Cond.fieldLink RX3 240 "LinkHouse$Build" "useOwner" "[I" ∈ eW (zV b e D A X) := z_e zx1150 rfl
theorem zw1151 : Cond.fieldLink RX12 424 "LinkHouse$Build" "useOwner" "[I" ∈ eW (zV b e D A X) := z_e zx1151 rfl
theorem zw1152 : Cond.fieldLink RX1 42 "LinkHouse$Build" "useClass" "[J" ∈ eW (zV b e D A X) := z_e zx1152 rfl
theorem zw1153 : Cond.fieldLink RX3 225 "LinkHouse$Build" "useClass" "[J" ∈ eW (zV b e D A X) := z_e zx1153 rfl
theorem zw1154 : Cond.fieldLink RX5 161 "LinkHouse$Build" "useClass" "[J" ∈ eW (zV b e D A X) := z_e zx1154 rfl
theorem zw1155 : Cond.fieldLink RX12 430 "LinkHouse$Build" "useClass" "[J" ∈ eW (zV b e D A X) := z_e zx1155 rfl
theorem zw1156 : Cond.fieldLink RX1 46 "LinkHouse$Build" "useMember" "[LLinkHouse$Member;" ∈ eW (zV b e D A X) := z_e zx1156 rfl
theorem zw1157 : Cond.fieldLink RX3 219 "LinkHouse$Build" "useMember" "[LLinkHouse$Member;" ∈ eW (zV b e D A X) := z_e zx1157 rfl
theorem zw1158 : Cond.fieldLink RX5 193 "LinkHouse$Build" "useMember" "[LLinkHouse$Member;" ∈ eW (zV b e D A X) := z_e zx1158 rfl
theorem zw1159 : Cond.fieldLink RX12 427 "LinkHouse$Build" "useMember" "[LLinkHouse$Member;" ∈ eW (zV b e D A X) := z_e zx1159 rfl
theorem zw1160 : Cond.fieldLink RX1 49 "LinkHouse$Build" "useOther" "[J" ∈ eW (zV b e D A X) := z_e zx1160 rfl
theorem zw1161 : Cond.fieldLink RX3 229 "LinkHouse$Build" "useOther" "[J" ∈ eW (zV b e D A X) := z_e zx1161 rfl
theorem zw1162 : Cond.fieldLink RX5 165 "LinkHouse$Build" "useOther" "[J" ∈ eW (zV b e D A X) := z_e zx1162 rfl
theorem zw1163 : Cond.fieldLink RX12 433 "LinkHouse$Build" "useOther" "[J" ∈ eW (zV b e D A X) := z_e zx1163 rfl
theorem zw1164 : Cond.fieldLink RX1 65 "LinkHouse$Build" "useCount" "I" ∈ eW (zV b e D A X) := z_e zx1164 rfl
theorem zw1165 : Cond.fieldLink RX3 91 "LinkHouse$Build" "useCount" "I" ∈ eW (zV b e D A X) := z_e zx1165 rfl
theorem zw1166 : Cond.fieldLink RX5 192 "LinkHouse$Build" "useCount" "I" ∈ eW (zV b e D A X) := z_e zx1166 rfl
theorem zw1167 : Cond.fieldLink RX12 414 "LinkHouse$Build" "useCount" "I" ∈ eW (zV b e D A X) := z_e zx1167 rfl
theorem zw1168 : Cond.fieldLink RX1 52 "LinkHouse$Build" "code" "[I" ∈ eW (zV b e D A X) := z_e zx1168 rfl
theorem zw1169 : Cond.fieldLink RX6 147 "LinkHouse$Build" "code" "[I" ∈ eW (zV b e D A X) := z_e zx1169 rfl
theorem zw1170 : Cond.fieldLink RX12 512 "LinkHouse$Build" "code" "[I" ∈ eW (zV b e D A X) := z_e zx1170 rfl
theorem zw1171 : Cond.fieldLink RX1 68 "LinkHouse$Build" "codeCount" "I" ∈ eW (zV b e D A X) := z_e zx1171 rfl
theorem zw1172 : Cond.fieldLink RX3 144 "LinkHouse$Build" "codeCount" "I" ∈ eW (zV b e D A X) := z_e zx1172 rfl
theorem zw1173 : Cond.fieldLink RX6 142 "LinkHouse$Build" "codeCount" "I" ∈ eW (zV b e D A X) := z_e zx1173 rfl
theorem zw1174 : Cond.fieldLink RX12 515 "LinkHouse$Build" "codeCount" "I" ∈ eW (zV b e D A X) := z_e zx1174 rfl
theorem zw1212 : Cond.methodLink RX11 70 yX1_newRow ∈ eW (zV b e D A X) := z_e zx1212 rfl
theorem zw1213 : Cond.instanceMethod yX1_newRow ∈ eW (zV b e D A X) := z_e zx1213 rfl
theorem zw1214 : Cond.selects RX1 yX1_newRow yX1_newRow ∈ eW (zV b e D A X) := z_e zx1214 rfl
theorem zw1215 : Cond.code yX1_newRow cX1_newRow 2 (some (.object "LinkHouse$Row")) ∈ eW (zV b e D A X) := z_e zx1215 rfl
theorem zw1216 : Cond.methodLink RX1 71 yX10_clear ∈ eW (zV b e D A X) := z_e zx1216 rfl
theorem zw1217 : Cond.instanceMethod yX10_clear ∈ eW (zV b e D A X) := z_e zx1217 rfl
theorem zw1218 : Cond.selects RX10 yX10_clear yX10_clear ∈ eW (zV b e D A X) := z_e zx1218 rfl
theorem zw1219 : Cond.code yX10_clear cX10_clear 2 none ∈ eW (zV b e D A X) := z_e zx1219 rfl
theorem zw1220 : Cond.constantLong RX10 32 (-4) ∈ eW (zV b e D A X) := z_e zx1220 rfl
theorem zw1221 : Cond.constantLong RX10 58 (-4031174665287237632) ∈ eW (zV b e D A X) := z_e zx1221 rfl
theorem zw1222 : Cond.methodLink RX10 66 yJ7_fill_53178 ∈ eW (zV b e D A X) := z_e zx1222 rfl
theorem zw1223 : Cond.static yJ7_fill_53178 ∈ eW (zV b e D A X) := z_e zx1223 rfl
theorem zw1224 : Cond.code yJ7_fill_53178 cJ7_fill_53178 4 none ∈ eW (zV b e D A X) := z_e zx1224 rfl
theorem zw1225 : Cond.constantLong RX11 74 (-4031174665287237632) ∈ eW (zV b e D A X) := z_e zx1225 rfl
theorem zw1226 : Cond.constantLong RX11 84 (-4) ∈ eW (zV b e D A X) := z_e zx1226 rfl
theorem zw1227 : Cond.methodLink RX11 88 yX1_newMember ∈ eW (zV b e D A X) := z_e zx1227 rfl
theorem zw1228 : Cond.instanceMethod yX1_newMember ∈ eW (zV b e D A X) := z_e zx1228 rfl
theorem zw1229 : Cond.selects RX1 yX1_newMember yX1_newMember ∈ eW (zV b e D A X) := z_e zx1229 rfl
theorem zw1230 : Cond.code yX1_newMember cX1_newMember 2 (some (.object "LinkHouse$Member")) ∈ eW (zV b e D A X) := z_e zx1230 rfl
theorem zw1231 : Cond.methodLink RX1 75 yX7_clear ∈ eW (zV b e D A X) := z_e zx1231 rfl
theorem zw1232 : Cond.instanceMethod yX7_clear ∈ eW (zV b e D A X) := z_e zx1232 rfl
theorem zw1233 : Cond.selects RX7 yX7_clear yX7_clear ∈ eW (zV b e D A X) := z_e zx1233 rfl
theorem zw1234 : Cond.code yX7_clear cX7_clear 1 none ∈ eW (zV b e D A X) := z_e zx1234 rfl
theorem zw1235 : Cond.constantLong RX7 38 (-4) ∈ eW (zV b e D A X) := z_e zx1235 rfl
theorem zw1236 : Cond.constantLong RX7 44 (-3) ∈ eW (zV b e D A X) := z_e zx1236 rfl
theorem zw1237 : Cond.methodLink RX7 52 yJ7_fill_d0a16 ∈ eW (zV b e D A X) := z_e zx1237 rfl
theorem zw1238 : Cond.static yJ7_fill_d0a16 ∈ eW (zV b e D A X) := z_e zx1238 rfl
theorem zw1239 : Cond.code yJ7_fill_d0a16 cJ7_fill_d0a16 5 none ∈ eW (zV b e D A X) := z_e zx1239 rfl
theorem zw1240 : Cond.methodLink RX11 92 yX11_openMaker ∈ eW (zV b e D A X) := z_e zx1240 rfl
theorem zw1241 : Cond.static yX11_openMaker ∈ eW (zV b e D A X) := z_e zx1241 rfl
theorem zw1242 : Cond.code yX11_openMaker cX11_openMaker 1 (some (.object "LinkHouse$Member")) ∈ eW (zV b e D A X) := z_e zx1242 rfl
theorem zw1243 : Cond.methodLink RX11 96 yX10_add ∈ eW (zV b e D A X) := z_e zx1243 rfl
theorem zw1244 : Cond.instanceMethod yX10_add ∈ eW (zV b e D A X) := z_e zx1244 rfl
theorem zw1245 : Cond.selects RX10 yX10_add yX10_add ∈ eW (zV b e D A X) := z_e zx1245 rfl
theorem zw1246 : Cond.code yX10_add cX10_add 2 none ∈ eW (zV b e D A X) := z_e zx1246 rfl
theorem zw1247 : Cond.constantLong RX11 100 (-3887679601769447424) ∈ eW (zV b e D A X) := z_e zx1247 rfl
theorem zw1248 : Cond.constantLong RX11 112 (40268857453051904) ∈ eW (zV b e D A X) := z_e zx1248 rfl
theorem zw1249 : Cond.constantLong RX11 115 (-1) ∈ eW (zV b e D A X) := z_e zx1249 rfl
theorem zw1250 : Cond.fieldLink RX11 66 "LinkHouse$World" "builtIn" "LLinkHouse$Build;" ∈ eW (zV b e D A X) := z_e zx1250 rfl
theorem zw1251 : Cond.fieldLink RX3 199 "LinkHouse$World" "builtIn" "LLinkHouse$Build;" ∈ eW (zV b e D A X) := z_e zx1251 rfl
theorem zw1252 : Cond.fieldLink RX11 11 "LinkHouse$World" "row" "[LLinkHouse$Row;" ∈ eW (zV b e D A X) := z_e zx1252 rfl
theorem zw1253 : Cond.fieldLink RX5 73 "LinkHouse$World" "row" "[LLinkHouse$Row;" ∈ eW (zV b e D A X) := z_e zx1253 rfl
theorem zw1254 : Cond.fieldLink RX4 90 "LinkHouse$World" "row" "[LLinkHouse$Row;" ∈ eW (zV b e D A X) := z_e zx1254 rfl
theorem zw1255 : Cond.fieldLink RX6 110 "LinkHouse$World" "row" "[LLinkHouse$Row;" ∈ eW (zV b e D A X) := z_e zx1255 rfl
theorem zw1256 : Cond.fieldLink RX3 305 "LinkHouse$World" "row" "[LLinkHouse$Row;" ∈ eW (zV b e D A X) := z_e zx1256 rfl
theorem zw1257 : Cond.fieldLink RX0 330 "LinkHouse$World" "row" "[LLinkHouse$Row;" ∈ eW (zV b e D A X) := z_e zx1257 rfl
theorem zw1258 : Cond.fieldLink RX12 446 "LinkHouse$World" "row" "[LLinkHouse$Row;" ∈ eW (zV b e D A X) := z_e zx1258 rfl
theorem zw1259 : Cond.fieldLink RX5 68 "LinkHouse$World" "count" "I" ∈ eW (zV b e D A X) := z_e zx1259 rfl
theorem zw1260 : Cond.fieldLink RX11 123 "LinkHouse$World" "count" "I" ∈ eW (zV b e D A X) := z_e zx1260 rfl
theorem zw1261 : Cond.fieldLink RX12 556 "LinkHouse$World" "count" "I" ∈ eW (zV b e D A X) := z_e zx1261 rfl
theorem zw1262 : Cond.fieldLink RX11 17 "LinkHouse$World" "parent" "[I" ∈ eW (zV b e D A X) := z_e zx1262 rfl
theorem zw1263 : Cond.fieldLink RX0 101 "LinkHouse$World" "parent" "[I" ∈ eW (zV b e D A X) := z_e zx1263 rfl
theorem zw1264 : Cond.fieldLink RX5 97 "LinkHouse$World" "parent" "[I" ∈ eW (zV b e D A X) := z_e zx1264 rfl
theorem zw1265 : Cond.fieldLink RX6 195 "LinkHouse$World" "parent" "[I" ∈ eW (zV b e D A X) := z_e zx1265 rfl
theorem zw1266 : Cond.fieldLink RX4 214 "LinkHouse$World" "parent" "[I" ∈ eW (zV b e D A X) := z_e zx1266 rfl
theorem zw1267 : Cond.fieldLink RX11 21 "LinkHouse$World" "chain" "[I" ∈ eW (zV b e D A X) := z_e zx1267 rfl
theorem zw1268 : Cond.fieldLink RX5 129 "LinkHouse$World" "chain" "[I" ∈ eW (zV b e D A X) := z_e zx1268 rfl
theorem zw1269 : Cond.fieldLink RX4 216 "LinkHouse$World" "chain" "[I" ∈ eW (zV b e D A X) := z_e zx1269 rfl
theorem zw1270 : Cond.fieldLink RX6 287 "LinkHouse$World" "chain" "[I" ∈ eW (zV b e D A X) := z_e zx1270 rfl
theorem zw1271 : Cond.fieldLink RX0 360 "LinkHouse$World" "chain" "[I" ∈ eW (zV b e D A X) := z_e zx1271 rfl
theorem zw1272 : Cond.fieldLink RX11 24 "LinkHouse$World" "face" "[I" ∈ eW (zV b e D A X) := z_e zx1272 rfl
theorem zw1273 : Cond.fieldLink RX5 100 "LinkHouse$World" "face" "[I" ∈ eW (zV b e D A X) := z_e zx1273 rfl
theorem zw1274 : Cond.fieldLink RX6 218 "LinkHouse$World" "face" "[I" ∈ eW (zV b e D A X) := z_e zx1274 rfl
theorem zw1275 : Cond.fieldLink RX11 27 "LinkHouse$World" "bar" "[I" ∈ eW (zV b e D A X) := z_e zx1275 rfl
theorem zw1276 : Cond.fieldLink RX5 113 "LinkHouse$World" "bar" "[I" ∈ eW (zV b e D A X) := z_e zx1276 rfl
theorem zw1277 : Cond.fieldLink RX11 30 "LinkHouse$World" "host" "[I" ∈ eW (zV b e D A X) := z_e zx1277 rfl
theorem zw1278 : Cond.fieldLink RX5 278 "LinkHouse$World" "host" "[I" ∈ eW (zV b e D A X) := z_e zx1278 rfl
theorem zw1279 : Cond.fieldLink RX11 33 "LinkHouse$World" "nest" "[I" ∈ eW (zV b e D A X) := z_e zx1279 rfl
theorem zw1280 : Cond.fieldLink RX5 281 "LinkHouse$World" "nest" "[I" ∈ eW (zV b e D A X) := z_e zx1280 rfl
theorem zw1281 : Cond.fieldLink RX11 36 "LinkHouse$World" "up" "[J" ∈ eW (zV b e D A X) := z_e zx1281 rfl
theorem zw1282 : Cond.fieldLink RX11 40 "LinkHouse$World" "all" "[I" ∈ eW (zV b e D A X) := z_e zx1282 rfl
theorem zw1283 : Cond.fieldLink RX4 231 "LinkHouse$World" "all" "[I" ∈ eW (zV b e D A X) := z_e zx1283 rfl
theorem zw1284 : Cond.fieldLink RX5 256 "LinkHouse$World" "all" "[I" ∈ eW (zV b e D A X) := z_e zx1284 rfl
theorem zw1285 : Cond.fieldLink RX0 366 "LinkHouse$World" "all" "[I" ∈ eW (zV b e D A X) := z_e zx1285 rfl
theorem zw1286 : Cond.fieldLink RX11 43 "LinkHouse$World" "allCount" "[I" ∈ eW (zV b e D A X) := z_e zx1286 rfl
theorem zw1287 : Cond.fieldLink RX11 46 "LinkHouse$World" "path" "[I" ∈ eW (zV b e D A X) := z_e zx1287 rfl
theorem zw1288 : Cond.fieldLink RX11 49 "LinkHouse$World" "step" "[I" ∈ eW (zV b e D A X) := z_e zx1288 rfl
theorem zw1289 : Cond.fieldLink RX11 52 "LinkHouse$World" "seen" "[I" ∈ eW (zV b e D A X) := z_e zx1289 rfl
theorem zw1290 : Cond.fieldLink RX5 239 "LinkHouse$World" "seen" "[I" ∈ eW (zV b e D A X) := z_e zx1290 rfl
theorem zw1291 : Cond.fieldLink RX11 170 "LinkHouse$World" "seenCount" "I" ∈ eW (zV b e D A X) := z_e zx1291 rfl
theorem zw1292 : Cond.fieldLink RX5 236 "LinkHouse$World" "seenCount" "I" ∈ eW (zV b e D A X) := z_e zx1292 rfl
theorem zw1293 : Cond.fieldLink RX11 57 "LinkHouse$World" "best" "[LLinkHouse$Member;" ∈ eW (zV b e D A X) := z_e zx1293 rfl
theorem zw1294 : Cond.fieldLink RX11 190 "LinkHouse$World" "special" "LLinkHouse$Member;" ∈ eW (zV b e D A X) := z_e zx1294 rfl
theorem zw1295 : Cond.fieldLink RX5 262 "LinkHouse$World" "special" "LLinkHouse$Member;" ∈ eW (zV b e D A X) := z_e zx1295 rfl
theorem zw1296 : Cond.fieldLink RX0 179 "LinkHouse$World" "at" "I" ∈ eW (zV b e D A X) := z_e zx1296 rfl
theorem zw1297 : Cond.fieldLink RX11 173 "LinkHouse$World" "at" "I" ∈ eW (zV b e D A X) := z_e zx1297 rfl
theorem zw1298 : Cond.fieldLink RX5 233 "LinkHouse$World" "at" "I" ∈ eW (zV b e D A X) := z_e zx1298 rfl
theorem zw1299 : Cond.fieldLink RX6 303 "LinkHouse$World" "at" "I" ∈ eW (zV b e D A X) := z_e zx1299 rfl
theorem zw1300 : Cond.fieldLink RX11 202 "LinkHouse$World" "why" "I" ∈ eW (zV b e D A X) := z_e zx1300 rfl
theorem zw1301 : Cond.fieldLink RX6 297 "LinkHouse$World" "why" "I" ∈ eW (zV b e D A X) := z_e zx1301 rfl
theorem zw1343 : Cond.classLink RX12 74 RX5 ∈ eW (zV b e D A X) := z_e zx1343 rfl
theorem zw1344 : Cond.instantiable RX5 20 ∈ eW (zV b e D A X) := z_e zx1344 rfl
theorem zw1345 : Cond.methodLink RX12 76 yX5_init ∈ eW (zV b e D A X) := z_e zx1345 rfl
theorem zw1346 : Cond.instanceMethod yX5_init ∈ eW (zV b e D A X) := z_e zx1346 rfl
theorem zw1347 : Cond.code yX5_init cX5_init 2 none ∈ eW (zV b e D A X) := z_e zx1347 rfl
theorem zw1348 : Cond.methodLink RX5 3 Lib.objectInit ∈ eW (zV b e D A X) := z_e zx1348 rfl
theorem zw1349 : Cond.classLink RX5 45 RX7 ∈ eW (zV b e D A X) := z_e zx1349 rfl
theorem zw1350 : Cond.fieldLink RX5 51 "LinkHouse$Loader" "world" "LLinkHouse$World;" ∈ eW (zV b e D A X) := z_e zx1350 rfl
theorem zw1351 : Cond.fieldLink RX5 9 "LinkHouse$Loader" "state" "[I" ∈ eW (zV b e D A X) := z_e zx1351 rfl
theorem zw1352 : Cond.fieldLink RX6 96 "LinkHouse$Loader" "state" "[I" ∈ eW (zV b e D A X) := z_e zx1352 rfl
theorem zw1353 : Cond.fieldLink RX12 618 "LinkHouse$Loader" "state" "[I" ∈ eW (zV b e D A X) := z_e zx1353 rfl
theorem zw1354 : Cond.fieldLink RX5 15 "LinkHouse$Loader" "failure" "[I" ∈ eW (zV b e D A X) := z_e zx1354 rfl
theorem zw1355 : Cond.fieldLink RX5 18 "LinkHouse$Loader" "event" "[I" ∈ eW (zV b e D A X) := z_e zx1355 rfl
theorem zw1356 : Cond.fieldLink RX12 615 "LinkHouse$Loader" "event" "[I" ∈ eW (zV b e D A X) := z_e zx1356 rfl
theorem zw1357 : Cond.fieldLink RX5 61 "LinkHouse$Loader" "eventCount" "I" ∈ eW (zV b e D A X) := z_e zx1357 rfl
theorem zw1358 : Cond.fieldLink RX12 610 "LinkHouse$Loader" "eventCount" "I" ∈ eW (zV b e D A X) := z_e zx1358 rfl
theorem zw1359 : Cond.fieldLink RX5 21 "LinkHouse$Loader" "trail" "[I" ∈ eW (zV b e D A X) := z_e zx1359 rfl
theorem zw1360 : Cond.fieldLink RX5 65 "LinkHouse$Loader" "trailCount" "I" ∈ eW (zV b e D A X) := z_e zx1360 rfl
theorem zw1361 : Cond.fieldLink RX12 481 "LinkHouse$Loader" "trailCount" "I" ∈ eW (zV b e D A X) := z_e zx1361 rfl
theorem zw1362 : Cond.fieldLink RX5 24 "LinkHouse$Loader" "open" "[I" ∈ eW (zV b e D A X) := z_e zx1362 rfl
theorem zw1363 : Cond.fieldLink RX5 27 "LinkHouse$Loader" "step" "[I" ∈ eW (zV b e D A X) := z_e zx1363 rfl
theorem zw1364 : Cond.fieldLink RX5 30 "LinkHouse$Loader" "linking" "[I" ∈ eW (zV b e D A X) := z_e zx1364 rfl
theorem zw1365 : Cond.fieldLink RX5 33 "LinkHouse$Loader" "linkStep" "[I" ∈ eW (zV b e D A X) := z_e zx1365 rfl
theorem zw1366 : Cond.fieldLink RX5 82 "LinkHouse$Loader" "found" "LLinkHouse$Member;" ∈ eW (zV b e D A X) := z_e zx1366 rfl
theorem zw1367 : Cond.fieldLink RX6 170 "LinkHouse$Loader" "found" "LLinkHouse$Member;" ∈ eW (zV b e D A X) := z_e zx1367 rfl
theorem zw1368 : Cond.fieldLink RX12 460 "LinkHouse$Loader" "found" "LLinkHouse$Member;" ∈ eW (zV b e D A X) := z_e zx1368 rfl
theorem zw1369 : Cond.fieldLink RX5 86 "LinkHouse$Loader" "foundAt" "I" ∈ eW (zV b e D A X) := z_e zx1369 rfl
theorem zw1370 : Cond.fieldLink RX6 177 "LinkHouse$Loader" "foundAt" "I" ∈ eW (zV b e D A X) := z_e zx1370 rfl
theorem zw1371 : Cond.fieldLink RX5 185 "LinkHouse$Loader" "foundName" "J" ∈ eW (zV b e D A X) := z_e zx1371 rfl
theorem zw1372 : Cond.fieldLink RX12 464 "LinkHouse$Loader" "foundName" "J" ∈ eW (zV b e D A X) := z_e zx1372 rfl
theorem zw1373 : Cond.fieldLink RX5 89 "LinkHouse$Loader" "named" "I" ∈ eW (zV b e D A X) := z_e zx1373 rfl
theorem zw1374 : Cond.fieldLink RX6 167 "LinkHouse$Loader" "named" "I" ∈ eW (zV b e D A X) := z_e zx1374 rfl
theorem zw1375 : Cond.fieldLink RX5 36 "LinkHouse$Loader" "looked" "[I" ∈ eW (zV b e D A X) := z_e zx1375 rfl
theorem zw1376 : Cond.fieldLink RX12 470 "LinkHouse$Loader" "looked" "[I" ∈ eW (zV b e D A X) := z_e zx1376 rfl
theorem zw1377 : Cond.fieldLink RX5 189 "LinkHouse$Loader" "lookedCount" "I" ∈ eW (zV b e D A X) := z_e zx1377 rfl
theorem zw1378 : Cond.fieldLink RX12 467 "LinkHouse$Loader" "lookedCount" "I" ∈ eW (zV b e D A X) := z_e zx1378 rfl
theorem zw1379 : Cond.fieldLink RX5 39 "LinkHouse$Loader" "useFrom" "[I" ∈ eW (zV b e D A X) := z_e zx1379 rfl
theorem zw1380 : Cond.fieldLink RX5 42 "LinkHouse$Loader" "asked" "[I" ∈ eW (zV b e D A X) := z_e zx1380 rfl
theorem zw1381 : Cond.fieldLink RX5 47 "LinkHouse$Loader" "askedMember" "[LLinkHouse$Member;" ∈ eW (zV b e D A X) := z_e zx1381 rfl
theorem zw1423 : Cond.classLink RX12 89 RX2 ∈ eW (zV b e D A X) := z_e zx1423 rfl
theorem zw1424 : Cond.instantiable RX2 10 ∈ eW (zV b e D A X) := z_e zx1424 rfl
theorem zw1426 : Cond.instanceMethod yX2_init ∈ eW (zV b e D A X) := z_e zx1426 rfl
theorem zw1427 : Cond.code yX2_init cX2_init 1 none ∈ eW (zV b e D A X) := z_e zx1427 rfl
theorem zw1428 : Cond.methodLink RX2 3 Lib.objectInit ∈ eW (zV b e D A X) := z_e zx1428 rfl
theorem zw1429 : Cond.fieldLink RX2 21 "LinkHouse$Differ" "a" "LLinkHouse$Build;" ∈ eW (zV b e D A X) := z_e zx1429 rfl
theorem zw1430 : Cond.fieldLink RX2 25 "LinkHouse$Differ" "b" "LLinkHouse$Build;" ∈ eW (zV b e D A X) := z_e zx1430 rfl
theorem zw1431 : Cond.fieldLink RX2 28 "LinkHouse$Differ" "keeps" "Z" ∈ eW (zV b e D A X) := z_e zx1431 rfl
theorem zw1432 : Cond.fieldLink RX2 11 "LinkHouse$Differ" "list" "[I" ∈ eW (zV b e D A X) := z_e zx1432 rfl
theorem zw1433 : Cond.fieldLink RX12 506 "LinkHouse$Differ" "list" "[I" ∈ eW (zV b e D A X) := z_e zx1433 rfl
theorem zw1434 : Cond.fieldLink RX2 36 "LinkHouse$Differ" "count" "I" ∈ eW (zV b e D A X) := z_e zx1434 rfl
theorem zw1435 : Cond.fieldLink RX12 505 "LinkHouse$Differ" "count" "I" ∈ eW (zV b e D A X) := z_e zx1435 rfl
theorem zw1436 : Cond.fieldLink RX2 32 "LinkHouse$Differ" "grade" "I" ∈ eW (zV b e D A X) := z_e zx1436 rfl
theorem zw1437 : Cond.fieldLink RX12 508 "LinkHouse$Differ" "grade" "I" ∈ eW (zV b e D A X) := z_e zx1437 rfl
theorem zw1438 : Cond.fieldLink RX2 39 "LinkHouse$Differ" "rowA" "I" ∈ eW (zV b e D A X) := z_e zx1438 rfl
theorem zw1439 : Cond.fieldLink RX2 65 "LinkHouse$Differ" "rowB" "I" ∈ eW (zV b e D A X) := z_e zx1439 rfl
theorem zw1440 : Cond.fieldLink RX2 15 "LinkHouse$Differ" "tokensA" "[I" ∈ eW (zV b e D A X) := z_e zx1440 rfl
theorem zw1441 : Cond.fieldLink RX2 18 "LinkHouse$Differ" "tokensB" "[I" ∈ eW (zV b e D A X) := z_e zx1441 rfl
theorem zw1463 : Cond.classLink RX12 96 RX6 ∈ eW (zV b e D A X) := z_e zx1463 rfl
theorem zw1464 : Cond.instantiable RX6 20 ∈ eW (zV b e D A X) := z_e zx1464 rfl
theorem zw1466 : Cond.instanceMethod yX6_init ∈ eW (zV b e D A X) := z_e zx1466 rfl
theorem zw1467 : Cond.code yX6_init cX6_init 1 none ∈ eW (zV b e D A X) := z_e zx1467 rfl
theorem zw1468 : Cond.methodLink RX6 3 Lib.objectInit ∈ eW (zV b e D A X) := z_e zx1468 rfl
theorem zw1469 : Cond.classLink RX6 9 RX5 ∈ eW (zV b e D A X) := z_e zx1469 rfl
theorem zw1470 : Cond.methodLink RX6 11 yX5_init ∈ eW (zV b e D A X) := z_e zx1470 rfl
theorem zw1471 : Cond.classLink RX6 24 "[[I" ∈ eW (zV b e D A X) := z_e zx1471 rfl
theorem zw1473 : Cond.fieldLink RX6 47 "LinkHouse$Machine" "world" "LLinkHouse$World;" ∈ eW (zV b e D A X) := z_e zx1473 rfl
theorem zw1474 : Cond.fieldLink RX6 14 "LinkHouse$Machine" "loader" "LLinkHouse$Loader;" ∈ eW (zV b e D A X) := z_e zx1474 rfl
theorem zw1475 : Cond.fieldLink RX12 557 "LinkHouse$Machine" "loader" "LLinkHouse$Loader;" ∈ eW (zV b e D A X) := z_e zx1475 rfl
theorem zw1476 : Cond.fieldLink RX6 20 "LinkHouse$Machine" "stack" "[I" ∈ eW (zV b e D A X) := z_e zx1476 rfl
theorem zw1477 : Cond.fieldLink RX6 83 "LinkHouse$Machine" "top" "I" ∈ eW (zV b e D A X) := z_e zx1477 rfl
theorem zw1478 : Cond.fieldLink RX6 26 "LinkHouse$Machine" "frame" "[[I" ∈ eW (zV b e D A X) := z_e zx1478 rfl
theorem zw1479 : Cond.fieldLink RX6 86 "LinkHouse$Machine" "depth" "I" ∈ eW (zV b e D A X) := z_e zx1479 rfl
theorem zw1480 : Cond.fieldLink RX12 576 "LinkHouse$Machine" "depth" "I" ∈ eW (zV b e D A X) := z_e zx1480 rfl
theorem zw1481 : Cond.fieldLink RX6 29 "LinkHouse$Machine" "handler" "[I" ∈ eW (zV b e D A X) := z_e zx1481 rfl
theorem zw1482 : Cond.fieldLink RX6 89 "LinkHouse$Machine" "handlers" "I" ∈ eW (zV b e D A X) := z_e zx1482 rfl
theorem zw1483 : Cond.fieldLink RX6 32 "LinkHouse$Machine" "objectClass" "[I" ∈ eW (zV b e D A X) := z_e zx1483 rfl
theorem zw1484 : Cond.fieldLink RX12 621 "LinkHouse$Machine" "objectClass" "[I" ∈ eW (zV b e D A X) := z_e zx1484 rfl
theorem zw1485 : Cond.fieldLink RX6 35 "LinkHouse$Machine" "objectFrom" "[I" ∈ eW (zV b e D A X) := z_e zx1485 rfl
theorem zw1486 : Cond.fieldLink RX12 630 "LinkHouse$Machine" "objectFrom" "[I" ∈ eW (zV b e D A X) := z_e zx1486 rfl
theorem zw1487 : Cond.fieldLink RX6 55 "LinkHouse$Machine" "objects" "I" ∈ eW (zV b e D A X) := z_e zx1487 rfl
theorem zw1488 : Cond.fieldLink RX12 604 "LinkHouse$Machine" "objects" "I" ∈ eW (zV b e D A X) := z_e zx1488 rfl
theorem zw1489 : Cond.fieldLink RX6 38 "LinkHouse$Machine" "field" "[I" ∈ eW (zV b e D A X) := z_e zx1489 rfl
theorem zw1490 : Cond.fieldLink RX12 627 "LinkHouse$Machine" "field" "[I" ∈ eW (zV b e D A X) := z_e zx1490 rfl
theorem zw1491 : Cond.fieldLink RX6 59 "LinkHouse$Machine" "fields" "I" ∈ eW (zV b e D A X) := z_e zx1491 rfl
theorem zw1492 : Cond.fieldLink RX12 607 "LinkHouse$Machine" "fields" "I" ∈ eW (zV b e D A X) := z_e zx1492 rfl
theorem zw1493 : Cond.fieldLink RX6 41 "LinkHouse$Machine" "statics" "[I" ∈ eW (zV b e D A X) := z_e zx1493 rfl
theorem zw1494 : Cond.fieldLink RX6 68 "LinkHouse$Machine" "steps" "I" ∈ eW (zV b e D A X) := z_e zx1494 rfl
theorem zw1495 : Cond.fieldLink RX12 598 "LinkHouse$Machine" "steps" "I" ∈ eW (zV b e D A X) := z_e zx1495 rfl
theorem zw1496 : Cond.fieldLink RX6 44 "LinkHouse$Machine" "out" "[I" ∈ eW (zV b e D A X) := z_e zx1496 rfl
theorem zw1497 : Cond.fieldLink RX12 613 "LinkHouse$Machine" "out" "[I" ∈ eW (zV b e D A X) := z_e zx1497 rfl
theorem zw1498 : Cond.fieldLink RX6 71 "LinkHouse$Machine" "outs" "I" ∈ eW (zV b e D A X) := z_e zx1498 rfl
theorem zw1499 : Cond.fieldLink RX12 601 "LinkHouse$Machine" "outs" "I" ∈ eW (zV b e D A X) := z_e zx1499 rfl
theorem zw1500 : Cond.fieldLink RX6 74 "LinkHouse$Machine" "failure" "I" ∈ eW (zV b e D A X) := z_e zx1500 rfl
theorem zw1501 : Cond.fieldLink RX12 582 "LinkHouse$Machine" "failure" "I" ∈ eW (zV b e D A X) := z_e zx1501 rfl
theorem zw1502 : Cond.fieldLink RX6 77 "LinkHouse$Machine" "thrown" "I" ∈ eW (zV b e D A X) := z_e zx1502 rfl
theorem zw1503 : Cond.fieldLink RX12 589 "LinkHouse$Machine" "thrown" "I" ∈ eW (zV b e D A X) := z_e zx1503 rfl
theorem zw1504 : Cond.fieldLink RX6 80 "LinkHouse$Machine" "given" "I" ∈ eW (zV b e D A X) := z_e zx1504 rfl
theorem zw1505 : Cond.fieldLink RX12 595 "LinkHouse$Machine" "given" "I" ∈ eW (zV b e D A X) := z_e zx1505 rfl
theorem zw1547 : Cond.methodLink RX12 103 yX1_init ∈ eW (zV b e D A X) := z_e zx1547 rfl
theorem zw1548 : Cond.methodLink RX12 106 yJ7_fill_53178 ∈ eW (zV b e D A X) := z_e zx1548 rfl
theorem zw1549 : Cond.methodLink RX12 112 yX12_gather ∈ eW (zV b e D A X) := z_e zx1549 rfl
theorem zw1551 : Cond.instanceMethod yX12_gather ∈ eW (zV b e D A X) := z_e zx1551 rfl
theorem zw1552 : Cond.code yX12_gather cX12_gather 4 none ∈ eW (zV b e D A X) := z_e zx1552 rfl
theorem zw1553 : Cond.methodLink RX12 172 yX11_clear ∈ eW (zV b e D A X) := z_e zx1553 rfl
theorem zw1554 : Cond.instanceMethod yX11_clear ∈ eW (zV b e D A X) := z_e zx1554 rfl
theorem zw1555 : Cond.selects RX11 yX11_clear yX11_clear ∈ eW (zV b e D A X) := z_e zx1555 rfl
theorem zw1556 : Cond.code yX11_clear cX11_clear 1 none ∈ eW (zV b e D A X) := z_e zx1556 rfl
theorem zw1557 : Cond.methodLink RX12 139 yX12_buildOf ∈ eW (zV b e D A X) := z_e zx1557 rfl
theorem zw1559 : Cond.instanceMethod yX12_buildOf ∈ eW (zV b e D A X) := z_e zx1559 rfl
theorem zw1560 : Cond.code yX12_buildOf cX12_buildOf 5 (some (.object "LinkHouse$Build")) ∈ eW (zV b e D A X) := z_e zx1560 rfl
theorem zw1561 : Cond.methodLink RX12 149 yX12_allBuilt ∈ eW (zV b e D A X) := z_e zx1561 rfl
theorem zw1563 : Cond.instanceMethod yX12_allBuilt ∈ eW (zV b e D A X) := z_e zx1563 rfl
theorem zw1564 : Cond.code yX12_allBuilt cX12_allBuilt 3 (some .int) ∈ eW (zV b e D A X) := z_e zx1564 rfl
theorem zw1565 : Cond.methodLink RX12 174 yX11_enter ∈ eW (zV b e D A X) := z_e zx1565 rfl
theorem zw1566 : Cond.instanceMethod yX11_enter ∈ eW (zV b e D A X) := z_e zx1566 rfl
theorem zw1567 : Cond.selects RX11 yX11_enter yX11_enter ∈ eW (zV b e D A X) := z_e zx1567 rfl
theorem zw1568 : Cond.code yX11_enter cX11_enter 5 none ∈ eW (zV b e D A X) := z_e zx1568 rfl
theorem zw1569 : Cond.methodLink RX12 178 yX11_settle ∈ eW (zV b e D A X) := z_e zx1569 rfl
theorem zw1570 : Cond.instanceMethod yX11_settle ∈ eW (zV b e D A X) := z_e zx1570 rfl
theorem zw1571 : Cond.selects RX11 yX11_settle yX11_settle ∈ eW (zV b e D A X) := z_e zx1571 rfl
theorem zw1572 : Cond.code yX11_settle cX11_settle 5 none ∈ eW (zV b e D A X) := z_e zx1572 rfl
theorem zw1573 : Cond.methodLink RX11 134 yX11_find ∈ eW (zV b e D A X) := z_e zx1573 rfl
theorem zw1574 : Cond.instanceMethod yX11_find ∈ eW (zV b e D A X) := z_e zx1574 rfl
theorem zw1575 : Cond.selects RX11 yX11_find yX11_find ∈ eW (zV b e D A X) := z_e zx1575 rfl
theorem zw1576 : Cond.code yX11_find cX11_find 4 (some .int) ∈ eW (zV b e D A X) := z_e zx1576 rfl
theorem zw1577 : Cond.methodLink RX11 141 yX10_has ∈ eW (zV b e D A X) := z_e zx1577 rfl
theorem zw1578 : Cond.instanceMethod yX10_has ∈ eW (zV b e D A X) := z_e zx1578 rfl
theorem zw1579 : Cond.selects RX10 yX10_has yX10_has ∈ eW (zV b e D A X) := z_e zx1579 rfl
theorem zw1580 : Cond.code yX10_has cX10_has 5 (some .boolean) ∈ eW (zV b e D A X) := z_e zx1580 rfl
theorem zw1581 : Cond.methodLink RX11 145 yX11_bars ∈ eW (zV b e D A X) := z_e zx1581 rfl
theorem zw1583 : Cond.instanceMethod yX11_bars ∈ eW (zV b e D A X) := z_e zx1583 rfl
theorem zw1584 : Cond.code yX11_bars cX11_bars 5 (some .int) ∈ eW (zV b e D A X) := z_e zx1584 rfl
theorem zw1585 : Cond.methodLink RX11 152 yX10_listedAt ∈ eW (zV b e D A X) := z_e zx1585 rfl
theorem zw1586 : Cond.instanceMethod yX10_listedAt ∈ eW (zV b e D A X) := z_e zx1586 rfl
theorem zw1587 : Cond.selects RX10 yX10_listedAt yX10_listedAt ∈ eW (zV b e D A X) := z_e zx1587 rfl
theorem zw1588 : Cond.code yX10_listedAt cX10_listedAt 3 (some .long) ∈ eW (zV b e D A X) := z_e zx1588 rfl
theorem zw1589 : Cond.methodLink RX11 156 yX11_close ∈ eW (zV b e D A X) := z_e zx1589 rfl
theorem zw1591 : Cond.instanceMethod yX11_close ∈ eW (zV b e D A X) := z_e zx1591 rfl
theorem zw1592 : Cond.code yX11_close cX11_close 7 none ∈ eW (zV b e D A X) := z_e zx1592 rfl
theorem zw1593 : Cond.methodLink RX12 116 yX6_clear ∈ eW (zV b e D A X) := z_e zx1593 rfl
theorem zw1594 : Cond.instanceMethod yX6_clear ∈ eW (zV b e D A X) := z_e zx1594 rfl
theorem zw1595 : Cond.selects RX6 yX6_clear yX6_clear ∈ eW (zV b e D A X) := z_e zx1595 rfl
theorem zw1596 : Cond.code yX6_clear cX6_clear 2 none ∈ eW (zV b e D A X) := z_e zx1596 rfl
theorem zw1597 : Cond.methodLink RX6 51 yX5_clear ∈ eW (zV b e D A X) := z_e zx1597 rfl
theorem zw1598 : Cond.instanceMethod yX5_clear ∈ eW (zV b e D A X) := z_e zx1598 rfl
theorem zw1599 : Cond.selects RX5 yX5_clear yX5_clear ∈ eW (zV b e D A X) := z_e zx1599 rfl
theorem zw1600 : Cond.code yX5_clear cX5_clear 4 none ∈ eW (zV b e D A X) := z_e zx1600 rfl
theorem zw1601 : Cond.methodLink RX5 55 yJ7_fill_53178 ∈ eW (zV b e D A X) := z_e zx1601 rfl
theorem zw1602 : Cond.methodLink RX6 62 yJ7_fill_53178 ∈ eW (zV b e D A X) := z_e zx1602 rfl
theorem zw1603 : Cond.fieldLink RX12 9 "LinkHouse" "tape" "[B" ∈ eW (zV b e D A X) := z_e zx1603 rfl
theorem zw1604 : Cond.fieldLink RX12 120 "LinkHouse" "tapeLength" "I" ∈ eW (zV b e D A X) := z_e zx1604 rfl
theorem zw1605 : Cond.fieldLink RX12 13 "LinkHouse" "out" "[B" ∈ eW (zV b e D A X) := z_e zx1605 rfl
theorem zw1606 : Cond.fieldLink RX12 146 "LinkHouse" "outLength" "I" ∈ eW (zV b e D A X) := z_e zx1606 rfl
theorem zw1607 : Cond.fieldLink RX12 18 "LinkHouse" "store" "[LLinkHouse$Build;" ∈ eW (zV b e D A X) := z_e zx1607 rfl
theorem zw1608 : Cond.fieldLink RX12 22 "LinkHouse" "built" "[I" ∈ eW (zV b e D A X) := z_e zx1608 rfl
theorem zw1609 : Cond.fieldLink RX12 26 "LinkHouse" "standing" "[I" ∈ eW (zV b e D A X) := z_e zx1609 rfl
theorem zw1610 : Cond.fieldLink RX12 29 "LinkHouse" "trial" "[I" ∈ eW (zV b e D A X) := z_e zx1610 rfl
theorem zw1611 : Cond.fieldLink RX12 35 "LinkHouse" "reader" "LLinkHouse$Reader;" ∈ eW (zV b e D A X) := z_e zx1611 rfl
theorem zw1612 : Cond.fieldLink RX12 42 "LinkHouse" "judge" "LLinkHouse$Judge;" ∈ eW (zV b e D A X) := z_e zx1612 rfl
theorem zw1613 : Cond.fieldLink RX12 49 "LinkHouse" "bodies" "LLinkHouse$Bodies;" ∈ eW (zV b e D A X) := z_e zx1613 rfl
theorem zw1614 : Cond.fieldLink RX12 56 "LinkHouse" "emitter" "LLinkHouse$Emitter;" ∈ eW (zV b e D A X) := z_e zx1614 rfl
theorem zw1615 : Cond.fieldLink RX12 60 "LinkHouse" "faultPlace" "I" ∈ eW (zV b e D A X) := z_e zx1615 rfl
theorem zw1616 : Cond.fieldLink RX12 67 "LinkHouse" "world" "LLinkHouse$World;" ∈ eW (zV b e D A X) := z_e zx1616 rfl
theorem zw1617 : Cond.fieldLink RX12 71 "LinkHouse" "spare" "LLinkHouse$World;" ∈ eW (zV b e D A X) := z_e zx1617 rfl
theorem zw1618 : Cond.fieldLink RX12 79 "LinkHouse" "meeter" "LLinkHouse$Loader;" ∈ eW (zV b e D A X) := z_e zx1618 rfl
theorem zw1619 : Cond.fieldLink RX12 83 "LinkHouse" "checker" "LLinkHouse$Loader;" ∈ eW (zV b e D A X) := z_e zx1619 rfl
theorem zw1620 : Cond.fieldLink RX12 86 "LinkHouse" "lost" "[I" ∈ eW (zV b e D A X) := z_e zx1620 rfl
theorem zw1621 : Cond.fieldLink RX12 227 "LinkHouse" "lostCount" "I" ∈ eW (zV b e D A X) := z_e zx1621 rfl
theorem zw1622 : Cond.fieldLink RX12 92 "LinkHouse" "differ" "LLinkHouse$Differ;" ∈ eW (zV b e D A X) := z_e zx1622 rfl
theorem zw1623 : Cond.fieldLink RX12 99 "LinkHouse" "machine" "LLinkHouse$Machine;" ∈ eW (zV b e D A X) := z_e zx1623 rfl
theorem zw1670 : Cond.code yX12_feed cX12_feed 6 (some .int) ∈ eW (zV b e D A X) := z_e zx1670 rfl
theorem zw1671 : Cond.methodLink RX12 123 yX12_fourBytes ∈ eW (zV b e D A X) := z_e zx1671 rfl
theorem zw1673 : Cond.instanceMethod yX12_fourBytes ∈ eW (zV b e D A X) := z_e zx1673 rfl
theorem zw1674 : Cond.code yX12_fourBytes cX12_fourBytes 3 none ∈ eW (zV b e D A X) := z_e zx1674 rfl
theorem zw1678 : Cond.code yX12_cut cX12_cut 2 (some .int) ∈ eW (zV b e D A X) := z_e zx1678 rfl
theorem zw1682 : Cond.code yX12_splice cX12_splice 6 (some .int) ∈ eW (zV b e D A X) := z_e zx1682 rfl
theorem zw1683 : Cond.methodLink RX12 126 yX12_unused ∈ eW (zV b e D A X) := z_e zx1683 rfl
theorem zw1685 : Cond.instanceMethod yX12_unused ∈ eW (zV b e D A X) := z_e zx1685 rfl
theorem zw1686 : Cond.code yX12_unused cX12_unused 1 (some (.object "LinkHouse$Build")) ∈ eW (zV b e D A X) := z_e zx1686 rfl
theorem zw1687 : Cond.methodLink RX12 159 yJ9_min_7cf53 ∈ eW (zV b e D A X) := z_e zx1687 rfl
theorem zw1688 : Cond.static yJ9_min_7cf53 ∈ eW (zV b e D A X) := z_e zx1688 rfl
theorem zw1689 : Cond.code yJ9_min_7cf53 cJ9_min_7cf53 2 (some .int) ∈ eW (zV b e D A X) := z_e zx1689 rfl
theorem zw1690 : Cond.methodLink RX12 133 arraycopyName ∈ eW (zV b e D A X) := z_e zx1690 rfl
theorem zw1691 : Cond.static arraycopyName ∈ eW (zV b e D A X) := z_e zx1691 rfl
theorem zw1692 : Cond.native arraycopyName ∈ eW (zV b e D A X) := z_e zx1692 rfl
theorem zw1696 : Cond.code yX12_text cX12_text 4 (some .int) ∈ eW (zV b e D A X) := z_e zx1696 rfl
theorem zw1700 : Cond.code yX12_size cX12_size 1 (some .int) ∈ eW (zV b e D A X) := z_e zx1700 rfl
theorem zw1704 : Cond.code yX12_octet cX12_octet 2 (some .int) ∈ eW (zV b e D A X) := z_e zx1704 rfl
theorem zw1708 : Cond.code yX12_make cX12_make 5 (some .int) ∈ eW (zV b e D A X) := z_e zx1708 rfl
theorem zw1709 : Cond.methodLink RX12 181 yX12_isLibrary ∈ eW (zV b e D A X) := z_e zx1709 rfl
theorem zw1710 : Cond.static yX12_isLibrary ∈ eW (zV b e D A X) := z_e zx1710 rfl
theorem zw1711 : Cond.code yX12_isLibrary cX12_isLibrary 1 (some .boolean) ∈ eW (zV b e D A X) := z_e zx1711 rfl
theorem zw1712 : Cond.methodLink RX12 185 yX12_isFull ∈ eW (zV b e D A X) := z_e zx1712 rfl
theorem zw1714 : Cond.instanceMethod yX12_isFull ∈ eW (zV b e D A X) := z_e zx1714 rfl
theorem zw1715 : Cond.code yX12_isFull cX12_isFull 2 (some .boolean) ∈ eW (zV b e D A X) := z_e zx1715 rfl
theorem zw1716 : Cond.methodLink RX12 188 yX9_read ∈ eW (zV b e D A X) := z_e zx1716 rfl
theorem zw1717 : Cond.instanceMethod yX9_read ∈ eW (zV b e D A X) := z_e zx1717 rfl
theorem zw1718 : Cond.selects RX9 yX9_read yX9_read ∈ eW (zV b e D A X) := z_e zx1718 rfl
theorem zw1719 : Cond.code yX9_read cX9_read 7 (some .boolean) ∈ eW (zV b e D A X) := z_e zx1719 rfl
theorem zw1720 : Cond.methodLink RX9 55 yX1_clear ∈ eW (zV b e D A X) := z_e zx1720 rfl
theorem zw1721 : Cond.instanceMethod yX1_clear ∈ eW (zV b e D A X) := z_e zx1721 rfl
theorem zw1722 : Cond.selects RX1 yX1_clear yX1_clear ∈ eW (zV b e D A X) := z_e zx1722 rfl
theorem zw1723 : Cond.code yX1_clear cX1_clear 1 none ∈ eW (zV b e D A X) := z_e zx1723 rfl
theorem zw1724 : Cond.methodLink RX9 70 yX9_scanAll ∈ eW (zV b e D A X) := z_e zx1724 rfl
theorem zw1726 : Cond.instanceMethod yX9_scanAll ∈ eW (zV b e D A X) := z_e zx1726 rfl
theorem zw1727 : Cond.code yX9_scanAll cX9_scanAll 5 none ∈ eW (zV b e D A X) := z_e zx1727 rfl
theorem zw1728 : Cond.methodLink RX9 117 yX9_scan ∈ eW (zV b e D A X) := z_e zx1728 rfl
theorem zw1730 : Cond.instanceMethod yX9_scan ∈ eW (zV b e D A X) := z_e zx1730 rfl
theorem zw1731 : Cond.code yX9_scan cX9_scan 6 (some .int) ∈ eW (zV b e D A X) := z_e zx1731 rfl
theorem zw1732 : Cond.methodLink RX9 137 yX9_scanName ∈ eW (zV b e D A X) := z_e zx1732 rfl
theorem zw1734 : Cond.instanceMethod yX9_scanName ∈ eW (zV b e D A X) := z_e zx1734 rfl
theorem zw1735 : Cond.code yX9_scanName cX9_scanName 8 (some .int) ∈ eW (zV b e D A X) := z_e zx1735 rfl
theorem zw1736 : Cond.methodLink RX9 140 yX9_scanNumber ∈ eW (zV b e D A X) := z_e zx1736 rfl
theorem zw1738 : Cond.instanceMethod yX9_scanNumber ∈ eW (zV b e D A X) := z_e zx1738 rfl
theorem zw1739 : Cond.code yX9_scanNumber cX9_scanNumber 5 (some .int) ∈ eW (zV b e D A X) := z_e zx1739 rfl
theorem zw1740 : Cond.constantLong RX9 146 (10) ∈ eW (zV b e D A X) := z_e zx1740 rfl
theorem zw1741 : Cond.methodLink RX9 143 yX9_isSign ∈ eW (zV b e D A X) := z_e zx1741 rfl
theorem zw1742 : Cond.static yX9_isSign ∈ eW (zV b e D A X) := z_e zx1742 rfl
theorem zw1743 : Cond.code yX9_isSign cX9_isSign 1 (some .boolean) ∈ eW (zV b e D A X) := z_e zx1743 rfl
theorem zw1744 : Cond.methodLink RX9 74 yX9_now ∈ eW (zV b e D A X) := z_e zx1744 rfl
theorem zw1746 : Cond.instanceMethod yX9_now ∈ eW (zV b e D A X) := z_e zx1746 rfl
theorem zw1747 : Cond.code yX9_now cX9_now 1 (some .int) ∈ eW (zV b e D A X) := z_e zx1747 rfl
theorem zw1748 : Cond.methodLink RX9 77 yX9_readHead ∈ eW (zV b e D A X) := z_e zx1748 rfl
theorem zw1750 : Cond.instanceMethod yX9_readHead ∈ eW (zV b e D A X) := z_e zx1750 rfl
theorem zw1751 : Cond.code yX9_readHead cX9_readHead 5 (some (.object "LinkHouse$Row")) ∈ eW (zV b e D A X) := z_e zx1751 rfl
theorem zw1752 : Cond.methodLink RX9 158 yX9_take ∈ eW (zV b e D A X) := z_e zx1752 rfl
theorem zw1754 : Cond.instanceMethod yX9_take ∈ eW (zV b e D A X) := z_e zx1754 rfl
theorem zw1755 : Cond.code yX9_take cX9_take 1 (some .boolean) ∈ eW (zV b e D A X) := z_e zx1755 rfl
theorem zw1756 : Cond.methodLink RX9 148 yX9_stop ∈ eW (zV b e D A X) := z_e zx1756 rfl
theorem zw1758 : Cond.instanceMethod yX9_stop ∈ eW (zV b e D A X) := z_e zx1758 rfl
theorem zw1759 : Cond.code yX9_stop cX9_stop 2 (some .boolean) ∈ eW (zV b e D A X) := z_e zx1759 rfl
theorem zw1760 : Cond.methodLink RX9 151 yX9_miss ∈ eW (zV b e D A X) := z_e zx1760 rfl
theorem zw1762 : Cond.instanceMethod yX9_miss ∈ eW (zV b e D A X) := z_e zx1762 rfl
theorem zw1763 : Cond.code yX9_miss cX9_miss 1 (some .boolean) ∈ eW (zV b e D A X) := z_e zx1763 rfl
theorem zw1764 : Cond.methodLink RX9 161 yX1_newRow ∈ eW (zV b e D A X) := z_e zx1764 rfl
theorem zw1765 : Cond.methodLink RX9 184 yX9_readParents ∈ eW (zV b e D A X) := z_e zx1765 rfl
theorem zw1767 : Cond.instanceMethod yX9_readParents ∈ eW (zV b e D A X) := z_e zx1767 rfl
theorem zw1768 : Cond.code yX9_readParents cX9_readParents 2 (some .boolean) ∈ eW (zV b e D A X) := z_e zx1768 rfl
theorem zw1769 : Cond.methodLink RX9 193 yX9_readList ∈ eW (zV b e D A X) := z_e zx1769 rfl
theorem zw1771 : Cond.instanceMethod yX9_readList ∈ eW (zV b e D A X) := z_e zx1771 rfl
theorem zw1772 : Cond.code yX9_readList cX9_readList 7 (some .boolean) ∈ eW (zV b e D A X) := z_e zx1772 rfl
theorem zw1773 : Cond.methodLink RX9 203 yX10_list ∈ eW (zV b e D A X) := z_e zx1773 rfl
theorem zw1774 : Cond.instanceMethod yX10_list ∈ eW (zV b e D A X) := z_e zx1774 rfl
theorem zw1775 : Cond.selects RX10 yX10_list yX10_list ∈ eW (zV b e D A X) := z_e zx1775 rfl
theorem zw1776 : Cond.code yX10_list cX10_list 4 none ∈ eW (zV b e D A X) := z_e zx1776 rfl
theorem zw1777 : Cond.methodLink RX9 101 yX9_need ∈ eW (zV b e D A X) := z_e zx1777 rfl
theorem zw1779 : Cond.instanceMethod yX9_need ∈ eW (zV b e D A X) := z_e zx1779 rfl
theorem zw1780 : Cond.code yX9_need cX9_need 2 (some .boolean) ∈ eW (zV b e D A X) := z_e zx1780 rfl
theorem zw1781 : Cond.methodLink RX9 81 yX9_readMember ∈ eW (zV b e D A X) := z_e zx1781 rfl
theorem zw1783 : Cond.instanceMethod yX9_readMember ∈ eW (zV b e D A X) := z_e zx1783 rfl
theorem zw1784 : Cond.code yX9_readMember cX9_readMember 4 (some .boolean) ∈ eW (zV b e D A X) := z_e zx1784 rfl
theorem zw1785 : Cond.methodLink RX9 207 yX1_newMember ∈ eW (zV b e D A X) := z_e zx1785 rfl
theorem zw1786 : Cond.methodLink RX9 211 yX10_addItem ∈ eW (zV b e D A X) := z_e zx1786 rfl
theorem zw1787 : Cond.instanceMethod yX10_addItem ∈ eW (zV b e D A X) := z_e zx1787 rfl
theorem zw1788 : Cond.selects RX10 yX10_addItem yX10_addItem ∈ eW (zV b e D A X) := z_e zx1788 rfl
theorem zw1789 : Cond.code yX10_addItem cX10_addItem 2 none ∈ eW (zV b e D A X) := z_e zx1789 rfl
theorem zw1790 : Cond.methodLink RX9 220 yX10_add ∈ eW (zV b e D A X) := z_e zx1790 rfl
theorem zw1791 : Cond.methodLink RX9 226 yX9_readParams ∈ eW (zV b e D A X) := z_e zx1791 rfl
theorem zw1793 : Cond.instanceMethod yX9_readParams ∈ eW (zV b e D A X) := z_e zx1793 rfl
theorem zw1794 : Cond.code yX9_readParams cX9_readParams 4 (some .boolean) ∈ eW (zV b e D A X) := z_e zx1794 rfl
theorem zw1795 : Cond.constantLong RX9 239 (-1) ∈ eW (zV b e D A X) := z_e zx1795 rfl
theorem zw1796 : Cond.methodLink RX9 234 yX9_readTyped ∈ eW (zV b e D A X) := z_e zx1796 rfl
theorem zw1798 : Cond.instanceMethod yX9_readTyped ∈ eW (zV b e D A X) := z_e zx1798 rfl
theorem zw1799 : Cond.code yX9_readTyped cX9_readTyped 3 (some .boolean) ∈ eW (zV b e D A X) := z_e zx1799 rfl
theorem zw1800 : Cond.constantLong RX9 237 (-3) ∈ eW (zV b e D A X) := z_e zx1800 rfl
theorem zw1801 : Cond.methodLink RX9 97 yX9_readBody ∈ eW (zV b e D A X) := z_e zx1801 rfl
theorem zw1803 : Cond.instanceMethod yX9_readBody ∈ eW (zV b e D A X) := z_e zx1803 rfl
theorem zw1804 : Cond.code yX9_readBody cX9_readBody 2 (some .boolean) ∈ eW (zV b e D A X) := z_e zx1804 rfl
theorem zw1805 : Cond.methodLink RX9 254 yX9_block ∈ eW (zV b e D A X) := z_e zx1805 rfl
theorem zw1807 : Cond.instanceMethod yX9_block ∈ eW (zV b e D A X) := z_e zx1807 rfl
theorem zw1808 : Cond.code yX9_block cX9_block 6 (some (.object "LinkHouse$Node")) ∈ eW (zV b e D A X) := z_e zx1808 rfl
theorem zw1809 : Cond.methodLink RX9 266 yX9_node ∈ eW (zV b e D A X) := z_e zx1809 rfl
theorem zw1811 : Cond.instanceMethod yX9_node ∈ eW (zV b e D A X) := z_e zx1811 rfl
theorem zw1812 : Cond.code yX9_node cX9_node 4 (some (.object "LinkHouse$Node")) ∈ eW (zV b e D A X) := z_e zx1812 rfl
theorem zw1813 : Cond.methodLink RX9 155 yX8_clear ∈ eW (zV b e D A X) := z_e zx1813 rfl
theorem zw1814 : Cond.instanceMethod yX8_clear ∈ eW (zV b e D A X) := z_e zx1814 rfl
theorem zw1815 : Cond.selects RX8 yX8_clear yX8_clear ∈ eW (zV b e D A X) := z_e zx1815 rfl
theorem zw1816 : Cond.code yX8_clear cX8_clear 3 none ∈ eW (zV b e D A X) := z_e zx1816 rfl
theorem zw1817 : Cond.constantLong RX8 40 (-4) ∈ eW (zV b e D A X) := z_e zx1817 rfl
theorem zw1818 : Cond.methodLink RX9 270 yX9_statement ∈ eW (zV b e D A X) := z_e zx1818 rfl
theorem zw1820 : Cond.instanceMethod yX9_statement ∈ eW (zV b e D A X) := z_e zx1820 rfl
theorem zw1821 : Cond.code yX9_statement cX9_statement 5 (some (.object "LinkHouse$Node")) ∈ eW (zV b e D A X) := z_e zx1821 rfl
theorem zw1822 : Cond.methodLink RX9 279 yX9_beginsE ∈ eW (zV b e D A X) := z_e zx1822 rfl
theorem zw1823 : Cond.static yX9_beginsE ∈ eW (zV b e D A X) := z_e zx1823 rfl
theorem zw1824 : Cond.code yX9_beginsE cX9_beginsE 1 (some .boolean) ∈ eW (zV b e D A X) := z_e zx1824 rfl
theorem zw1825 : Cond.methodLink RX9 282 yX9_behind ∈ eW (zV b e D A X) := z_e zx1825 rfl
theorem zw1827 : Cond.instanceMethod yX9_behind ∈ eW (zV b e D A X) := z_e zx1827 rfl
theorem zw1828 : Cond.code yX9_behind cX9_behind 1 (some .int) ∈ eW (zV b e D A X) := z_e zx1828 rfl
theorem zw1829 : Cond.methodLink RX9 285 yX9_args ∈ eW (zV b e D A X) := z_e zx1829 rfl
theorem zw1831 : Cond.instanceMethod yX9_args ∈ eW (zV b e D A X) := z_e zx1831 rfl
theorem zw1832 : Cond.code yX9_args cX9_args 7 (some .boolean) ∈ eW (zV b e D A X) := z_e zx1832 rfl
theorem zw1833 : Cond.methodLink RX9 257 yX9_expr ∈ eW (zV b e D A X) := z_e zx1833 rfl
theorem zw1835 : Cond.instanceMethod yX9_expr ∈ eW (zV b e D A X) := z_e zx1835 rfl
theorem zw1836 : Cond.code yX9_expr cX9_expr 4 (some (.object "LinkHouse$Node")) ∈ eW (zV b e D A X) := z_e zx1836 rfl
theorem zw1837 : Cond.methodLink RX9 315 yX9_chain ∈ eW (zV b e D A X) := z_e zx1837 rfl
theorem zw1839 : Cond.instanceMethod yX9_chain ∈ eW (zV b e D A X) := z_e zx1839 rfl
theorem zw1840 : Cond.code yX9_chain cX9_chain 8 (some (.object "LinkHouse$Node")) ∈ eW (zV b e D A X) := z_e zx1840 rfl
theorem zw1841 : Cond.methodLink RX9 325 yX9_unit ∈ eW (zV b e D A X) := z_e zx1841 rfl
theorem zw1843 : Cond.instanceMethod yX9_unit ∈ eW (zV b e D A X) := z_e zx1843 rfl
theorem zw1844 : Cond.code yX9_unit cX9_unit 7 (some (.object "LinkHouse$Node")) ∈ eW (zV b e D A X) := z_e zx1844 rfl
theorem zw1845 : Cond.methodLink RX9 332 yX9_front ∈ eW (zV b e D A X) := z_e zx1845 rfl
theorem zw1847 : Cond.instanceMethod yX9_front ∈ eW (zV b e D A X) := z_e zx1847 rfl
theorem zw1848 : Cond.code yX9_front cX9_front 4 (some (.object "LinkHouse$Node")) ∈ eW (zV b e D A X) := z_e zx1848 rfl
theorem zw1849 : Cond.methodLink RX9 338 yX9_ofClass ∈ eW (zV b e D A X) := z_e zx1849 rfl
theorem zw1851 : Cond.instanceMethod yX9_ofClass ∈ eW (zV b e D A X) := z_e zx1851 rfl
theorem zw1852 : Cond.code yX9_ofClass cX9_ofClass 3 (some (.object "LinkHouse$Node")) ∈ eW (zV b e D A X) := z_e zx1852 rfl
theorem zw1853 : Cond.methodLink RX9 341 yX9_superCall ∈ eW (zV b e D A X) := z_e zx1853 rfl
theorem zw1855 : Cond.instanceMethod yX9_superCall ∈ eW (zV b e D A X) := z_e zx1855 rfl
theorem zw1856 : Cond.code yX9_superCall cX9_superCall 3 (some .boolean) ∈ eW (zV b e D A X) := z_e zx1856 rfl
theorem zw1857 : Cond.methodLink RX9 344 yX9_round ∈ eW (zV b e D A X) := z_e zx1857 rfl
theorem zw1859 : Cond.instanceMethod yX9_round ∈ eW (zV b e D A X) := z_e zx1859 rfl
theorem zw1860 : Cond.code yX9_round cX9_round 3 (some (.object "LinkHouse$Node")) ∈ eW (zV b e D A X) := z_e zx1860 rfl
theorem zw1861 : Cond.methodLink RX9 335 yX9_behindUnit ∈ eW (zV b e D A X) := z_e zx1861 rfl
theorem zw1863 : Cond.instanceMethod yX9_behindUnit ∈ eW (zV b e D A X) := z_e zx1863 rfl
theorem zw1864 : Cond.code yX9_behindUnit cX9_behindUnit 4 (some (.object "LinkHouse$Node")) ∈ eW (zV b e D A X) := z_e zx1864 rfl
theorem zw1865 : Cond.methodLink RX9 328 yX9_isChained ∈ eW (zV b e D A X) := z_e zx1865 rfl
theorem zw1866 : Cond.static yX9_isChained ∈ eW (zV b e D A X) := z_e zx1866 rfl
theorem zw1867 : Cond.code yX9_isChained cX9_isChained 2 (some .boolean) ∈ eW (zV b e D A X) := z_e zx1867 rfl
theorem zw1868 : Cond.methodLink RX9 289 yX9_simple ∈ eW (zV b e D A X) := z_e zx1868 rfl
theorem zw1870 : Cond.instanceMethod yX9_simple ∈ eW (zV b e D A X) := z_e zx1870 rfl
theorem zw1871 : Cond.code yX9_simple cX9_simple 3 (some (.object "LinkHouse$Node")) ∈ eW (zV b e D A X) := z_e zx1871 rfl
theorem zw1872 : Cond.methodLink RX9 292 yX9_worded ∈ eW (zV b e D A X) := z_e zx1872 rfl
theorem zw1874 : Cond.instanceMethod yX9_worded ∈ eW (zV b e D A X) := z_e zx1874 rfl
theorem zw1875 : Cond.code yX9_worded cX9_worded 4 (some (.object "LinkHouse$Node")) ∈ eW (zV b e D A X) := z_e zx1875 rfl
theorem zw1876 : Cond.methodLink RX9 299 yX9_tested ∈ eW (zV b e D A X) := z_e zx1876 rfl
theorem zw1878 : Cond.instanceMethod yX9_tested ∈ eW (zV b e D A X) := z_e zx1878 rfl
theorem zw1879 : Cond.code yX9_tested cX9_tested 4 (some (.object "LinkHouse$Node")) ∈ eW (zV b e D A X) := z_e zx1879 rfl
theorem zw1880 : Cond.methodLink RX9 303 yX9_tried ∈ eW (zV b e D A X) := z_e zx1880 rfl
theorem zw1882 : Cond.instanceMethod yX9_tried ∈ eW (zV b e D A X) := z_e zx1882 rfl
theorem zw1883 : Cond.code yX9_tried cX9_tried 3 (some (.object "LinkHouse$Node")) ∈ eW (zV b e D A X) := z_e zx1883 rfl
theorem zw1884 : Cond.methodLink RX12 198 yX12_faulted ∈ eW (zV b e D A X) := z_e zx1884 rfl
theorem zw1886 : Cond.instanceMethod yX12_faulted ∈ eW (zV b e D A X) := z_e zx1886 rfl
theorem zw1887 : Cond.code yX12_faulted cX12_faulted 3 (some .int) ∈ eW (zV b e D A X) := z_e zx1887 rfl
theorem zw1888 : Cond.methodLink RX12 201 yX4_judge ∈ eW (zV b e D A X) := z_e zx1888 rfl
theorem zw1889 : Cond.instanceMethod yX4_judge ∈ eW (zV b e D A X) := z_e zx1889 rfl
theorem zw1890 : Cond.selects RX4 yX4_judge yX4_judge ∈ eW (zV b e D A X) := z_e zx1890 rfl
theorem zw1891 : Cond.code yX4_judge cX4_judge 5 (some .boolean) ∈ eW (zV b e D A X) := z_e zx1891 rfl
theorem zw1892 : Cond.methodLink RX4 35 yX4_head ∈ eW (zV b e D A X) := z_e zx1892 rfl
theorem zw1894 : Cond.instanceMethod yX4_head ∈ eW (zV b e D A X) := z_e zx1894 rfl
theorem zw1895 : Cond.code yX4_head cX4_head 8 (some .boolean) ∈ eW (zV b e D A X) := z_e zx1895 rfl
theorem zw1896 : Cond.methodLink RX4 58 yX4_fail ∈ eW (zV b e D A X) := z_e zx1896 rfl
theorem zw1898 : Cond.instanceMethod yX4_fail ∈ eW (zV b e D A X) := z_e zx1898 rfl
theorem zw1899 : Cond.code yX4_fail cX4_fail 3 (some .boolean) ∈ eW (zV b e D A X) := z_e zx1899 rfl
theorem zw1900 : Cond.constantLong RX4 78 (25) ∈ eW (zV b e D A X) := z_e zx1900 rfl
theorem zw1901 : Cond.methodLink RX4 45 yX11_find ∈ eW (zV b e D A X) := z_e zx1901 rfl
theorem zw1902 : Cond.methodLink RX4 96 yX4_barred ∈ eW (zV b e D A X) := z_e zx1902 rfl
theorem zw1904 : Cond.instanceMethod yX4_barred ∈ eW (zV b e D A X) := z_e zx1904 rfl
theorem zw1905 : Cond.code yX4_barred cX4_barred 4 (some .boolean) ∈ eW (zV b e D A X) := z_e zx1905 rfl
theorem zw1906 : Cond.methodLink RX4 114 yX10_has ∈ eW (zV b e D A X) := z_e zx1906 rfl
theorem zw1907 : Cond.methodLink RX4 104 yX10_listedAt ∈ eW (zV b e D A X) := z_e zx1907 rfl
theorem zw1908 : Cond.methodLink RX4 108 yX4_within ∈ eW (zV b e D A X) := z_e zx1908 rfl
theorem zw1910 : Cond.instanceMethod yX4_within ∈ eW (zV b e D A X) := z_e zx1910 rfl
theorem zw1911 : Cond.code yX4_within cX4_within 6 (some .boolean) ∈ eW (zV b e D A X) := z_e zx1911 rfl
theorem zw1912 : Cond.constantLong RX4 120 (-4) ∈ eW (zV b e D A X) := z_e zx1912 rfl
theorem zw1913 : Cond.methodLink RX4 122 yX1_named ∈ eW (zV b e D A X) := z_e zx1913 rfl
theorem zw1914 : Cond.instanceMethod yX1_named ∈ eW (zV b e D A X) := z_e zx1914 rfl
theorem zw1915 : Cond.selects RX1 yX1_named yX1_named ∈ eW (zV b e D A X) := z_e zx1915 rfl
theorem zw1916 : Cond.code yX1_named cX1_named 4 (some (.object "LinkHouse$Row")) ∈ eW (zV b e D A X) := z_e zx1916 rfl
theorem zw1917 : Cond.methodLink RX4 51 yX11_heir ∈ eW (zV b e D A X) := z_e zx1917 rfl
theorem zw1918 : Cond.instanceMethod yX11_heir ∈ eW (zV b e D A X) := z_e zx1918 rfl
theorem zw1919 : Cond.selects RX11 yX11_heir yX11_heir ∈ eW (zV b e D A X) := z_e zx1919 rfl
theorem zw1920 : Cond.code yX11_heir cX11_heir 3 (some .boolean) ∈ eW (zV b e D A X) := z_e zx1920 rfl
theorem zw1921 : Cond.methodLink RX4 61 yX4_items ∈ eW (zV b e D A X) := z_e zx1921 rfl
theorem zw1923 : Cond.instanceMethod yX4_items ∈ eW (zV b e D A X) := z_e zx1923 rfl
theorem zw1924 : Cond.code yX4_items cX4_items 5 none ∈ eW (zV b e D A X) := z_e zx1924 rfl
theorem zw1925 : Cond.methodLink RX4 132 yX4_oddInFace ∈ eW (zV b e D A X) := z_e zx1925 rfl
theorem zw1926 : Cond.static yX4_oddInFace ∈ eW (zV b e D A X) := z_e zx1926 rfl
theorem zw1927 : Cond.code yX4_oddInFace cX4_oddInFace 1 (some .boolean) ∈ eW (zV b e D A X) := z_e zx1927 rfl
theorem zw1928 : Cond.methodLink RX4 136 yX4_oddInClass ∈ eW (zV b e D A X) := z_e zx1928 rfl
theorem zw1929 : Cond.static yX4_oddInClass ∈ eW (zV b e D A X) := z_e zx1929 rfl
theorem zw1930 : Cond.code yX4_oddInClass cX4_oddInClass 2 (some .boolean) ∈ eW (zV b e D A X) := z_e zx1930 rfl
theorem zw1931 : Cond.methodLink RX4 143 yX4_settleInFace ∈ eW (zV b e D A X) := z_e zx1931 rfl
theorem zw1932 : Cond.static yX4_settleInFace ∈ eW (zV b e D A X) := z_e zx1932 rfl
theorem zw1933 : Cond.code yX4_settleInFace cX4_settleInFace 1 none ∈ eW (zV b e D A X) := z_e zx1933 rfl
theorem zw1934 : Cond.methodLink RX4 150 yX4_types ∈ eW (zV b e D A X) := z_e zx1934 rfl
theorem zw1936 : Cond.instanceMethod yX4_types ∈ eW (zV b e D A X) := z_e zx1936 rfl
theorem zw1937 : Cond.code yX4_types cX4_types 4 none ∈ eW (zV b e D A X) := z_e zx1937 rfl
theorem zw1938 : Cond.methodLink RX4 179 yX4_isType ∈ eW (zV b e D A X) := z_e zx1938 rfl
theorem zw1940 : Cond.instanceMethod yX4_isType ∈ eW (zV b e D A X) := z_e zx1940 rfl
theorem zw1941 : Cond.code yX4_isType cX4_isType 5 (some .boolean) ∈ eW (zV b e D A X) := z_e zx1941 rfl
theorem zw1942 : Cond.constantLong RX4 190 (-1) ∈ eW (zV b e D A X) := z_e zx1942 rfl
theorem zw1943 : Cond.constantLong RX4 192 (-3) ∈ eW (zV b e D A X) := z_e zx1943 rfl
theorem zw1944 : Cond.methodLink RX4 194 yX11_isLet ∈ eW (zV b e D A X) := z_e zx1944 rfl
theorem zw1945 : Cond.instanceMethod yX11_isLet ∈ eW (zV b e D A X) := z_e zx1945 rfl
theorem zw1946 : Cond.selects RX11 yX11_isLet yX11_isLet ∈ eW (zV b e D A X) := z_e zx1946 rfl
theorem zw1947 : Cond.code yX11_isLet cX11_isLet 3 (some .boolean) ∈ eW (zV b e D A X) := z_e zx1947 rfl
theorem zw1948 : Cond.methodLink RX4 154 yX4_twice ∈ eW (zV b e D A X) := z_e zx1948 rfl
theorem zw1950 : Cond.instanceMethod yX4_twice ∈ eW (zV b e D A X) := z_e zx1950 rfl
theorem zw1951 : Cond.code yX4_twice cX4_twice 5 none ∈ eW (zV b e D A X) := z_e zx1951 rfl
theorem zw1952 : Cond.methodLink RX4 204 yX7_sameParams ∈ eW (zV b e D A X) := z_e zx1952 rfl
theorem zw1953 : Cond.instanceMethod yX7_sameParams ∈ eW (zV b e D A X) := z_e zx1953 rfl
theorem zw1954 : Cond.selects RX7 yX7_sameParams yX7_sameParams ∈ eW (zV b e D A X) := z_e zx1954 rfl
theorem zw1955 : Cond.code yX7_sameParams cX7_sameParams 2 (some .boolean) ∈ eW (zV b e D A X) := z_e zx1955 rfl
theorem zw1956 : Cond.methodLink RX4 65 yX4_above ∈ eW (zV b e D A X) := z_e zx1956 rfl
theorem zw1958 : Cond.instanceMethod yX4_above ∈ eW (zV b e D A X) := z_e zx1958 rfl
theorem zw1959 : Cond.code yX4_above cX4_above 8 none ∈ eW (zV b e D A X) := z_e zx1959 rfl
theorem zw1960 : Cond.methodLink RX4 219 yX4_aboveIn ∈ eW (zV b e D A X) := z_e zx1960 rfl
theorem zw1962 : Cond.instanceMethod yX4_aboveIn ∈ eW (zV b e D A X) := z_e zx1962 rfl
theorem zw1963 : Cond.code yX4_aboveIn cX4_aboveIn 5 (some (.object "LinkHouse$Member")) ∈ eW (zV b e D A X) := z_e zx1963 rfl
theorem zw1964 : Cond.methodLink RX4 207 yX10_plain ∈ eW (zV b e D A X) := z_e zx1964 rfl
theorem zw1965 : Cond.instanceMethod yX10_plain ∈ eW (zV b e D A X) := z_e zx1965 rfl
theorem zw1966 : Cond.selects RX10 yX10_plain yX10_plain ∈ eW (zV b e D A X) := z_e zx1966 rfl
theorem zw1967 : Cond.code yX10_plain cX10_plain 4 (some (.object "LinkHouse$Member")) ∈ eW (zV b e D A X) := z_e zx1967 rfl
theorem zw1968 : Cond.methodLink RX10 110 yX7_sameParams ∈ eW (zV b e D A X) := z_e zx1968 rfl
theorem zw1969 : Cond.methodLink RX4 211 yX11_samePackage ∈ eW (zV b e D A X) := z_e zx1969 rfl
theorem zw1970 : Cond.instanceMethod yX11_samePackage ∈ eW (zV b e D A X) := z_e zx1970 rfl
theorem zw1971 : Cond.selects RX11 yX11_samePackage yX11_samePackage ∈ eW (zV b e D A X) := z_e zx1971 rfl
theorem zw1972 : Cond.code yX11_samePackage cX11_samePackage 3 (some .boolean) ∈ eW (zV b e D A X) := z_e zx1972 rfl
theorem zw1973 : Cond.methodLink RX4 223 yX4_against ∈ eW (zV b e D A X) := z_e zx1973 rfl
theorem zw1975 : Cond.instanceMethod yX4_against ∈ eW (zV b e D A X) := z_e zx1975 rfl
theorem zw1976 : Cond.code yX4_against cX4_against 4 none ∈ eW (zV b e D A X) := z_e zx1976 rfl
theorem zw1977 : Cond.methodLink RX4 234 yX11_fits ∈ eW (zV b e D A X) := z_e zx1977 rfl
theorem zw1978 : Cond.instanceMethod yX11_fits ∈ eW (zV b e D A X) := z_e zx1978 rfl
theorem zw1979 : Cond.selects RX11 yX11_fits yX11_fits ∈ eW (zV b e D A X) := z_e zx1979 rfl
theorem zw1980 : Cond.code yX11_fits cX11_fits 8 (some .boolean) ∈ eW (zV b e D A X) := z_e zx1980 rfl
theorem zw1981 : Cond.constantLong RX11 165 (-3) ∈ eW (zV b e D A X) := z_e zx1981 rfl
theorem zw1982 : Cond.constantLong RX11 167 (-2) ∈ eW (zV b e D A X) := z_e zx1982 rfl
theorem zw1983 : Cond.methodLink RX4 227 yX11_faces ∈ eW (zV b e D A X) := z_e zx1983 rfl
theorem zw1984 : Cond.instanceMethod yX11_faces ∈ eW (zV b e D A X) := z_e zx1984 rfl
theorem zw1985 : Cond.selects RX11 yX11_faces yX11_faces ∈ eW (zV b e D A X) := z_e zx1985 rfl
theorem zw1986 : Cond.code yX11_faces cX11_faces 12 (some .int) ∈ eW (zV b e D A X) := z_e zx1986 rfl
theorem zw1987 : Cond.constant RX11 169 (100000000) ∈ eW (zV b e D A X) := z_e zx1987 rfl
theorem zw1988 : Cond.methodLink RX4 68 yX4_impliedMaker ∈ eW (zV b e D A X) := z_e zx1988 rfl
theorem zw1990 : Cond.instanceMethod yX4_impliedMaker ∈ eW (zV b e D A X) := z_e zx1990 rfl
theorem zw1991 : Cond.code yX4_impliedMaker cX4_impliedMaker 3 none ∈ eW (zV b e D A X) := z_e zx1991 rfl
theorem zw1992 : Cond.methodLink RX4 238 yX10_hasMaker ∈ eW (zV b e D A X) := z_e zx1992 rfl
theorem zw1993 : Cond.instanceMethod yX10_hasMaker ∈ eW (zV b e D A X) := z_e zx1993 rfl
theorem zw1994 : Cond.selects RX10 yX10_hasMaker yX10_hasMaker ∈ eW (zV b e D A X) := z_e zx1994 rfl
theorem zw1995 : Cond.code yX10_hasMaker cX10_hasMaker 2 (some .boolean) ∈ eW (zV b e D A X) := z_e zx1995 rfl
theorem zw1996 : Cond.methodLink RX4 242 yX1_newMember ∈ eW (zV b e D A X) := z_e zx1996 rfl
theorem zw1997 : Cond.methodLink RX4 246 yX10_add ∈ eW (zV b e D A X) := z_e zx1997 rfl
theorem zw1998 : Cond.methodLink RX4 72 yX4_bridges ∈ eW (zV b e D A X) := z_e zx1998 rfl
theorem zw2000 : Cond.instanceMethod yX4_bridges ∈ eW (zV b e D A X) := z_e zx2000 rfl
theorem zw2001 : Cond.code yX4_bridges cX4_bridges 9 none ∈ eW (zV b e D A X) := z_e zx2001 rfl
theorem zw2002 : Cond.methodLink RX4 249 yX7_ofObjects ∈ eW (zV b e D A X) := z_e zx2002 rfl
theorem zw2003 : Cond.instanceMethod yX7_ofObjects ∈ eW (zV b e D A X) := z_e zx2003 rfl
theorem zw2004 : Cond.selects RX7 yX7_ofObjects yX7_ofObjects ∈ eW (zV b e D A X) := z_e zx2004 rfl
theorem zw2005 : Cond.code yX7_ofObjects cX7_ofObjects 1 (some .boolean) ∈ eW (zV b e D A X) := z_e zx2005 rfl
theorem zw2006 : Cond.methodLink RX4 252 yX4_bridge ∈ eW (zV b e D A X) := z_e zx2006 rfl
theorem zw2008 : Cond.instanceMethod yX4_bridge ∈ eW (zV b e D A X) := z_e zx2008 rfl
theorem zw2009 : Cond.code yX4_bridge cX4_bridge 4 none ∈ eW (zV b e D A X) := z_e zx2009 rfl
theorem zw2010 : Cond.methodLink RX4 256 yX10_method ∈ eW (zV b e D A X) := z_e zx2010 rfl
theorem zw2011 : Cond.instanceMethod yX10_method ∈ eW (zV b e D A X) := z_e zx2011 rfl
theorem zw2012 : Cond.selects RX10 yX10_method yX10_method ∈ eW (zV b e D A X) := z_e zx2012 rfl
theorem zw2013 : Cond.code yX10_method cX10_method 4 (some (.object "LinkHouse$Member")) ∈ eW (zV b e D A X) := z_e zx2013 rfl
theorem zw2014 : Cond.methodLink RX4 259 yX10_bridges ∈ eW (zV b e D A X) := z_e zx2014 rfl
theorem zw2015 : Cond.instanceMethod yX10_bridges ∈ eW (zV b e D A X) := z_e zx2015 rfl
theorem zw2016 : Cond.selects RX10 yX10_bridges yX10_bridges ∈ eW (zV b e D A X) := z_e zx2016 rfl
theorem zw2017 : Cond.code yX10_bridges cX10_bridges 3 (some .int) ∈ eW (zV b e D A X) := z_e zx2017 rfl
theorem zw2018 : Cond.methodLink RX4 262 yX4_addBridge ∈ eW (zV b e D A X) := z_e zx2018 rfl
theorem zw2019 : Cond.static yX4_addBridge ∈ eW (zV b e D A X) := z_e zx2019 rfl
theorem zw2020 : Cond.code yX4_addBridge cX4_addBridge 7 (some (.object "LinkHouse$Member")) ∈ eW (zV b e D A X) := z_e zx2020 rfl
theorem zw2021 : Cond.methodLink RX4 75 yX4_whole ∈ eW (zV b e D A X) := z_e zx2021 rfl
theorem zw2023 : Cond.instanceMethod yX4_whole ∈ eW (zV b e D A X) := z_e zx2023 rfl
theorem zw2024 : Cond.code yX4_whole cX4_whole 6 none ∈ eW (zV b e D A X) := z_e zx2024 rfl
theorem zw2025 : Cond.methodLink RX4 268 yX4_owed ∈ eW (zV b e D A X) := z_e zx2025 rfl
theorem zw2027 : Cond.instanceMethod yX4_owed ∈ eW (zV b e D A X) := z_e zx2027 rfl
theorem zw2028 : Cond.code yX4_owed cX4_owed 7 none ∈ eW (zV b e D A X) := z_e zx2028 rfl
theorem zw2029 : Cond.methodLink RX4 272 yX11_selected ∈ eW (zV b e D A X) := z_e zx2029 rfl
theorem zw2030 : Cond.instanceMethod yX11_selected ∈ eW (zV b e D A X) := z_e zx2030 rfl
theorem zw2031 : Cond.selects RX11 yX11_selected yX11_selected ∈ eW (zV b e D A X) := z_e zx2031 rfl
theorem zw2032 : Cond.code yX11_selected cX11_selected 7 (some (.object "LinkHouse$Member")) ∈ eW (zV b e D A X) := z_e zx2032 rfl
theorem zw2033 : Cond.methodLink RX11 184 yX10_method ∈ eW (zV b e D A X) := z_e zx2033 rfl
theorem zw2034 : Cond.methodLink RX11 194 yX7_ofObjects ∈ eW (zV b e D A X) := z_e zx2034 rfl
theorem zw2035 : Cond.methodLink RX11 198 yX11_overrides ∈ eW (zV b e D A X) := z_e zx2035 rfl
theorem zw2036 : Cond.instanceMethod yX11_overrides ∈ eW (zV b e D A X) := z_e zx2036 rfl
theorem zw2037 : Cond.selects RX11 yX11_overrides yX11_overrides ∈ eW (zV b e D A X) := z_e zx2037 rfl
theorem zw2038 : Cond.code yX11_overrides cX11_overrides 12 (some .boolean) ∈ eW (zV b e D A X) := z_e zx2038 rfl
theorem zw2039 : Cond.methodLink RX11 205 yX11_mostSpecial ∈ eW (zV b e D A X) := z_e zx2039 rfl
theorem zw2040 : Cond.instanceMethod yX11_mostSpecial ∈ eW (zV b e D A X) := z_e zx2040 rfl
theorem zw2041 : Cond.selects RX11 yX11_mostSpecial yX11_mostSpecial ∈ eW (zV b e D A X) := z_e zx2041 rfl
theorem zw2042 : Cond.code yX11_mostSpecial cX11_mostSpecial 11 (some .int) ∈ eW (zV b e D A X) := z_e zx2042 rfl
theorem zw2043 : Cond.methodLink RX11 180 yX11_faces ∈ eW (zV b e D A X) := z_e zx2043 rfl
theorem zw2044 : Cond.methodLink RX12 206 yX0_judge ∈ eW (zV b e D A X) := z_e zx2044 rfl
theorem zw2045 : Cond.instanceMethod yX0_judge ∈ eW (zV b e D A X) := z_e zx2045 rfl
theorem zw2046 : Cond.selects RX0 yX0_judge yX0_judge ∈ eW (zV b e D A X) := z_e zx2046 rfl
theorem zw2047 : Cond.code yX0_judge cX0_judge 7 (some .boolean) ∈ eW (zV b e D A X) := z_e zx2047 rfl
theorem zw2048 : Cond.methodLink RX0 66 yX11_find ∈ eW (zV b e D A X) := z_e zx2048 rfl
theorem zw2049 : Cond.methodLink RX0 75 yX0_constants ∈ eW (zV b e D A X) := z_e zx2049 rfl
theorem zw2051 : Cond.instanceMethod yX0_constants ∈ eW (zV b e D A X) := z_e zx2051 rfl
theorem zw2052 : Cond.code yX0_constants cX0_constants 3 none ∈ eW (zV b e D A X) := z_e zx2052 rfl
theorem zw2053 : Cond.constantLong RX0 126 (-1) ∈ eW (zV b e D A X) := z_e zx2053 rfl
theorem zw2054 : Cond.methodLink RX0 131 yX0_fold ∈ eW (zV b e D A X) := z_e zx2054 rfl
theorem zw2056 : Cond.instanceMethod yX0_fold ∈ eW (zV b e D A X) := z_e zx2056 rfl
theorem zw2057 : Cond.code yX0_fold cX0_fold 3 (some .boolean) ∈ eW (zV b e D A X) := z_e zx2057 rfl
theorem zw2058 : Cond.methodLink RX0 153 yX0_foldField ∈ eW (zV b e D A X) := z_e zx2058 rfl
theorem zw2060 : Cond.instanceMethod yX0_foldField ∈ eW (zV b e D A X) := z_e zx2060 rfl
theorem zw2061 : Cond.code yX0_foldField cX0_foldField 5 (some .boolean) ∈ eW (zV b e D A X) := z_e zx2061 rfl
theorem zw2062 : Cond.constantLong RX0 104 (-4) ∈ eW (zV b e D A X) := z_e zx2062 rfl
theorem zw2063 : Cond.methodLink RX0 175 yX11_fieldIn ∈ eW (zV b e D A X) := z_e zx2063 rfl
theorem zw2064 : Cond.instanceMethod yX11_fieldIn ∈ eW (zV b e D A X) := z_e zx2064 rfl
theorem zw2065 : Cond.selects RX11 yX11_fieldIn yX11_fieldIn ∈ eW (zV b e D A X) := z_e zx2065 rfl
theorem zw2066 : Cond.code yX11_fieldIn cX11_fieldIn 14 (some (.object "LinkHouse$Member")) ∈ eW (zV b e D A X) := z_e zx2066 rfl
theorem zw2067 : Cond.methodLink RX11 176 yX10_field ∈ eW (zV b e D A X) := z_e zx2067 rfl
theorem zw2068 : Cond.instanceMethod yX10_field ∈ eW (zV b e D A X) := z_e zx2068 rfl
theorem zw2069 : Cond.selects RX10 yX10_field yX10_field ∈ eW (zV b e D A X) := z_e zx2069 rfl
theorem zw2070 : Cond.code yX10_field cX10_field 7 (some (.object "LinkHouse$Member")) ∈ eW (zV b e D A X) := z_e zx2070 rfl
theorem zw2071 : Cond.methodLink RX0 182 yX11_isLet_ ∈ eW (zV b e D A X) := z_e zx2071 rfl
theorem zw2072 : Cond.instanceMethod yX11_isLet_ ∈ eW (zV b e D A X) := z_e zx2072 rfl
theorem zw2073 : Cond.selects RX11 yX11_isLet_ yX11_isLet_ ∈ eW (zV b e D A X) := z_e zx2073 rfl
theorem zw2074 : Cond.code yX11_isLet_ cX11_isLet_ 5 (some .boolean) ∈ eW (zV b e D A X) := z_e zx2074 rfl
theorem zw2075 : Cond.methodLink RX0 165 yX11_isLet ∈ eW (zV b e D A X) := z_e zx2075 rfl
theorem zw2076 : Cond.methodLink RX0 169 yX0_foldCompare ∈ eW (zV b e D A X) := z_e zx2076 rfl
theorem zw2078 : Cond.instanceMethod yX0_foldCompare ∈ eW (zV b e D A X) := z_e zx2078 rfl
theorem zw2079 : Cond.code yX0_foldCompare cX0_foldCompare 3 (some .boolean) ∈ eW (zV b e D A X) := z_e zx2079 rfl
theorem zw2080 : Cond.methodLink RX0 172 yX0_foldChain ∈ eW (zV b e D A X) := z_e zx2080 rfl
theorem zw2082 : Cond.instanceMethod yX0_foldChain ∈ eW (zV b e D A X) := z_e zx2082 rfl
theorem zw2083 : Cond.code yX0_foldChain cX0_foldChain 4 (some .boolean) ∈ eW (zV b e D A X) := z_e zx2083 rfl
theorem zw2084 : Cond.methodLink RX0 84 yX0_body ∈ eW (zV b e D A X) := z_e zx2084 rfl
theorem zw2086 : Cond.instanceMethod yX0_body ∈ eW (zV b e D A X) := z_e zx2086 rfl
theorem zw2087 : Cond.code yX0_body cX0_body 4 none ∈ eW (zV b e D A X) := z_e zx2087 rfl
theorem zw2088 : Cond.methodLink RX0 205 yX0_expr ∈ eW (zV b e D A X) := z_e zx2088 rfl
theorem zw2090 : Cond.instanceMethod yX0_expr ∈ eW (zV b e D A X) := z_e zx2090 rfl
theorem zw2091 : Cond.code yX0_expr cX0_expr 5 (some .boolean) ∈ eW (zV b e D A X) := z_e zx2091 rfl
theorem zw2092 : Cond.constantLong RX0 295 (-2) ∈ eW (zV b e D A X) := z_e zx2092 rfl
theorem zw2093 : Cond.methodLink RX0 113 yX0_fail ∈ eW (zV b e D A X) := z_e zx2093 rfl
theorem zw2095 : Cond.instanceMethod yX0_fail ∈ eW (zV b e D A X) := z_e zx2095 rfl
theorem zw2096 : Cond.code yX0_fail cX0_fail 3 (some .boolean) ∈ eW (zV b e D A X) := z_e zx2096 rfl
theorem zw2097 : Cond.methodLink RX0 297 yX0_isLocal ∈ eW (zV b e D A X) := z_e zx2097 rfl
theorem zw2099 : Cond.instanceMethod yX0_isLocal ∈ eW (zV b e D A X) := z_e zx2099 rfl
theorem zw2100 : Cond.code yX0_isLocal cX0_isLocal 3 (some .boolean) ∈ eW (zV b e D A X) := z_e zx2100 rfl
theorem zw2101 : Cond.methodLink RX0 236 yX0_localOf ∈ eW (zV b e D A X) := z_e zx2101 rfl
theorem zw2103 : Cond.instanceMethod yX0_localOf ∈ eW (zV b e D A X) := z_e zx2103 rfl
theorem zw2104 : Cond.code yX0_localOf cX0_localOf 4 (some .int) ∈ eW (zV b e D A X) := z_e zx2104 rfl
theorem zw2105 : Cond.methodLink RX0 300 yX0_field ∈ eW (zV b e D A X) := z_e zx2105 rfl
theorem zw2107 : Cond.instanceMethod yX0_field ∈ eW (zV b e D A X) := z_e zx2107 rfl
theorem zw2108 : Cond.code yX0_field cX0_field 6 (some .boolean) ∈ eW (zV b e D A X) := z_e zx2108 rfl
theorem zw2109 : Cond.methodLink RX0 303 yX0_statics ∈ eW (zV b e D A X) := z_e zx2109 rfl
theorem zw2111 : Cond.instanceMethod yX0_statics ∈ eW (zV b e D A X) := z_e zx2111 rfl
theorem zw2112 : Cond.code yX0_statics cX0_statics 5 (some .boolean) ∈ eW (zV b e D A X) := z_e zx2112 rfl
theorem zw2113 : Cond.methodLink RX0 268 yX0_exprs ∈ eW (zV b e D A X) := z_e zx2113 rfl
theorem zw2115 : Cond.instanceMethod yX0_exprs ∈ eW (zV b e D A X) := z_e zx2115 rfl
theorem zw2116 : Cond.code yX0_exprs cX0_exprs 3 (some .boolean) ∈ eW (zV b e D A X) := z_e zx2116 rfl
theorem zw2117 : Cond.methodLink RX0 106 yX0_meant ∈ eW (zV b e D A X) := z_e zx2117 rfl
theorem zw2119 : Cond.instanceMethod yX0_meant ∈ eW (zV b e D A X) := z_e zx2119 rfl
theorem zw2120 : Cond.code yX0_meant cX0_meant 14 (some (.object "LinkHouse$Member")) ∈ eW (zV b e D A X) := z_e zx2120 rfl
theorem zw2121 : Cond.methodLink RX0 346 yX0_whereLooked ∈ eW (zV b e D A X) := z_e zx2121 rfl
theorem zw2123 : Cond.instanceMethod yX0_whereLooked ∈ eW (zV b e D A X) := z_e zx2123 rfl
theorem zw2124 : Cond.code yX0_whereLooked cX0_whereLooked 7 (some .int) ∈ eW (zV b e D A X) := z_e zx2124 rfl
theorem zw2125 : Cond.methodLink RX0 362 yX11_faces ∈ eW (zV b e D A X) := z_e zx2125 rfl
theorem zw2126 : Cond.methodLink RX0 356 yX0_consider ∈ eW (zV b e D A X) := z_e zx2126 rfl
theorem zw2128 : Cond.instanceMethod yX0_consider ∈ eW (zV b e D A X) := z_e zx2128 rfl
theorem zw2129 : Cond.code yX0_consider cX0_consider 5 none ∈ eW (zV b e D A X) := z_e zx2129 rfl
theorem zw2130 : Cond.methodLink RX0 246 yX11_fits ∈ eW (zV b e D A X) := z_e zx2130 rfl
theorem zw2131 : Cond.methodLink RX0 369 yX7_sameParams ∈ eW (zV b e D A X) := z_e zx2131 rfl
theorem zw2132 : Cond.methodLink RX0 307 yX0_calls ∈ eW (zV b e D A X) := z_e zx2132 rfl
theorem zw2134 : Cond.instanceMethod yX0_calls ∈ eW (zV b e D A X) := z_e zx2134 rfl
theorem zw2135 : Cond.code yX0_calls cX0_calls 4 (some .boolean) ∈ eW (zV b e D A X) := z_e zx2135 rfl
theorem zw2136 : Cond.methodLink RX0 253 yX0_named ∈ eW (zV b e D A X) := z_e zx2136 rfl
theorem zw2138 : Cond.instanceMethod yX0_named ∈ eW (zV b e D A X) := z_e zx2138 rfl
theorem zw2139 : Cond.code yX0_named cX0_named 5 (some .int) ∈ eW (zV b e D A X) := z_e zx2139 rfl
theorem zw2140 : Cond.methodLink RX0 311 yX0_superCall ∈ eW (zV b e D A X) := z_e zx2140 rfl
theorem zw2142 : Cond.instanceMethod yX0_superCall ∈ eW (zV b e D A X) := z_e zx2142 rfl
theorem zw2143 : Cond.code yX0_superCall cX0_superCall 6 (some .boolean) ∈ eW (zV b e D A X) := z_e zx2143 rfl
theorem zw2144 : Cond.methodLink RX0 332 yX10_has ∈ eW (zV b e D A X) := z_e zx2144 rfl
theorem zw2145 : Cond.methodLink RX0 314 yX0_made ∈ eW (zV b e D A X) := z_e zx2145 rfl
theorem zw2147 : Cond.instanceMethod yX0_made ∈ eW (zV b e D A X) := z_e zx2147 rfl
theorem zw2148 : Cond.code yX0_made cX0_made 4 (some .boolean) ∈ eW (zV b e D A X) := z_e zx2148 rfl
theorem zw2149 : Cond.methodLink RX0 317 yX0_isObject ∈ eW (zV b e D A X) := z_e zx2149 rfl
theorem zw2151 : Cond.instanceMethod yX0_isObject ∈ eW (zV b e D A X) := z_e zx2151 rfl
theorem zw2152 : Cond.code yX0_isObject cX0_isObject 4 (some .boolean) ∈ eW (zV b e D A X) := z_e zx2152 rfl
theorem zw2153 : Cond.constantLong RX0 230 (-3) ∈ eW (zV b e D A X) := z_e zx2153 rfl
theorem zw2154 : Cond.methodLink RX0 321 yX0_unit ∈ eW (zV b e D A X) := z_e zx2154 rfl
theorem zw2156 : Cond.instanceMethod yX0_unit ∈ eW (zV b e D A X) := z_e zx2156 rfl
theorem zw2157 : Cond.code yX0_unit cX0_unit 5 (some .boolean) ∈ eW (zV b e D A X) := z_e zx2157 rfl
theorem zw2158 : Cond.methodLink RX0 342 yX0_behind ∈ eW (zV b e D A X) := z_e zx2158 rfl
theorem zw2160 : Cond.instanceMethod yX0_behind ∈ eW (zV b e D A X) := z_e zx2160 rfl
theorem zw2161 : Cond.code yX0_behind cX0_behind 8 (some .boolean) ∈ eW (zV b e D A X) := z_e zx2161 rfl
theorem zw2162 : Cond.methodLink RX0 324 yX0_chain ∈ eW (zV b e D A X) := z_e zx2162 rfl
theorem zw2164 : Cond.instanceMethod yX0_chain ∈ eW (zV b e D A X) := z_e zx2164 rfl
theorem zw2165 : Cond.code yX0_chain cX0_chain 4 (some .boolean) ∈ eW (zV b e D A X) := z_e zx2165 rfl
theorem zw2166 : Cond.methodLink RX0 208 yX0_wanted ∈ eW (zV b e D A X) := z_e zx2166 rfl
theorem zw2168 : Cond.instanceMethod yX0_wanted ∈ eW (zV b e D A X) := z_e zx2168 rfl
theorem zw2169 : Cond.code yX0_wanted cX0_wanted 4 (some .boolean) ∈ eW (zV b e D A X) := z_e zx2169 rfl
theorem zw2170 : Cond.methodLink RX0 327 yX0_compare ∈ eW (zV b e D A X) := z_e zx2170 rfl
theorem zw2172 : Cond.instanceMethod yX0_compare ∈ eW (zV b e D A X) := z_e zx2172 rfl
theorem zw2173 : Cond.code yX0_compare cX0_compare 2 (some .boolean) ∈ eW (zV b e D A X) := z_e zx2173 rfl
theorem zw2174 : Cond.methodLink RX0 219 yX0_local ∈ eW (zV b e D A X) := z_e zx2174 rfl
theorem zw2176 : Cond.instanceMethod yX0_local ∈ eW (zV b e D A X) := z_e zx2176 rfl
theorem zw2177 : Cond.code yX0_local cX0_local 6 (some .int) ∈ eW (zV b e D A X) := z_e zx2177 rfl
theorem zw2178 : Cond.methodLink RX0 239 yJ9_max_7cf53 ∈ eW (zV b e D A X) := z_e zx2178 rfl
theorem zw2179 : Cond.static yJ9_max_7cf53 ∈ eW (zV b e D A X) := z_e zx2179 rfl
theorem zw2180 : Cond.code yJ9_max_7cf53 cJ9_max_7cf53 2 (some .int) ∈ eW (zV b e D A X) := z_e zx2180 rfl
theorem zw2181 : Cond.methodLink RX0 223 yX0_superFirst ∈ eW (zV b e D A X) := z_e zx2181 rfl
theorem zw2182 : Cond.static yX0_superFirst ∈ eW (zV b e D A X) := z_e zx2182 rfl
theorem zw2183 : Cond.code yX0_superFirst cX0_superFirst 1 (some .boolean) ∈ eW (zV b e D A X) := z_e zx2183 rfl
theorem zw2184 : Cond.methodLink RX0 227 yX0_statement ∈ eW (zV b e D A X) := z_e zx2184 rfl
theorem zw2186 : Cond.instanceMethod yX0_statement ∈ eW (zV b e D A X) := z_e zx2186 rfl
theorem zw2187 : Cond.code yX0_statement cX0_statement 4 (some .boolean) ∈ eW (zV b e D A X) := z_e zx2187 rfl
theorem zw2188 : Cond.methodLink RX0 257 yX0_let ∈ eW (zV b e D A X) := z_e zx2188 rfl
theorem zw2190 : Cond.instanceMethod yX0_let ∈ eW (zV b e D A X) := z_e zx2190 rfl
theorem zw2191 : Cond.code yX0_let cX0_let 2 (some .boolean) ∈ eW (zV b e D A X) := z_e zx2191 rfl
theorem zw2192 : Cond.methodLink RX0 260 yX0_returned ∈ eW (zV b e D A X) := z_e zx2192 rfl
theorem zw2194 : Cond.instanceMethod yX0_returned ∈ eW (zV b e D A X) := z_e zx2194 rfl
theorem zw2195 : Cond.code yX0_returned cX0_returned 3 (some .boolean) ∈ eW (zV b e D A X) := z_e zx2195 rfl
theorem zw2196 : Cond.constantLong RX0 263 (-3887679601769447424) ∈ eW (zV b e D A X) := z_e zx2196 rfl
theorem zw2197 : Cond.methodLink RX0 265 yX0_tried ∈ eW (zV b e D A X) := z_e zx2197 rfl
theorem zw2199 : Cond.instanceMethod yX0_tried ∈ eW (zV b e D A X) := z_e zx2199 rfl
theorem zw2200 : Cond.code yX0_tried cX0_tried 5 (some .boolean) ∈ eW (zV b e D A X) := z_e zx2200 rfl
theorem zw2201 : Cond.methodLink RX0 271 yX0_superMaker ∈ eW (zV b e D A X) := z_e zx2201 rfl
theorem zw2203 : Cond.instanceMethod yX0_superMaker ∈ eW (zV b e D A X) := z_e zx2203 rfl
theorem zw2204 : Cond.code yX0_superMaker cX0_superMaker 3 (some .boolean) ∈ eW (zV b e D A X) := z_e zx2204 rfl
theorem zw2205 : Cond.methodLink RX0 274 yX0_put ∈ eW (zV b e D A X) := z_e zx2205 rfl
theorem zw2207 : Cond.instanceMethod yX0_put ∈ eW (zV b e D A X) := z_e zx2207 rfl
theorem zw2208 : Cond.code yX0_put cX0_put 5 (some .boolean) ∈ eW (zV b e D A X) := z_e zx2208 rfl
theorem zw2209 : Cond.methodLink RX0 286 yX0_target ∈ eW (zV b e D A X) := z_e zx2209 rfl
theorem zw2210 : Cond.static yX0_target ∈ eW (zV b e D A X) := z_e zx2210 rfl
theorem zw2211 : Cond.code yX0_target cX0_target 3 (some (.object "LinkHouse$Node")) ∈ eW (zV b e D A X) := z_e zx2211 rfl
theorem zw2212 : Cond.methodLink RX0 291 yX10_field ∈ eW (zV b e D A X) := z_e zx2212 rfl
theorem zw2213 : Cond.methodLink RX0 277 yX0_isCall ∈ eW (zV b e D A X) := z_e zx2213 rfl
theorem zw2214 : Cond.static yX0_isCall ∈ eW (zV b e D A X) := z_e zx2214 rfl
theorem zw2215 : Cond.code yX0_isCall cX0_isCall 3 (some .boolean) ∈ eW (zV b e D A X) := z_e zx2215 rfl
theorem zw2216 : Cond.methodLink RX0 232 yX0_ends ∈ eW (zV b e D A X) := z_e zx2216 rfl
theorem zw2217 : Cond.static yX0_ends ∈ eW (zV b e D A X) := z_e zx2217 rfl
theorem zw2218 : Cond.code yX0_ends cX0_ends 2 (some .boolean) ∈ eW (zV b e D A X) := z_e zx2218 rfl
theorem zw2219 : Cond.methodLink RX12 211 yX3_write ∈ eW (zV b e D A X) := z_e zx2219 rfl
theorem zw2220 : Cond.instanceMethod yX3_write ∈ eW (zV b e D A X) := z_e zx2220 rfl
theorem zw2221 : Cond.selects RX3 yX3_write yX3_write ∈ eW (zV b e D A X) := z_e zx2221 rfl
theorem zw2222 : Cond.code yX3_write cX3_write 6 none ∈ eW (zV b e D A X) := z_e zx2222 rfl
theorem zw2223 : Cond.methodLink RX3 32 yX3_openRow ∈ eW (zV b e D A X) := z_e zx2223 rfl
theorem zw2225 : Cond.instanceMethod yX3_openRow ∈ eW (zV b e D A X) := z_e zx2225 rfl
theorem zw2226 : Cond.code yX3_openRow cX3_openRow 5 none ∈ eW (zV b e D A X) := z_e zx2226 rfl
theorem zw2227 : Cond.methodLink RX3 97 yX1_newMember ∈ eW (zV b e D A X) := z_e zx2227 rfl
theorem zw2228 : Cond.constantLong RX3 129 (-4) ∈ eW (zV b e D A X) := z_e zx2228 rfl
theorem zw2229 : Cond.methodLink RX3 131 yX3_useOf ∈ eW (zV b e D A X) := z_e zx2229 rfl
theorem zw2231 : Cond.instanceMethod yX3_useOf ∈ eW (zV b e D A X) := z_e zx2231 rfl
theorem zw2232 : Cond.code yX3_useOf cX3_useOf 9 (some .int) ∈ eW (zV b e D A X) := z_e zx2232 rfl
theorem zw2233 : Cond.methodLink RX3 232 yX7_like ∈ eW (zV b e D A X) := z_e zx2233 rfl
theorem zw2234 : Cond.instanceMethod yX7_like ∈ eW (zV b e D A X) := z_e zx2234 rfl
theorem zw2235 : Cond.selects RX7 yX7_like yX7_like ∈ eW (zV b e D A X) := z_e zx2235 rfl
theorem zw2236 : Cond.code yX7_like cX7_like 2 (some .boolean) ∈ eW (zV b e D A X) := z_e zx2236 rfl
theorem zw2237 : Cond.methodLink RX3 236 yX3_isFit ∈ eW (zV b e D A X) := z_e zx2237 rfl
theorem zw2238 : Cond.static yX3_isFit ∈ eW (zV b e D A X) := z_e zx2238 rfl
theorem zw2239 : Cond.code yX3_isFit cX3_isFit 5 (some .boolean) ∈ eW (zV b e D A X) := z_e zx2239 rfl
theorem zw2240 : Cond.constantLong RX3 213 (-1) ∈ eW (zV b e D A X) := z_e zx2240 rfl
theorem zw2241 : Cond.constantLong RX3 215 (-3) ∈ eW (zV b e D A X) := z_e zx2241 rfl
theorem zw2242 : Cond.constantLong RX3 217 (-2) ∈ eW (zV b e D A X) := z_e zx2242 rfl
theorem zw2243 : Cond.constantLong RX3 189 (-4031174665287237632) ∈ eW (zV b e D A X) := z_e zx2243 rfl
theorem zw2244 : Cond.methodLink RX3 139 yX10_listedAt ∈ eW (zV b e D A X) := z_e zx2244 rfl
theorem zw2245 : Cond.methodLink RX3 58 yX3_field ∈ eW (zV b e D A X) := z_e zx2245 rfl
theorem zw2247 : Cond.instanceMethod yX3_field ∈ eW (zV b e D A X) := z_e zx2247 rfl
theorem zw2248 : Cond.code yX3_field cX3_field 3 none ∈ eW (zV b e D A X) := z_e zx2248 rfl
theorem zw2249 : Cond.methodLink RX3 176 yX3_expr ∈ eW (zV b e D A X) := z_e zx2249 rfl
theorem zw2251 : Cond.instanceMethod yX3_expr ∈ eW (zV b e D A X) := z_e zx2251 rfl
theorem zw2252 : Cond.code yX3_expr cX3_expr 2 none ∈ eW (zV b e D A X) := z_e zx2252 rfl
theorem zw2253 : Cond.methodLink RX3 151 yX1_emit ∈ eW (zV b e D A X) := z_e zx2253 rfl
theorem zw2254 : Cond.instanceMethod yX1_emit ∈ eW (zV b e D A X) := z_e zx2254 rfl
theorem zw2255 : Cond.selects RX1 yX1_emit yX1_emit ∈ eW (zV b e D A X) := z_e zx2255 rfl
theorem zw2256 : Cond.code yX1_emit cX1_emit 3 (some .int) ∈ eW (zV b e D A X) := z_e zx2256 rfl
theorem zw2257 : Cond.methodLink RX3 282 yX3_got ∈ eW (zV b e D A X) := z_e zx2257 rfl
theorem zw2259 : Cond.instanceMethod yX3_got ∈ eW (zV b e D A X) := z_e zx2259 rfl
theorem zw2260 : Cond.code yX3_got cX3_got 3 none ∈ eW (zV b e D A X) := z_e zx2260 rfl
theorem zw2261 : Cond.methodLink RX3 192 yX3_args ∈ eW (zV b e D A X) := z_e zx2261 rfl
theorem zw2263 : Cond.instanceMethod yX3_args ∈ eW (zV b e D A X) := z_e zx2263 rfl
theorem zw2264 : Cond.code yX3_args cX3_args 5 none ∈ eW (zV b e D A X) := z_e zx2264 rfl
theorem zw2265 : Cond.methodLink RX3 266 yX3_unit ∈ eW (zV b e D A X) := z_e zx2265 rfl
theorem zw2267 : Cond.instanceMethod yX3_unit ∈ eW (zV b e D A X) := z_e zx2267 rfl
theorem zw2268 : Cond.code yX3_unit cX3_unit 4 none ∈ eW (zV b e D A X) := z_e zx2268 rfl
theorem zw2269 : Cond.methodLink RX3 297 yX3_callSort ∈ eW (zV b e D A X) := z_e zx2269 rfl
theorem zw2271 : Cond.instanceMethod yX3_callSort ∈ eW (zV b e D A X) := z_e zx2271 rfl
theorem zw2272 : Cond.code yX3_callSort cX3_callSort 6 (some .int) ∈ eW (zV b e D A X) := z_e zx2272 rfl
theorem zw2273 : Cond.methodLink RX3 301 yX11_find ∈ eW (zV b e D A X) := z_e zx2273 rfl
theorem zw2274 : Cond.methodLink RX3 285 yX3_chain ∈ eW (zV b e D A X) := z_e zx2274 rfl
theorem zw2276 : Cond.instanceMethod yX3_chain ∈ eW (zV b e D A X) := z_e zx2276 rfl
theorem zw2277 : Cond.code yX3_chain cX3_chain 3 none ∈ eW (zV b e D A X) := z_e zx2277 rfl
theorem zw2278 : Cond.methodLink RX3 291 yX3_call ∈ eW (zV b e D A X) := z_e zx2278 rfl
theorem zw2280 : Cond.instanceMethod yX3_call ∈ eW (zV b e D A X) := z_e zx2280 rfl
theorem zw2281 : Cond.code yX3_call cX3_call 4 none ∈ eW (zV b e D A X) := z_e zx2281 rfl
theorem zw2282 : Cond.methodLink RX3 155 yX3_openStart ∈ eW (zV b e D A X) := z_e zx2282 rfl
theorem zw2284 : Cond.instanceMethod yX3_openStart ∈ eW (zV b e D A X) := z_e zx2284 rfl
theorem zw2285 : Cond.code yX3_openStart cX3_openStart 1 none ∈ eW (zV b e D A X) := z_e zx2285 rfl
theorem zw2286 : Cond.methodLink RX3 147 yX1_patch ∈ eW (zV b e D A X) := z_e zx2286 rfl
theorem zw2287 : Cond.instanceMethod yX1_patch ∈ eW (zV b e D A X) := z_e zx2287 rfl
theorem zw2288 : Cond.selects RX1 yX1_patch yX1_patch ∈ eW (zV b e D A X) := z_e zx2288 rfl
theorem zw2289 : Cond.code yX1_patch cX1_patch 2 none ∈ eW (zV b e D A X) := z_e zx2289 rfl
theorem zw2290 : Cond.methodLink RX3 62 yX3_maker ∈ eW (zV b e D A X) := z_e zx2290 rfl
theorem zw2292 : Cond.instanceMethod yX3_maker ∈ eW (zV b e D A X) := z_e zx2292 rfl
theorem zw2293 : Cond.code yX3_maker cX3_maker 4 none ∈ eW (zV b e D A X) := z_e zx2293 rfl
theorem zw2294 : Cond.methodLink RX3 169 yX3_statement ∈ eW (zV b e D A X) := z_e zx2294 rfl
theorem zw2296 : Cond.instanceMethod yX3_statement ∈ eW (zV b e D A X) := z_e zx2296 rfl
theorem zw2297 : Cond.code yX3_statement cX3_statement 4 none ∈ eW (zV b e D A X) := z_e zx2297 rfl
theorem zw2298 : Cond.methodLink RX3 249 yX3_branch ∈ eW (zV b e D A X) := z_e zx2298 rfl
theorem zw2300 : Cond.instanceMethod yX3_branch ∈ eW (zV b e D A X) := z_e zx2300 rfl
theorem zw2301 : Cond.code yX3_branch cX3_branch 4 none ∈ eW (zV b e D A X) := z_e zx2301 rfl
theorem zw2302 : Cond.methodLink RX3 252 yX3_loop ∈ eW (zV b e D A X) := z_e zx2302 rfl
theorem zw2304 : Cond.instanceMethod yX3_loop ∈ eW (zV b e D A X) := z_e zx2304 rfl
theorem zw2305 : Cond.code yX3_loop cX3_loop 4 none ∈ eW (zV b e D A X) := z_e zx2305 rfl
theorem zw2306 : Cond.constantLong RX3 255 (-3887679601769447424) ∈ eW (zV b e D A X) := z_e zx2306 rfl
theorem zw2307 : Cond.methodLink RX3 257 yX3_tried ∈ eW (zV b e D A X) := z_e zx2307 rfl
theorem zw2309 : Cond.instanceMethod yX3_tried ∈ eW (zV b e D A X) := z_e zx2309 rfl
theorem zw2310 : Cond.code yX3_tried cX3_tried 4 none ∈ eW (zV b e D A X) := z_e zx2310 rfl
theorem zw2312 : Cond.methodLink RX3 273 yX3_put ∈ eW (zV b e D A X) := z_e zx2312 rfl
theorem zw2314 : Cond.instanceMethod yX3_put ∈ eW (zV b e D A X) := z_e zx2314 rfl
theorem zw2315 : Cond.code yX3_put cX3_put 4 none ∈ eW (zV b e D A X) := z_e zx2315 rfl
theorem zw2316 : Cond.methodLink RX3 161 yJ9_max_7cf53 ∈ eW (zV b e D A X) := z_e zx2316 rfl
theorem zw2317 : Cond.methodLink RX3 69 yX3_body ∈ eW (zV b e D A X) := z_e zx2317 rfl
theorem zw2319 : Cond.instanceMethod yX3_body ∈ eW (zV b e D A X) := z_e zx2319 rfl
theorem zw2320 : Cond.code yX3_body cX3_body 2 none ∈ eW (zV b e D A X) := z_e zx2320 rfl
theorem zw2321 : Cond.methodLink RX3 81 yX10_plain ∈ eW (zV b e D A X) := z_e zx2321 rfl
theorem zw2322 : Cond.methodLink RX3 85 yX3_bridge ∈ eW (zV b e D A X) := z_e zx2322 rfl
theorem zw2324 : Cond.instanceMethod yX3_bridge ∈ eW (zV b e D A X) := z_e zx2324 rfl
theorem zw2325 : Cond.code yX3_bridge cX3_bridge 4 none ∈ eW (zV b e D A X) := z_e zx2325 rfl
theorem zw2326 : Cond.methodLink RX3 88 yX3_closeRow ∈ eW (zV b e D A X) := z_e zx2326 rfl
theorem zw2328 : Cond.instanceMethod yX3_closeRow ∈ eW (zV b e D A X) := z_e zx2328 rfl
theorem zw2329 : Cond.code yX3_closeRow cX3_closeRow 1 none ∈ eW (zV b e D A X) := z_e zx2329 rfl
theorem zw2330 : Cond.methodLink RX12 215 yX9_keep ∈ eW (zV b e D A X) := z_e zx2330 rfl
theorem zw2331 : Cond.instanceMethod yX9_keep ∈ eW (zV b e D A X) := z_e zx2331 rfl
theorem zw2332 : Cond.selects RX9 yX9_keep yX9_keep ∈ eW (zV b e D A X) := z_e zx2332 rfl
theorem zw2333 : Cond.code yX9_keep cX9_keep 1 none ∈ eW (zV b e D A X) := z_e zx2333 rfl
theorem zw2334 : Cond.methodLink RX9 122 yJ9_min_7cf53 ∈ eW (zV b e D A X) := z_e zx2334 rfl
theorem zw2335 : Cond.methodLink RX9 128 arraycopyName ∈ eW (zV b e D A X) := z_e zx2335 rfl
theorem zw2336 : Cond.methodLink RX12 218 yX12_keep ∈ eW (zV b e D A X) := z_e zx2336 rfl
theorem zw2338 : Cond.instanceMethod yX12_keep ∈ eW (zV b e D A X) := z_e zx2338 rfl
theorem zw2339 : Cond.code yX12_keep cX12_keep 3 (some .int) ∈ eW (zV b e D A X) := z_e zx2339 rfl
theorem zw2343 : Cond.code yX12_place cX12_place 1 (some .int) ∈ eW (zV b e D A X) := z_e zx2343 rfl
theorem zw2347 : Cond.code yX12_builds cX12_builds 2 (some .int) ∈ eW (zV b e D A X) := z_e zx2347 rfl
theorem zw2351 : Cond.code yX12_pick cX12_pick 4 (some .int) ∈ eW (zV b e D A X) := z_e zx2351 rfl
theorem zw2352 : Cond.methodLink RX12 224 yX12_renewWorld ∈ eW (zV b e D A X) := z_e zx2352 rfl
theorem zw2354 : Cond.instanceMethod yX12_renewWorld ∈ eW (zV b e D A X) := z_e zx2354 rfl
theorem zw2355 : Cond.code yX12_renewWorld cX12_renewWorld 1 none ∈ eW (zV b e D A X) := z_e zx2355 rfl
theorem zw2359 : Cond.code yX12_picked cX12_picked 2 (some .int) ∈ eW (zV b e D A X) := z_e zx2359 rfl
theorem zw2363 : Cond.code yX12_classes cX12_classes 4 (some .int) ∈ eW (zV b e D A X) := z_e zx2363 rfl
theorem zw2367 : Cond.code yX12_members cX12_members 5 (some .int) ∈ eW (zV b e D A X) := z_e zx2367 rfl
theorem zw2368 : Cond.methodLink RX12 230 yX12_rowOf ∈ eW (zV b e D A X) := z_e zx2368 rfl
theorem zw2370 : Cond.instanceMethod yX12_rowOf ∈ eW (zV b e D A X) := z_e zx2370 rfl
theorem zw2371 : Cond.code yX12_rowOf cX12_rowOf 5 (some (.object "LinkHouse$Row")) ∈ eW (zV b e D A X) := z_e zx2371 rfl
theorem zw2375 : Cond.code yX12_shape cX12_shape 6 (some .int) ∈ eW (zV b e D A X) := z_e zx2375 rfl
theorem zw2376 : Cond.methodLink RX12 239 yX12_tellHead ∈ eW (zV b e D A X) := z_e zx2376 rfl
theorem zw2378 : Cond.instanceMethod yX12_tellHead ∈ eW (zV b e D A X) := z_e zx2378 rfl
theorem zw2379 : Cond.code yX12_tellHead cX12_tellHead 2 none ∈ eW (zV b e D A X) := z_e zx2379 rfl
theorem zw2382 : Cond.methodLink RX12 259 yX12_tellText ∈ eW (zV b e D A X) := z_e zx2382 rfl
theorem zw2384 : Cond.instanceMethod yX12_tellText ∈ eW (zV b e D A X) := z_e zx2384 rfl
theorem zw2385 : Cond.code yX12_tellText cX12_tellText 3 none ∈ eW (zV b e D A X) := z_e zx2385 rfl
theorem zw2386 : Cond.methodLink RX12 371 yJ0_length_8abf5 ∈ eW (zV b e D A X) := z_e zx2386 rfl
theorem zw2387 : Cond.methodLink RX12 375 yJ0_charAt_5068e ∈ eW (zV b e D A X) := z_e zx2387 rfl
theorem zw2388 : Cond.methodLink RX12 379 yX12_tellByte ∈ eW (zV b e D A X) := z_e zx2388 rfl
theorem zw2390 : Cond.instanceMethod yX12_tellByte ∈ eW (zV b e D A X) := z_e zx2390 rfl
theorem zw2391 : Cond.code yX12_tellByte cX12_tellByte 2 none ∈ eW (zV b e D A X) := z_e zx2391 rfl
theorem zw2396 : Cond.methodLink RX12 284 yX12_tellType ∈ eW (zV b e D A X) := z_e zx2396 rfl
theorem zw2398 : Cond.instanceMethod yX12_tellType ∈ eW (zV b e D A X) := z_e zx2398 rfl
theorem zw2399 : Cond.code yX12_tellType cX12_tellType 3 none ∈ eW (zV b e D A X) := z_e zx2399 rfl
theorem zw2400 : Cond.constantLong RX12 384 (-1) ∈ eW (zV b e D A X) := z_e zx2400 rfl
theorem zw2401 : Cond.constantLong RX12 386 (-3) ∈ eW (zV b e D A X) := z_e zx2401 rfl
theorem zw2404 : Cond.constantLong RX12 392 (31) ∈ eW (zV b e D A X) := z_e zx2404 rfl
theorem zw2405 : Cond.methodLink RX12 394 yX12_tellLetters ∈ eW (zV b e D A X) := z_e zx2405 rfl
theorem zw2407 : Cond.instanceMethod yX12_tellLetters ∈ eW (zV b e D A X) := z_e zx2407 rfl
theorem zw2408 : Cond.code yX12_tellLetters cX12_tellLetters 5 none ∈ eW (zV b e D A X) := z_e zx2408 rfl
theorem zw2409 : Cond.constantLong RX12 397 (63) ∈ eW (zV b e D A X) := z_e zx2409 rfl
theorem zw2412 : Cond.methodLink RX12 298 yX12_tellList ∈ eW (zV b e D A X) := z_e zx2412 rfl
theorem zw2414 : Cond.instanceMethod yX12_tellList ∈ eW (zV b e D A X) := z_e zx2414 rfl
theorem zw2415 : Cond.code yX12_tellList cX12_tellList 5 none ∈ eW (zV b e D A X) := z_e zx2415 rfl
theorem zw2417 : Cond.methodLink RX12 318 yX10_listedAt ∈ eW (zV b e D A X) := z_e zx2417 rfl
theorem zw2418 : Cond.constantLong RX12 305 (-4) ∈ eW (zV b e D A X) := z_e zx2418 rfl
theorem zw2422 : Cond.methodLink RX12 247 yX12_tellMember ∈ eW (zV b e D A X) := z_e zx2422 rfl
theorem zw2424 : Cond.instanceMethod yX12_tellMember ∈ eW (zV b e D A X) := z_e zx2424 rfl
theorem zw2425 : Cond.code yX12_tellMember cX12_tellMember 2 none ∈ eW (zV b e D A X) := z_e zx2425 rfl
theorem zw2431 : Cond.methodLink RX12 348 yX12_tellParams ∈ eW (zV b e D A X) := z_e zx2431 rfl
theorem zw2433 : Cond.instanceMethod yX12_tellParams ∈ eW (zV b e D A X) := z_e zx2433 rfl
theorem zw2434 : Cond.code yX12_tellParams cX12_tellParams 3 none ∈ eW (zV b e D A X) := z_e zx2434 rfl
theorem zw2438 : Cond.methodLink RX12 357 yX12_tellName ∈ eW (zV b e D A X) := z_e zx2438 rfl
theorem zw2440 : Cond.instanceMethod yX12_tellName ∈ eW (zV b e D A X) := z_e zx2440 rfl
theorem zw2441 : Cond.code yX12_tellName cX12_tellName 3 none ∈ eW (zV b e D A X) := z_e zx2441 rfl
theorem zw2443 : Cond.methodLink RX12 368 yX12_tellNumber ∈ eW (zV b e D A X) := z_e zx2443 rfl
theorem zw2445 : Cond.instanceMethod yX12_tellNumber ∈ eW (zV b e D A X) := z_e zx2445 rfl
theorem zw2446 : Cond.code yX12_tellNumber cX12_tellNumber 8 none ∈ eW (zV b e D A X) := z_e zx2446 rfl
theorem zw2447 : Cond.constantLong RX12 382 (10) ∈ eW (zV b e D A X) := z_e zx2447 rfl
theorem zw2451 : Cond.code yX12_uses cX12_uses 4 (some .int) ∈ eW (zV b e D A X) := z_e zx2451 rfl
theorem zw2455 : Cond.code yX12_use cX12_use 6 (some .int) ∈ eW (zV b e D A X) := z_e zx2455 rfl
theorem zw2456 : Cond.methodLink RX12 417 yX12_hasUse ∈ eW (zV b e D A X) := z_e zx2456 rfl
theorem zw2457 : Cond.static yX12_hasUse ∈ eW (zV b e D A X) := z_e zx2457 rfl
theorem zw2458 : Cond.code yX12_hasUse cX12_hasUse 2 (some .boolean) ∈ eW (zV b e D A X) := z_e zx2458 rfl
theorem zw2462 : Cond.code yX12_tell cX12_tell 7 (some .int) ∈ eW (zV b e D A X) := z_e zx2462 rfl
theorem zw2464 : Cond.methodLink RX12 436 yX12_tellUsed ∈ eW (zV b e D A X) := z_e zx2464 rfl
theorem zw2466 : Cond.instanceMethod yX12_tellUsed ∈ eW (zV b e D A X) := z_e zx2466 rfl
theorem zw2467 : Cond.code yX12_tellUsed cX12_tellUsed 4 none ∈ eW (zV b e D A X) := z_e zx2467 rfl
theorem zw2473 : Cond.code yX12_meet cX12_meet 5 (some .int) ∈ eW (zV b e D A X) := z_e zx2473 rfl
theorem zw2474 : Cond.methodLink RX12 449 yX12_whereUsed ∈ eW (zV b e D A X) := z_e zx2474 rfl
theorem zw2476 : Cond.instanceMethod yX12_whereUsed ∈ eW (zV b e D A X) := z_e zx2476 rfl
theorem zw2477 : Cond.code yX12_whereUsed cX12_whereUsed 7 (some .int) ∈ eW (zV b e D A X) := z_e zx2477 rfl
theorem zw2478 : Cond.methodLink RX12 442 yX11_find ∈ eW (zV b e D A X) := z_e zx2478 rfl
theorem zw2479 : Cond.methodLink RX12 453 yX5_clear ∈ eW (zV b e D A X) := z_e zx2479 rfl
theorem zw2480 : Cond.methodLink RX12 457 yX5_ask ∈ eW (zV b e D A X) := z_e zx2480 rfl
theorem zw2481 : Cond.instanceMethod yX5_ask ∈ eW (zV b e D A X) := z_e zx2481 rfl
theorem zw2482 : Cond.selects RX5 yX5_ask yX5_ask ∈ eW (zV b e D A X) := z_e zx2482 rfl
theorem zw2483 : Cond.code yX5_ask cX5_ask 9 (some .int) ∈ eW (zV b e D A X) := z_e zx2483 rfl
theorem zw2484 : Cond.constantLong RX5 183 (-4) ∈ eW (zV b e D A X) := z_e zx2484 rfl
theorem zw2485 : Cond.methodLink RX5 196 yX5_askCopy ∈ eW (zV b e D A X) := z_e zx2485 rfl
theorem zw2487 : Cond.instanceMethod yX5_askCopy ∈ eW (zV b e D A X) := z_e zx2487 rfl
theorem zw2488 : Cond.code yX5_askCopy cX5_askCopy 8 (some .int) ∈ eW (zV b e D A X) := z_e zx2488 rfl
theorem zw2489 : Cond.methodLink RX5 176 yX11_find ∈ eW (zV b e D A X) := z_e zx2489 rfl
theorem zw2490 : Cond.constantLong RX5 266 (-1) ∈ eW (zV b e D A X) := z_e zx2490 rfl
theorem zw2491 : Cond.methodLink RX5 229 yX11_fieldIn ∈ eW (zV b e D A X) := z_e zx2491 rfl
theorem zw2492 : Cond.methodLink RX5 116 yX5_load ∈ eW (zV b e D A X) := z_e zx2492 rfl
theorem zw2493 : Cond.instanceMethod yX5_load ∈ eW (zV b e D A X) := z_e zx2493 rfl
theorem zw2494 : Cond.selects RX5 yX5_load yX5_load ∈ eW (zV b e D A X) := z_e zx2494 rfl
theorem zw2495 : Cond.code yX5_load cX5_load 10 (some .int) ∈ eW (zV b e D A X) := z_e zx2495 rfl
theorem zw2496 : Cond.methodLink RX5 92 yX5_openLoad ∈ eW (zV b e D A X) := z_e zx2496 rfl
theorem zw2498 : Cond.instanceMethod yX5_openLoad ∈ eW (zV b e D A X) := z_e zx2498 rfl
theorem zw2499 : Cond.code yX5_openLoad cX5_openLoad 3 (some .int) ∈ eW (zV b e D A X) := z_e zx2499 rfl
theorem zw2500 : Cond.constant RX5 96 (100000000) ∈ eW (zV b e D A X) := z_e zx2500 rfl
theorem zw2501 : Cond.methodLink RX5 109 yX5_tellEvent ∈ eW (zV b e D A X) := z_e zx2501 rfl
theorem zw2502 : Cond.instanceMethod yX5_tellEvent ∈ eW (zV b e D A X) := z_e zx2502 rfl
theorem zw2503 : Cond.selects RX5 yX5_tellEvent yX5_tellEvent ∈ eW (zV b e D A X) := z_e zx2503 rfl
theorem zw2504 : Cond.code yX5_tellEvent cX5_tellEvent 3 none ∈ eW (zV b e D A X) := z_e zx2504 rfl
theorem zw2505 : Cond.methodLink RX5 168 yX5_askFit ∈ eW (zV b e D A X) := z_e zx2505 rfl
theorem zw2507 : Cond.instanceMethod yX5_askFit ∈ eW (zV b e D A X) := z_e zx2507 rfl
theorem zw2508 : Cond.code yX5_askFit cX5_askFit 8 (some .int) ∈ eW (zV b e D A X) := z_e zx2508 rfl
theorem zw2509 : Cond.methodLink RX5 179 yX11_heir ∈ eW (zV b e D A X) := z_e zx2509 rfl
theorem zw2510 : Cond.methodLink RX5 172 yX5_askCatch ∈ eW (zV b e D A X) := z_e zx2510 rfl
theorem zw2512 : Cond.instanceMethod yX5_askCatch ∈ eW (zV b e D A X) := z_e zx2512 rfl
theorem zw2513 : Cond.code yX5_askCatch cX5_askCatch 5 (some .int) ∈ eW (zV b e D A X) := z_e zx2513 rfl
theorem zw2514 : Cond.methodLink RX5 200 yX11_isLet ∈ eW (zV b e D A X) := z_e zx2514 rfl
theorem zw2515 : Cond.methodLink RX5 203 yX5_askMember ∈ eW (zV b e D A X) := z_e zx2515 rfl
theorem zw2517 : Cond.instanceMethod yX5_askMember ∈ eW (zV b e D A X) := z_e zx2517 rfl
theorem zw2518 : Cond.code yX5_askMember cX5_askMember 7 (some .int) ∈ eW (zV b e D A X) := z_e zx2518 rfl
theorem zw2519 : Cond.methodLink RX5 213 yX10_maker ∈ eW (zV b e D A X) := z_e zx2519 rfl
theorem zw2520 : Cond.instanceMethod yX10_maker ∈ eW (zV b e D A X) := z_e zx2520 rfl
theorem zw2521 : Cond.selects RX10 yX10_maker yX10_maker ∈ eW (zV b e D A X) := z_e zx2521 rfl
theorem zw2522 : Cond.code yX10_maker cX10_maker 4 (some (.object "LinkHouse$Member")) ∈ eW (zV b e D A X) := z_e zx2522 rfl
theorem zw2523 : Cond.methodLink RX5 216 yX5_isLet ∈ eW (zV b e D A X) := z_e zx2523 rfl
theorem zw2525 : Cond.instanceMethod yX5_isLet ∈ eW (zV b e D A X) := z_e zx2525 rfl
theorem zw2526 : Cond.code yX5_isLet cX5_isLet 7 (some .boolean) ∈ eW (zV b e D A X) := z_e zx2526 rfl
theorem zw2527 : Cond.methodLink RX5 277 yX11_isLet_ ∈ eW (zV b e D A X) := z_e zx2527 rfl
theorem zw2528 : Cond.methodLink RX5 219 yX5_askField ∈ eW (zV b e D A X) := z_e zx2528 rfl
theorem zw2530 : Cond.instanceMethod yX5_askField ∈ eW (zV b e D A X) := z_e zx2530 rfl
theorem zw2531 : Cond.code yX5_askField cX5_askField 6 (some .int) ∈ eW (zV b e D A X) := z_e zx2531 rfl
theorem zw2532 : Cond.methodLink RX5 222 yX5_askMethod ∈ eW (zV b e D A X) := z_e zx2532 rfl
theorem zw2534 : Cond.instanceMethod yX5_askMethod ∈ eW (zV b e D A X) := z_e zx2534 rfl
theorem zw2535 : Cond.code yX5_askMethod cX5_askMethod 7 (some .int) ∈ eW (zV b e D A X) := z_e zx2535 rfl
theorem zw2536 : Cond.methodLink RX5 245 yX5_resolve ∈ eW (zV b e D A X) := z_e zx2536 rfl
theorem zw2538 : Cond.instanceMethod yX5_resolve ∈ eW (zV b e D A X) := z_e zx2538 rfl
theorem zw2539 : Cond.code yX5_resolve cX5_resolve 7 (some (.object "LinkHouse$Member")) ∈ eW (zV b e D A X) := z_e zx2539 rfl
theorem zw2540 : Cond.methodLink RX5 139 yX10_method ∈ eW (zV b e D A X) := z_e zx2540 rfl
theorem zw2541 : Cond.methodLink RX5 253 yX11_faces ∈ eW (zV b e D A X) := z_e zx2541 rfl
theorem zw2542 : Cond.methodLink RX5 259 yX11_mostSpecial ∈ eW (zV b e D A X) := z_e zx2542 rfl
theorem zw2543 : Cond.methodLink RX5 135 yX7_ofObjects ∈ eW (zV b e D A X) := z_e zx2543 rfl
theorem zw2544 : Cond.methodLink RX5 249 yX5_askSuper ∈ eW (zV b e D A X) := z_e zx2544 rfl
theorem zw2546 : Cond.instanceMethod yX5_askSuper ∈ eW (zV b e D A X) := z_e zx2546 rfl
theorem zw2547 : Cond.code yX5_askSuper cX5_askSuper 6 (some .int) ∈ eW (zV b e D A X) := z_e zx2547 rfl
theorem zw2551 : Cond.code yX12_met cX12_met 1 (some .int) ∈ eW (zV b e D A X) := z_e zx2551 rfl
theorem zw2555 : Cond.code yX12_looked cX12_looked 2 (some .int) ∈ eW (zV b e D A X) := z_e zx2555 rfl
theorem zw2559 : Cond.code yX12_broken cX12_broken 1 (some .int) ∈ eW (zV b e D A X) := z_e zx2559 rfl
theorem zw2560 : Cond.methodLink RX12 473 yX12_countBroken ∈ eW (zV b e D A X) := z_e zx2560 rfl
theorem zw2562 : Cond.instanceMethod yX12_countBroken ∈ eW (zV b e D A X) := z_e zx2562 rfl
theorem zw2563 : Cond.code yX12_countBroken cX12_countBroken 13 (some .int) ∈ eW (zV b e D A X) := z_e zx2563 rfl
theorem zw2564 : Cond.methodLink RX12 477 yX5_load ∈ eW (zV b e D A X) := z_e zx2564 rfl
theorem zw2565 : Cond.methodLink RX12 485 yX5_undo ∈ eW (zV b e D A X) := z_e zx2565 rfl
theorem zw2566 : Cond.instanceMethod yX5_undo ∈ eW (zV b e D A X) := z_e zx2566 rfl
theorem zw2567 : Cond.selects RX5 yX5_undo yX5_undo ∈ eW (zV b e D A X) := z_e zx2567 rfl
theorem zw2568 : Cond.code yX5_undo cX5_undo 2 none ∈ eW (zV b e D A X) := z_e zx2568 rfl
theorem zw2569 : Cond.methodLink RX12 488 yX12_list ∈ eW (zV b e D A X) := z_e zx2569 rfl
theorem zw2571 : Cond.instanceMethod yX12_list ∈ eW (zV b e D A X) := z_e zx2571 rfl
theorem zw2572 : Cond.code yX12_list cX12_list 4 none ∈ eW (zV b e D A X) := z_e zx2572 rfl
theorem zw2576 : Cond.code yX12_brokenAt cX12_brokenAt 3 (some .int) ∈ eW (zV b e D A X) := z_e zx2576 rfl
theorem zw2580 : Cond.code yX12_stale cX12_stale 6 (some .int) ∈ eW (zV b e D A X) := z_e zx2580 rfl
theorem zw2584 : Cond.code yX12_choose cX12_choose 3 (some .int) ∈ eW (zV b e D A X) := z_e zx2584 rfl
theorem zw2585 : Cond.methodLink RX12 492 yX12_greatest ∈ eW (zV b e D A X) := z_e zx2585 rfl
theorem zw2587 : Cond.instanceMethod yX12_greatest ∈ eW (zV b e D A X) := z_e zx2587 rfl
theorem zw2588 : Cond.code yX12_greatest cX12_greatest 2 (some .int) ∈ eW (zV b e D A X) := z_e zx2588 rfl
theorem zw2589 : Cond.methodLink RX12 495 yJ9_max_7cf53 ∈ eW (zV b e D A X) := z_e zx2589 rfl
theorem zw2590 : Cond.methodLink RX12 498 yX12_lowerTrial ∈ eW (zV b e D A X) := z_e zx2590 rfl
theorem zw2592 : Cond.instanceMethod yX12_lowerTrial ∈ eW (zV b e D A X) := z_e zx2592 rfl
theorem zw2593 : Cond.code yX12_lowerTrial cX12_lowerTrial 2 none ∈ eW (zV b e D A X) := z_e zx2593 rfl
theorem zw2597 : Cond.code yX12_differ cX12_differ 6 (some .int) ∈ eW (zV b e D A X) := z_e zx2597 rfl
theorem zw2598 : Cond.methodLink RX12 501 yX2_compare ∈ eW (zV b e D A X) := z_e zx2598 rfl
theorem zw2599 : Cond.instanceMethod yX2_compare ∈ eW (zV b e D A X) := z_e zx2599 rfl
theorem zw2600 : Cond.selects RX2 yX2_compare yX2_compare ∈ eW (zV b e D A X) := z_e zx2600 rfl
theorem zw2601 : Cond.code yX2_compare cX2_compare 7 (some .int) ∈ eW (zV b e D A X) := z_e zx2601 rfl
theorem zw2602 : Cond.methodLink RX2 57 yX1_named ∈ eW (zV b e D A X) := z_e zx2602 rfl
theorem zw2603 : Cond.methodLink RX2 61 yX1_indexOf ∈ eW (zV b e D A X) := z_e zx2603 rfl
theorem zw2604 : Cond.instanceMethod yX1_indexOf ∈ eW (zV b e D A X) := z_e zx2604 rfl
theorem zw2605 : Cond.selects RX1 yX1_indexOf yX1_indexOf ∈ eW (zV b e D A X) := z_e zx2605 rfl
theorem zw2606 : Cond.code yX1_indexOf cX1_indexOf 3 (some .int) ∈ eW (zV b e D A X) := z_e zx2606 rfl
theorem zw2607 : Cond.methodLink RX2 68 yX2_note ∈ eW (zV b e D A X) := z_e zx2607 rfl
theorem zw2609 : Cond.instanceMethod yX2_note ∈ eW (zV b e D A X) := z_e zx2609 rfl
theorem zw2610 : Cond.code yX2_note cX2_note 5 (some .int) ∈ eW (zV b e D A X) := z_e zx2610 rfl
theorem zw2611 : Cond.methodLink RX2 98 yX2_breaks ∈ eW (zV b e D A X) := z_e zx2611 rfl
theorem zw2612 : Cond.static yX2_breaks ∈ eW (zV b e D A X) := z_e zx2612 rfl
theorem zw2613 : Cond.code yX2_breaks cX2_breaks 1 (some .boolean) ∈ eW (zV b e D A X) := z_e zx2613 rfl
theorem zw2614 : Cond.methodLink RX2 102 yJ9_max_7cf53 ∈ eW (zV b e D A X) := z_e zx2614 rfl
theorem zw2615 : Cond.methodLink RX2 75 yX2_heads ∈ eW (zV b e D A X) := z_e zx2615 rfl
theorem zw2617 : Cond.instanceMethod yX2_heads ∈ eW (zV b e D A X) := z_e zx2617 rfl
theorem zw2618 : Cond.code yX2_heads cX2_heads 4 (some .int) ∈ eW (zV b e D A X) := z_e zx2618 rfl
theorem zw2619 : Cond.methodLink RX2 111 yX2_turned ∈ eW (zV b e D A X) := z_e zx2619 rfl
theorem zw2621 : Cond.instanceMethod yX2_turned ∈ eW (zV b e D A X) := z_e zx2621 rfl
theorem zw2622 : Cond.code yX2_turned cX2_turned 6 (some .int) ∈ eW (zV b e D A X) := z_e zx2622 rfl
theorem zw2623 : Cond.methodLink RX2 79 yX2_faces ∈ eW (zV b e D A X) := z_e zx2623 rfl
theorem zw2625 : Cond.instanceMethod yX2_faces ∈ eW (zV b e D A X) := z_e zx2625 rfl
theorem zw2626 : Cond.code yX2_faces cX2_faces 5 (some .int) ∈ eW (zV b e D A X) := z_e zx2626 rfl
theorem zw2627 : Cond.methodLink RX2 127 yX10_listedAt ∈ eW (zV b e D A X) := z_e zx2627 rfl
theorem zw2628 : Cond.methodLink RX2 131 yX10_has ∈ eW (zV b e D A X) := z_e zx2628 rfl
theorem zw2629 : Cond.methodLink RX2 82 yX2_only ∈ eW (zV b e D A X) := z_e zx2629 rfl
theorem zw2631 : Cond.instanceMethod yX2_only ∈ eW (zV b e D A X) := z_e zx2631 rfl
theorem zw2632 : Cond.code yX2_only cX2_only 6 (some .int) ∈ eW (zV b e D A X) := z_e zx2632 rfl
theorem zw2633 : Cond.methodLink RX2 85 yX2_fields ∈ eW (zV b e D A X) := z_e zx2633 rfl
theorem zw2635 : Cond.instanceMethod yX2_fields ∈ eW (zV b e D A X) := z_e zx2635 rfl
theorem zw2636 : Cond.code yX2_fields cX2_fields 7 (some .int) ∈ eW (zV b e D A X) := z_e zx2636 rfl
theorem zw2637 : Cond.constantLong RX2 151 (-4) ∈ eW (zV b e D A X) := z_e zx2637 rfl
theorem zw2638 : Cond.methodLink RX2 153 yX10_field ∈ eW (zV b e D A X) := z_e zx2638 rfl
theorem zw2639 : Cond.methodLink RX2 157 yX2_indexIn ∈ eW (zV b e D A X) := z_e zx2639 rfl
theorem zw2640 : Cond.static yX2_indexIn ∈ eW (zV b e D A X) := z_e zx2640 rfl
theorem zw2641 : Cond.code yX2_indexIn cX2_indexIn 3 (some .int) ∈ eW (zV b e D A X) := z_e zx2641 rfl
theorem zw2642 : Cond.methodLink RX2 161 yX2_field ∈ eW (zV b e D A X) := z_e zx2642 rfl
theorem zw2644 : Cond.instanceMethod yX2_field ∈ eW (zV b e D A X) := z_e zx2644 rfl
theorem zw2645 : Cond.code yX2_field cX2_field 7 (some .int) ∈ eW (zV b e D A X) := z_e zx2645 rfl
theorem zw2646 : Cond.methodLink RX2 174 yX2_access ∈ eW (zV b e D A X) := z_e zx2646 rfl
theorem zw2648 : Cond.instanceMethod yX2_access ∈ eW (zV b e D A X) := z_e zx2648 rfl
theorem zw2649 : Cond.code yX2_access cX2_access 6 (some .int) ∈ eW (zV b e D A X) := z_e zx2649 rfl
theorem zw2650 : Cond.methodLink RX2 88 yX2_methods ∈ eW (zV b e D A X) := z_e zx2650 rfl
theorem zw2652 : Cond.instanceMethod yX2_methods ∈ eW (zV b e D A X) := z_e zx2652 rfl
theorem zw2653 : Cond.code yX2_methods cX2_methods 7 (some .int) ∈ eW (zV b e D A X) := z_e zx2653 rfl
theorem zw2654 : Cond.methodLink RX2 186 yX10_plain ∈ eW (zV b e D A X) := z_e zx2654 rfl
theorem zw2655 : Cond.methodLink RX2 190 yX2_method ∈ eW (zV b e D A X) := z_e zx2655 rfl
theorem zw2657 : Cond.instanceMethod yX2_method ∈ eW (zV b e D A X) := z_e zx2657 rfl
theorem zw2658 : Cond.code yX2_method cX2_method 6 (some .int) ∈ eW (zV b e D A X) := z_e zx2658 rfl
theorem zw2659 : Cond.methodLink RX2 197 yX2_sameBlocks ∈ eW (zV b e D A X) := z_e zx2659 rfl
theorem zw2661 : Cond.instanceMethod yX2_sameBlocks ∈ eW (zV b e D A X) := z_e zx2661 rfl
theorem zw2662 : Cond.code yX2_sameBlocks cX2_sameBlocks 4 (some .boolean) ∈ eW (zV b e D A X) := z_e zx2662 rfl
theorem zw2663 : Cond.methodLink RX2 210 yX2_range ∈ eW (zV b e D A X) := z_e zx2663 rfl
theorem zw2664 : Cond.static yX2_range ∈ eW (zV b e D A X) := z_e zx2664 rfl
theorem zw2665 : Cond.code yX2_range cX2_range 5 (some .int) ∈ eW (zV b e D A X) := z_e zx2665 rfl
theorem zw2666 : Cond.methodLink RX2 214 yX2_sameTokens ∈ eW (zV b e D A X) := z_e zx2666 rfl
theorem zw2668 : Cond.instanceMethod yX2_sameTokens ∈ eW (zV b e D A X) := z_e zx2668 rfl
theorem zw2669 : Cond.code yX2_sameTokens cX2_sameTokens 7 (some .boolean) ∈ eW (zV b e D A X) := z_e zx2669 rfl
theorem zw2670 : Cond.methodLink RX2 91 yX2_makers ∈ eW (zV b e D A X) := z_e zx2670 rfl
theorem zw2672 : Cond.instanceMethod yX2_makers ∈ eW (zV b e D A X) := z_e zx2672 rfl
theorem zw2673 : Cond.code yX2_makers cX2_makers 8 (some .int) ∈ eW (zV b e D A X) := z_e zx2673 rfl
theorem zw2674 : Cond.methodLink RX2 201 yX10_maker ∈ eW (zV b e D A X) := z_e zx2674 rfl
theorem zw2675 : Cond.methodLink RX2 94 yX2_sameStarts ∈ eW (zV b e D A X) := z_e zx2675 rfl
theorem zw2677 : Cond.instanceMethod yX2_sameStarts ∈ eW (zV b e D A X) := z_e zx2677 rfl
theorem zw2678 : Cond.code yX2_sameStarts cX2_sameStarts 4 (some .boolean) ∈ eW (zV b e D A X) := z_e zx2678 rfl
theorem zw2679 : Cond.methodLink RX2 223 yX2_starts ∈ eW (zV b e D A X) := z_e zx2679 rfl
theorem zw2680 : Cond.static yX2_starts ∈ eW (zV b e D A X) := z_e zx2680 rfl
theorem zw2681 : Cond.code yX2_starts cX2_starts 5 (some .int) ∈ eW (zV b e D A X) := z_e zx2681 rfl
theorem zw2685 : Cond.code yX12_change cX12_change 3 (some .int) ∈ eW (zV b e D A X) := z_e zx2685 rfl
theorem zw2689 : Cond.code yX12_word cX12_word 6 (some .int) ∈ eW (zV b e D A X) := z_e zx2689 rfl
theorem zw2693 : Cond.code yX12_weave cX12_weave 15 (some .int) ∈ eW (zV b e D A X) := z_e zx2693 rfl
theorem zw2694 : Cond.methodLink RX12 511 yX1_clear ∈ eW (zV b e D A X) := z_e zx2694 rfl
theorem zw2695 : Cond.methodLink RX12 518 yX3_copyRow ∈ eW (zV b e D A X) := z_e zx2695 rfl
theorem zw2696 : Cond.instanceMethod yX3_copyRow ∈ eW (zV b e D A X) := z_e zx2696 rfl
theorem zw2697 : Cond.selects RX3 yX3_copyRow yX3_copyRow ∈ eW (zV b e D A X) := z_e zx2697 rfl
theorem zw2698 : Cond.code yX3_copyRow cX3_copyRow 8 none ∈ eW (zV b e D A X) := z_e zx2698 rfl
theorem zw2699 : Cond.methodLink RX3 307 yX1_newRow ∈ eW (zV b e D A X) := z_e zx2699 rfl
theorem zw2700 : Cond.methodLink RX3 329 arraycopyName ∈ eW (zV b e D A X) := z_e zx2700 rfl
theorem zw2701 : Cond.methodLink RX3 335 yX10_addItem ∈ eW (zV b e D A X) := z_e zx2701 rfl
theorem zw2702 : Cond.methodLink RX3 338 yX10_add ∈ eW (zV b e D A X) := z_e zx2702 rfl
theorem zw2703 : Cond.methodLink RX12 522 yX1_named ∈ eW (zV b e D A X) := z_e zx2703 rfl
theorem zw2704 : Cond.methodLink RX12 526 yX12_healing ∈ eW (zV b e D A X) := z_e zx2704 rfl
theorem zw2706 : Cond.instanceMethod yX12_healing ∈ eW (zV b e D A X) := z_e zx2706 rfl
theorem zw2707 : Cond.code yX12_healing cX12_healing 4 (some (.object "LinkHouse$Member")) ∈ eW (zV b e D A X) := z_e zx2707 rfl
theorem zw2708 : Cond.methodLink RX12 545 yX10_method ∈ eW (zV b e D A X) := z_e zx2708 rfl
theorem zw2709 : Cond.methodLink RX12 549 yX10_plain ∈ eW (zV b e D A X) := z_e zx2709 rfl
theorem zw2710 : Cond.methodLink RX12 552 yX11_fits ∈ eW (zV b e D A X) := z_e zx2710 rfl
theorem zw2711 : Cond.methodLink RX12 530 yX10_bridges ∈ eW (zV b e D A X) := z_e zx2711 rfl
theorem zw2712 : Cond.methodLink RX12 533 yX4_addBridge ∈ eW (zV b e D A X) := z_e zx2712 rfl
theorem zw2713 : Cond.methodLink RX12 537 yX3_addWoven ∈ eW (zV b e D A X) := z_e zx2713 rfl
theorem zw2714 : Cond.instanceMethod yX3_addWoven ∈ eW (zV b e D A X) := z_e zx2714 rfl
theorem zw2715 : Cond.selects RX3 yX3_addWoven yX3_addWoven ∈ eW (zV b e D A X) := z_e zx2715 rfl
theorem zw2716 : Cond.code yX3_addWoven cX3_addWoven 3 none ∈ eW (zV b e D A X) := z_e zx2716 rfl
theorem zw2720 : Cond.code yX12_fresh cX12_fresh 3 (some .int) ∈ eW (zV b e D A X) := z_e zx2720 rfl
theorem zw2721 : Cond.methodLink RX12 560 yX5_isLoaded ∈ eW (zV b e D A X) := z_e zx2721 rfl
theorem zw2722 : Cond.instanceMethod yX5_isLoaded ∈ eW (zV b e D A X) := z_e zx2722 rfl
theorem zw2723 : Cond.selects RX5 yX5_isLoaded yX5_isLoaded ∈ eW (zV b e D A X) := z_e zx2723 rfl
theorem zw2724 : Cond.code yX5_isLoaded cX5_isLoaded 2 (some .boolean) ∈ eW (zV b e D A X) := z_e zx2724 rfl
theorem zw2728 : Cond.code yX12_touch cX12_touch 5 (some .int) ∈ eW (zV b e D A X) := z_e zx2728 rfl
theorem zw2732 : Cond.code yX12_run cX12_run 5 (some .int) ∈ eW (zV b e D A X) := z_e zx2732 rfl
theorem zw2733 : Cond.methodLink RX12 563 yX9_isCall ∈ eW (zV b e D A X) := z_e zx2733 rfl
theorem zw2734 : Cond.instanceMethod yX9_isCall ∈ eW (zV b e D A X) := z_e zx2734 rfl
theorem zw2735 : Cond.selects RX9 yX9_isCall yX9_isCall ∈ eW (zV b e D A X) := z_e zx2735 rfl
theorem zw2736 : Cond.code yX9_isCall cX9_isCall 3 (some .boolean) ∈ eW (zV b e D A X) := z_e zx2736 rfl
theorem zw2737 : Cond.methodLink RX12 569 yX12_runnable ∈ eW (zV b e D A X) := z_e zx2737 rfl
theorem zw2738 : Cond.static yX12_runnable ∈ eW (zV b e D A X) := z_e zx2738 rfl
theorem zw2739 : Cond.code yX12_runnable cX12_runnable 5 (some (.object "LinkHouse$Member")) ∈ eW (zV b e D A X) := z_e zx2739 rfl
theorem zw2740 : Cond.methodLink RX12 573 yX6_open ∈ eW (zV b e D A X) := z_e zx2740 rfl
theorem zw2741 : Cond.instanceMethod yX6_open ∈ eW (zV b e D A X) := z_e zx2741 rfl
theorem zw2742 : Cond.selects RX6 yX6_open yX6_open ∈ eW (zV b e D A X) := z_e zx2742 rfl
theorem zw2743 : Cond.code yX6_open cX6_open 2 none ∈ eW (zV b e D A X) := z_e zx2743 rfl
theorem zw2744 : Cond.methodLink RX6 92 yX6_ready ∈ eW (zV b e D A X) := z_e zx2744 rfl
theorem zw2746 : Cond.instanceMethod yX6_ready ∈ eW (zV b e D A X) := z_e zx2746 rfl
theorem zw2747 : Cond.code yX6_ready cX6_ready 4 (some .boolean) ∈ eW (zV b e D A X) := z_e zx2747 rfl
theorem zw2748 : Cond.methodLink RX6 103 yX6_fail ∈ eW (zV b e D A X) := z_e zx2748 rfl
theorem zw2749 : Cond.instanceMethod yX6_fail ∈ eW (zV b e D A X) := z_e zx2749 rfl
theorem zw2750 : Cond.selects RX6 yX6_fail yX6_fail ∈ eW (zV b e D A X) := z_e zx2750 rfl
theorem zw2751 : Cond.code yX6_fail cX6_fail 3 none ∈ eW (zV b e D A X) := z_e zx2751 rfl
theorem zw2752 : Cond.methodLink RX6 99 yX5_tellEvent ∈ eW (zV b e D A X) := z_e zx2752 rfl
theorem zw2753 : Cond.methodLink RX6 106 yX5_link ∈ eW (zV b e D A X) := z_e zx2753 rfl
theorem zw2754 : Cond.instanceMethod yX5_link ∈ eW (zV b e D A X) := z_e zx2754 rfl
theorem zw2755 : Cond.selects RX5 yX5_link yX5_link ∈ eW (zV b e D A X) := z_e zx2755 rfl
theorem zw2756 : Cond.code yX5_link cX5_link 9 (some .int) ∈ eW (zV b e D A X) := z_e zx2756 rfl
theorem zw2757 : Cond.methodLink RX5 120 yX5_linkOwn ∈ eW (zV b e D A X) := z_e zx2757 rfl
theorem zw2759 : Cond.instanceMethod yX5_linkOwn ∈ eW (zV b e D A X) := z_e zx2759 rfl
theorem zw2760 : Cond.code yX5_linkOwn cX5_linkOwn 8 (some .int) ∈ eW (zV b e D A X) := z_e zx2760 rfl
theorem zw2761 : Cond.methodLink RX5 146 yX11_overrides ∈ eW (zV b e D A X) := z_e zx2761 rfl
theorem zw2762 : Cond.methodLink RX6 122 yX6_openFrame ∈ eW (zV b e D A X) := z_e zx2762 rfl
theorem zw2764 : Cond.instanceMethod yX6_openFrame ∈ eW (zV b e D A X) := z_e zx2764 rfl
theorem zw2765 : Cond.code yX6_openFrame cX6_openFrame 7 none ∈ eW (zV b e D A X) := z_e zx2765 rfl
theorem zw2766 : Cond.constant RX12 575 (100000000) ∈ eW (zV b e D A X) := z_e zx2766 rfl
theorem zw2767 : Cond.methodLink RX12 579 yX6_turn ∈ eW (zV b e D A X) := z_e zx2767 rfl
theorem zw2768 : Cond.instanceMethod yX6_turn ∈ eW (zV b e D A X) := z_e zx2768 rfl
theorem zw2769 : Cond.selects RX6 yX6_turn yX6_turn ∈ eW (zV b e D A X) := z_e zx2769 rfl
theorem zw2770 : Cond.code yX6_turn cX6_turn 10 none ∈ eW (zV b e D A X) := z_e zx2770 rfl
theorem zw2771 : Cond.methodLink RX6 134 yX6_nextStart ∈ eW (zV b e D A X) := z_e zx2771 rfl
theorem zw2773 : Cond.instanceMethod yX6_nextStart ∈ eW (zV b e D A X) := z_e zx2773 rfl
theorem zw2774 : Cond.code yX6_nextStart cX6_nextStart 8 (some .int) ∈ eW (zV b e D A X) := z_e zx2774 rfl
theorem zw2775 : Cond.methodLink RX6 198 yX6_startedFace ∈ eW (zV b e D A X) := z_e zx2775 rfl
theorem zw2777 : Cond.instanceMethod yX6_startedFace ∈ eW (zV b e D A X) := z_e zx2777 rfl
theorem zw2778 : Cond.code yX6_startedFace cX6_startedFace 13 (some .int) ∈ eW (zV b e D A X) := z_e zx2778 rfl
theorem zw2779 : Cond.constant RX6 217 (100000000) ∈ eW (zV b e D A X) := z_e zx2779 rfl
theorem zw2780 : Cond.methodLink RX6 220 yX10_hasRunning ∈ eW (zV b e D A X) := z_e zx2780 rfl
theorem zw2781 : Cond.instanceMethod yX10_hasRunning ∈ eW (zV b e D A X) := z_e zx2781 rfl
theorem zw2782 : Cond.selects RX10 yX10_hasRunning yX10_hasRunning ∈ eW (zV b e D A X) := z_e zx2782 rfl
theorem zw2783 : Cond.code yX10_hasRunning cX10_hasRunning 3 (some .boolean) ∈ eW (zV b e D A X) := z_e zx2783 rfl
theorem zw2784 : Cond.methodLink RX6 149 yX6_plainOne ∈ eW (zV b e D A X) := z_e zx2784 rfl
theorem zw2786 : Cond.instanceMethod yX6_plainOne ∈ eW (zV b e D A X) := z_e zx2786 rfl
theorem zw2787 : Cond.code yX6_plainOne cX6_plainOne 9 (some .boolean) ∈ eW (zV b e D A X) := z_e zx2787 rfl
theorem zw2788 : Cond.methodLink RX6 224 yX6_push ∈ eW (zV b e D A X) := z_e zx2788 rfl
theorem zw2790 : Cond.instanceMethod yX6_push ∈ eW (zV b e D A X) := z_e zx2790 rfl
theorem zw2791 : Cond.code yX6_push cX6_push 2 none ∈ eW (zV b e D A X) := z_e zx2791 rfl
theorem zw2792 : Cond.methodLink RX6 227 yX6_pop ∈ eW (zV b e D A X) := z_e zx2792 rfl
theorem zw2794 : Cond.instanceMethod yX6_pop ∈ eW (zV b e D A X) := z_e zx2794 rfl
theorem zw2795 : Cond.code yX6_pop cX6_pop 1 (some .int) ∈ eW (zV b e D A X) := z_e zx2795 rfl
theorem zw2796 : Cond.methodLink RX6 156 yX6_peek ∈ eW (zV b e D A X) := z_e zx2796 rfl
theorem zw2798 : Cond.instanceMethod yX6_peek ∈ eW (zV b e D A X) := z_e zx2798 rfl
theorem zw2799 : Cond.code yX6_peek cX6_peek 3 (some .int) ∈ eW (zV b e D A X) := z_e zx2799 rfl
theorem zw2800 : Cond.methodLink RX6 231 yX6_reckon ∈ eW (zV b e D A X) := z_e zx2800 rfl
theorem zw2801 : Cond.static yX6_reckon ∈ eW (zV b e D A X) := z_e zx2801 rfl
theorem zw2802 : Cond.code yX6_reckon cX6_reckon 3 (some .int) ∈ eW (zV b e D A X) := z_e zx2802 rfl
theorem zw2803 : Cond.methodLink RX6 153 yX6_goOne ∈ eW (zV b e D A X) := z_e zx2803 rfl
theorem zw2805 : Cond.instanceMethod yX6_goOne ∈ eW (zV b e D A X) := z_e zx2805 rfl
theorem zw2806 : Cond.code yX6_goOne cX6_goOne 6 (some .boolean) ∈ eW (zV b e D A X) := z_e zx2806 rfl
theorem zw2807 : Cond.methodLink RX6 235 yX6_throwOne ∈ eW (zV b e D A X) := z_e zx2807 rfl
theorem zw2809 : Cond.instanceMethod yX6_throwOne ∈ eW (zV b e D A X) := z_e zx2809 rfl
theorem zw2810 : Cond.code yX6_throwOne cX6_throwOne 4 none ∈ eW (zV b e D A X) := z_e zx2810 rfl
theorem zw2811 : Cond.methodLink RX6 253 yX6_close ∈ eW (zV b e D A X) := z_e zx2811 rfl
theorem zw2813 : Cond.instanceMethod yX6_close ∈ eW (zV b e D A X) := z_e zx2813 rfl
theorem zw2814 : Cond.code yX6_close cX6_close 2 none ∈ eW (zV b e D A X) := z_e zx2814 rfl
theorem zw2815 : Cond.methodLink RX6 238 yJ9_max_7cf53 ∈ eW (zV b e D A X) := z_e zx2815 rfl
theorem zw2816 : Cond.methodLink RX6 246 yX6_fieldOne ∈ eW (zV b e D A X) := z_e zx2816 rfl
theorem zw2818 : Cond.instanceMethod yX6_fieldOne ∈ eW (zV b e D A X) := z_e zx2818 rfl
theorem zw2819 : Cond.code yX6_fieldOne cX6_fieldOne 7 (some .boolean) ∈ eW (zV b e D A X) := z_e zx2819 rfl
theorem zw2820 : Cond.methodLink RX6 281 yX6_slotsTo ∈ eW (zV b e D A X) := z_e zx2820 rfl
theorem zw2821 : Cond.instanceMethod yX6_slotsTo ∈ eW (zV b e D A X) := z_e zx2821 rfl
theorem zw2822 : Cond.selects RX6 yX6_slotsTo yX6_slotsTo ∈ eW (zV b e D A X) := z_e zx2822 rfl
theorem zw2823 : Cond.code yX6_slotsTo cX6_slotsTo 5 (some .int) ∈ eW (zV b e D A X) := z_e zx2823 rfl
theorem zw2824 : Cond.methodLink RX6 250 yX6_staticOne ∈ eW (zV b e D A X) := z_e zx2824 rfl
theorem zw2826 : Cond.instanceMethod yX6_staticOne ∈ eW (zV b e D A X) := z_e zx2826 rfl
theorem zw2827 : Cond.code yX6_staticOne cX6_staticOne 5 (some .boolean) ∈ eW (zV b e D A X) := z_e zx2827 rfl
theorem zw2828 : Cond.methodLink RX6 257 yX6_giveBack ∈ eW (zV b e D A X) := z_e zx2828 rfl
theorem zw2830 : Cond.instanceMethod yX6_giveBack ∈ eW (zV b e D A X) := z_e zx2830 rfl
theorem zw2831 : Cond.code yX6_giveBack cX6_giveBack 3 none ∈ eW (zV b e D A X) := z_e zx2831 rfl
theorem zw2832 : Cond.methodLink RX6 159 yX5_recalls ∈ eW (zV b e D A X) := z_e zx2832 rfl
theorem zw2833 : Cond.instanceMethod yX5_recalls ∈ eW (zV b e D A X) := z_e zx2833 rfl
theorem zw2834 : Cond.selects RX5 yX5_recalls yX5_recalls ∈ eW (zV b e D A X) := z_e zx2834 rfl
theorem zw2835 : Cond.code yX5_recalls cX5_recalls 4 (some .boolean) ∈ eW (zV b e D A X) := z_e zx2835 rfl
theorem zw2836 : Cond.methodLink RX6 163 yX5_ask ∈ eW (zV b e D A X) := z_e zx2836 rfl
theorem zw2837 : Cond.methodLink RX6 180 yX5_keep ∈ eW (zV b e D A X) := z_e zx2837 rfl
theorem zw2838 : Cond.instanceMethod yX5_keep ∈ eW (zV b e D A X) := z_e zx2838 rfl
theorem zw2839 : Cond.selects RX5 yX5_keep yX5_keep ∈ eW (zV b e D A X) := z_e zx2839 rfl
theorem zw2840 : Cond.code yX5_keep cX5_keep 4 none ∈ eW (zV b e D A X) := z_e zx2840 rfl
theorem zw2841 : Cond.methodLink RX6 189 yX6_useOne ∈ eW (zV b e D A X) := z_e zx2841 rfl
theorem zw2843 : Cond.instanceMethod yX6_useOne ∈ eW (zV b e D A X) := z_e zx2843 rfl
theorem zw2844 : Cond.code yX6_useOne cX6_useOne 7 (some .boolean) ∈ eW (zV b e D A X) := z_e zx2844 rfl
theorem zw2845 : Cond.methodLink RX6 260 yX6_newOne ∈ eW (zV b e D A X) := z_e zx2845 rfl
theorem zw2847 : Cond.instanceMethod yX6_newOne ∈ eW (zV b e D A X) := z_e zx2847 rfl
theorem zw2848 : Cond.code yX6_newOne cX6_newOne 4 (some .boolean) ∈ eW (zV b e D A X) := z_e zx2848 rfl
theorem zw2849 : Cond.methodLink RX6 263 yX6_isOne ∈ eW (zV b e D A X) := z_e zx2849 rfl
theorem zw2851 : Cond.instanceMethod yX6_isOne ∈ eW (zV b e D A X) := z_e zx2851 rfl
theorem zw2852 : Cond.code yX6_isOne cX6_isOne 6 (some .boolean) ∈ eW (zV b e D A X) := z_e zx2852 rfl
theorem zw2853 : Cond.methodLink RX6 290 yX11_heir ∈ eW (zV b e D A X) := z_e zx2853 rfl
theorem zw2854 : Cond.methodLink RX6 266 yX6_makerOne ∈ eW (zV b e D A X) := z_e zx2854 rfl
theorem zw2856 : Cond.instanceMethod yX6_makerOne ∈ eW (zV b e D A X) := z_e zx2856 rfl
theorem zw2857 : Cond.code yX6_makerOne cX6_makerOne 4 (some .boolean) ∈ eW (zV b e D A X) := z_e zx2857 rfl
theorem zw2858 : Cond.methodLink RX6 277 yX6_call ∈ eW (zV b e D A X) := z_e zx2858 rfl
theorem zw2859 : Cond.instanceMethod yX6_call ∈ eW (zV b e D A X) := z_e zx2859 rfl
theorem zw2860 : Cond.selects RX6 yX6_call yX6_call ∈ eW (zV b e D A X) := z_e zx2860 rfl
theorem zw2861 : Cond.code yX6_call cX6_call 5 none ∈ eW (zV b e D A X) := z_e zx2861 rfl
theorem zw2862 : Cond.methodLink RX6 270 yX6_selectOne ∈ eW (zV b e D A X) := z_e zx2862 rfl
theorem zw2864 : Cond.instanceMethod yX6_selectOne ∈ eW (zV b e D A X) := z_e zx2864 rfl
theorem zw2865 : Cond.code yX6_selectOne cX6_selectOne 9 none ∈ eW (zV b e D A X) := z_e zx2865 rfl
theorem zw2866 : Cond.methodLink RX6 293 yX11_selected ∈ eW (zV b e D A X) := z_e zx2866 rfl
theorem zw2867 : Cond.methodLink RX12 585 yX6_call ∈ eW (zV b e D A X) := z_e zx2867 rfl
theorem zw2871 : Cond.code yX12_value cX12_value 1 (some .int) ∈ eW (zV b e D A X) := z_e zx2871 rfl
theorem zw2875 : Cond.code yX12_told cX12_told 2 (some .int) ∈ eW (zV b e D A X) := z_e zx2875 rfl
theorem zw2879 : Cond.code yX12_number cX12_number 2 (some .int) ∈ eW (zV b e D A X) := z_e zx2879 rfl
theorem zw2883 : Cond.code yX12_event cX12_event 2 (some .int) ∈ eW (zV b e D A X) := z_e zx2883 rfl
theorem zw2887 : Cond.code yX12_name cX12_name 2 (some .int) ∈ eW (zV b e D A X) := z_e zx2887 rfl
theorem zw2891 : Cond.code yX12_state cX12_state 2 (some .int) ∈ eW (zV b e D A X) := z_e zx2891 rfl
theorem zw2895 : Cond.code yX12_classOf cX12_classOf 2 (some .int) ∈ eW (zV b e D A X) := z_e zx2895 rfl
theorem zw2899 : Cond.code yX12_fieldOf cX12_fieldOf 3 (some .int) ∈ eW (zV b e D A X) := z_e zx2899 rfl
theorem zw2900 : Cond.methodLink RX12 624 yX6_slotsTo ∈ eW (zV b e D A X) := z_e zx2900 rfl
theorem zw2904 : Cond.code yX13_feed cX13_feed 6 (some .int) ∈ eW (zV b e D A X) := z_e zx2904 rfl
theorem zw2905 : Cond.methodLink RX13 60 yX13_four ∈ eW (zV b e D A X) := z_e zx2905 rfl
theorem zw2907 : Cond.instanceMethod yX13_four ∈ eW (zV b e D A X) := z_e zx2907 rfl
theorem zw2909 : Cond.code yX13_four cX13_four 3 none ∈ eW (zV b e D A X) := z_e zx2909 rfl
theorem zw2913 : Cond.code yX13_cut cX13_cut 2 (some .int) ∈ eW (zV b e D A X) := z_e zx2913 rfl
theorem zw2917 : Cond.code yX13_splice cX13_splice 7 (some .int) ∈ eW (zV b e D A X) := z_e zx2917 rfl
theorem zw2921 : Cond.code yX13_size cX13_size 1 (some .int) ∈ eW (zV b e D A X) := z_e zx2921 rfl
theorem zw2925 : Cond.code yX13_octet cX13_octet 2 (some .int) ∈ eW (zV b e D A X) := z_e zx2925 rfl
theorem zw2929 : Cond.code yX13_make cX13_make 3 (some .int) ∈ eW (zV b e D A X) := z_e zx2929 rfl
theorem zw2930 : Cond.methodLink RX13 944 yX13_isLib ∈ eW (zV b e D A X) := z_e zx2930 rfl
theorem zw2932 : Cond.instanceMethod yX13_isLib ∈ eW (zV b e D A X) := z_e zx2932 rfl
theorem zw2933 : Cond.code yX13_isLib cX13_isLib 2 (some .boolean) ∈ eW (zV b e D A X) := z_e zx2933 rfl
theorem zw2934 : Cond.methodLink RX13 953 yX13_tokenize ∈ eW (zV b e D A X) := z_e zx2934 rfl
theorem zw2936 : Cond.instanceMethod yX13_tokenize ∈ eW (zV b e D A X) := z_e zx2936 rfl
theorem zw2937 : Cond.code yX13_tokenize cX13_tokenize 6 none ∈ eW (zV b e D A X) := z_e zx2937 rfl
theorem zw2938 : Cond.methodLink RX13 91 yX13_byteAt ∈ eW (zV b e D A X) := z_e zx2938 rfl
theorem zw2940 : Cond.instanceMethod yX13_byteAt ∈ eW (zV b e D A X) := z_e zx2940 rfl
theorem zw2941 : Cond.code yX13_byteAt cX13_byteAt 2 (some .int) ∈ eW (zV b e D A X) := z_e zx2941 rfl
theorem zw2942 : Cond.methodLink RX13 106 yX13_tokenAt ∈ eW (zV b e D A X) := z_e zx2942 rfl
theorem zw2944 : Cond.instanceMethod yX13_tokenAt ∈ eW (zV b e D A X) := z_e zx2944 rfl
theorem zw2945 : Cond.code yX13_tokenAt cX13_tokenAt 8 (some .int) ∈ eW (zV b e D A X) := z_e zx2945 rfl
theorem zw2946 : Cond.methodLink RX13 116 yX13_isSmall ∈ eW (zV b e D A X) := z_e zx2946 rfl
theorem zw2947 : Cond.static yX13_isSmall ∈ eW (zV b e D A X) := z_e zx2947 rfl
theorem zw2948 : Cond.code yX13_isSmall cX13_isSmall 1 (some .boolean) ∈ eW (zV b e D A X) := z_e zx2948 rfl
theorem zw2949 : Cond.methodLink RX13 120 yX13_isGreat ∈ eW (zV b e D A X) := z_e zx2949 rfl
theorem zw2950 : Cond.static yX13_isGreat ∈ eW (zV b e D A X) := z_e zx2950 rfl
theorem zw2951 : Cond.code yX13_isGreat cX13_isGreat 1 (some .boolean) ∈ eW (zV b e D A X) := z_e zx2951 rfl
theorem zw2952 : Cond.methodLink RX13 123 yX13_wordEnd ∈ eW (zV b e D A X) := z_e zx2952 rfl
theorem zw2954 : Cond.instanceMethod yX13_wordEnd ∈ eW (zV b e D A X) := z_e zx2954 rfl
theorem zw2955 : Cond.code yX13_wordEnd cX13_wordEnd 3 (some .int) ∈ eW (zV b e D A X) := z_e zx2955 rfl
theorem zw2956 : Cond.methodLink RX13 78 yX13_sym ∈ eW (zV b e D A X) := z_e zx2956 rfl
theorem zw2957 : Cond.static yX13_sym ∈ eW (zV b e D A X) := z_e zx2957 rfl
theorem zw2958 : Cond.code yX13_sym cX13_sym 1 (some .int) ∈ eW (zV b e D A X) := z_e zx2958 rfl
theorem zw2959 : Cond.constantLong RX13 5 (2305843009213693952) ∈ eW (zV b e D A X) := z_e zx2959 rfl
theorem zw2960 : Cond.methodLink RX13 126 yX13_isWord ∈ eW (zV b e D A X) := z_e zx2960 rfl
theorem zw2962 : Cond.instanceMethod yX13_isWord ∈ eW (zV b e D A X) := z_e zx2962 rfl
theorem zw2963 : Cond.code yX13_isWord cX13_isWord 4 (some .boolean) ∈ eW (zV b e D A X) := z_e zx2963 rfl
theorem zw2964 : Cond.methodLink RX13 956 yX13_parse ∈ eW (zV b e D A X) := z_e zx2964 rfl
theorem zw2966 : Cond.instanceMethod yX13_parse ∈ eW (zV b e D A X) := z_e zx2966 rfl
theorem zw2967 : Cond.code yX13_parse cX13_parse 1 none ∈ eW (zV b e D A X) := z_e zx2967 rfl
theorem zw2968 : Cond.methodLink RX13 138 yX13_kindAt ∈ eW (zV b e D A X) := z_e zx2968 rfl
theorem zw2970 : Cond.instanceMethod yX13_kindAt ∈ eW (zV b e D A X) := z_e zx2970 rfl
theorem zw2971 : Cond.code yX13_kindAt cX13_kindAt 2 (some .int) ∈ eW (zV b e D A X) := z_e zx2971 rfl
theorem zw2972 : Cond.methodLink RX13 233 yX13_klass ∈ eW (zV b e D A X) := z_e zx2972 rfl
theorem zw2974 : Cond.instanceMethod yX13_klass ∈ eW (zV b e D A X) := z_e zx2974 rfl
theorem zw2975 : Cond.code yX13_klass cX13_klass 5 none ∈ eW (zV b e D A X) := z_e zx2975 rfl
theorem zw2977 : Cond.methodLink RX13 238 yX13_takesWord ∈ eW (zV b e D A X) := z_e zx2977 rfl
theorem zw2979 : Cond.instanceMethod yX13_takesWord ∈ eW (zV b e D A X) := z_e zx2979 rfl
theorem zw2980 : Cond.code yX13_takesWord cX13_takesWord 3 (some .boolean) ∈ eW (zV b e D A X) := z_e zx2980 rfl
theorem zw2981 : Cond.methodLink RX13 166 yX13_isWordAt ∈ eW (zV b e D A X) := z_e zx2981 rfl
theorem zw2983 : Cond.instanceMethod yX13_isWordAt ∈ eW (zV b e D A X) := z_e zx2983 rfl
theorem zw2984 : Cond.code yX13_isWordAt cX13_isWordAt 2 (some .boolean) ∈ eW (zV b e D A X) := z_e zx2984 rfl
theorem zw2985 : Cond.methodLink RX13 141 yX13_nameAt ∈ eW (zV b e D A X) := z_e zx2985 rfl
theorem zw2987 : Cond.instanceMethod yX13_nameAt ∈ eW (zV b e D A X) := z_e zx2987 rfl
theorem zw2988 : Cond.code yX13_nameAt cX13_nameAt 2 (some .long) ∈ eW (zV b e D A X) := z_e zx2988 rfl
theorem zw2989 : Cond.methodLink RX13 145 yX13_nameOf ∈ eW (zV b e D A X) := z_e zx2989 rfl
theorem zw2990 : Cond.static yX13_nameOf ∈ eW (zV b e D A X) := z_e zx2990 rfl
theorem zw2991 : Cond.code yX13_nameOf cX13_nameOf 4 (some .long) ∈ eW (zV b e D A X) := z_e zx2991 rfl
theorem zw2992 : Cond.methodLink RX13 19 yJ0_length_8abf5 ∈ eW (zV b e D A X) := z_e zx2992 rfl
theorem zw2993 : Cond.methodLink RX13 25 yJ0_charAt_5068e ∈ eW (zV b e D A X) := z_e zx2993 rfl
theorem zw2994 : Cond.methodLink RX13 159 yX13_step ∈ eW (zV b e D A X) := z_e zx2994 rfl
theorem zw2996 : Cond.instanceMethod yX13_step ∈ eW (zV b e D A X) := z_e zx2996 rfl
theorem zw2997 : Cond.code yX13_step cX13_step 1 none ∈ eW (zV b e D A X) := z_e zx2997 rfl
theorem zw2998 : Cond.methodLink RX13 149 yX13_placeAt ∈ eW (zV b e D A X) := z_e zx2998 rfl
theorem zw3000 : Cond.instanceMethod yX13_placeAt ∈ eW (zV b e D A X) := z_e zx3000 rfl
theorem zw3001 : Cond.code yX13_placeAt cX13_placeAt 2 (some .int) ∈ eW (zV b e D A X) := z_e zx3001 rfl
theorem zw3002 : Cond.methodLink RX13 152 yX13_fault ∈ eW (zV b e D A X) := z_e zx3002 rfl
theorem zw3004 : Cond.instanceMethod yX13_fault ∈ eW (zV b e D A X) := z_e zx3004 rfl
theorem zw3005 : Cond.code yX13_fault cX13_fault 3 none ∈ eW (zV b e D A X) := z_e zx3005 rfl
theorem zw3010 : Cond.methodLink RX13 249 yX13_wantWord ∈ eW (zV b e D A X) := z_e zx3010 rfl
theorem zw3012 : Cond.instanceMethod yX13_wantWord ∈ eW (zV b e D A X) := z_e zx3012 rfl
theorem zw3013 : Cond.code yX13_wantWord cX13_wantWord 2 none ∈ eW (zV b e D A X) := z_e zx3013 rfl
theorem zw3014 : Cond.methodLink RX13 163 yX13_wrong ∈ eW (zV b e D A X) := z_e zx3014 rfl
theorem zw3016 : Cond.instanceMethod yX13_wrong ∈ eW (zV b e D A X) := z_e zx3016 rfl
theorem zw3017 : Cond.code yX13_wrong cX13_wrong 1 none ∈ eW (zV b e D A X) := z_e zx3017 rfl
theorem zw3018 : Cond.methodLink RX13 252 yX13_want ∈ eW (zV b e D A X) := z_e zx3018 rfl
theorem zw3020 : Cond.instanceMethod yX13_want ∈ eW (zV b e D A X) := z_e zx3020 rfl
theorem zw3021 : Cond.code yX13_want cX13_want 4 (some .int) ∈ eW (zV b e D A X) := z_e zx3021 rfl
theorem zw3024 : Cond.methodLink RX13 294 yX13_list ∈ eW (zV b e D A X) := z_e zx3024 rfl
theorem zw3026 : Cond.instanceMethod yX13_list ∈ eW (zV b e D A X) := z_e zx3026 rfl
theorem zw3027 : Cond.code yX13_list cX13_list 8 (some .int) ∈ eW (zV b e D A X) := z_e zx3027 rfl
theorem zw3028 : Cond.methodLink RX13 156 yX13_isSign ∈ eW (zV b e D A X) := z_e zx3028 rfl
theorem zw3030 : Cond.instanceMethod yX13_isSign ∈ eW (zV b e D A X) := z_e zx3030 rfl
theorem zw3031 : Cond.code yX13_isSign cX13_isSign 2 (some .boolean) ∈ eW (zV b e D A X) := z_e zx3031 rfl
theorem zw3035 : Cond.methodLink RX13 325 yX13_wantSign ∈ eW (zV b e D A X) := z_e zx3035 rfl
theorem zw3037 : Cond.instanceMethod yX13_wantSign ∈ eW (zV b e D A X) := z_e zx3037 rfl
theorem zw3038 : Cond.code yX13_wantSign cX13_wantSign 2 none ∈ eW (zV b e D A X) := z_e zx3038 rfl
theorem zw3039 : Cond.methodLink RX13 328 yX13_member ∈ eW (zV b e D A X) := z_e zx3039 rfl
theorem zw3041 : Cond.instanceMethod yX13_member ∈ eW (zV b e D A X) := z_e zx3041 rfl
theorem zw3042 : Cond.code yX13_member cX13_member 3 none ∈ eW (zV b e D A X) := z_e zx3042 rfl
theorem zw3043 : Cond.methodLink RX13 392 yX13_beginsMember ∈ eW (zV b e D A X) := z_e zx3043 rfl
theorem zw3045 : Cond.instanceMethod yX13_beginsMember ∈ eW (zV b e D A X) := z_e zx3045 rfl
theorem zw3046 : Cond.code yX13_beginsMember cX13_beginsMember 1 (some .boolean) ∈ eW (zV b e D A X) := z_e zx3046 rfl
theorem zw3054 : Cond.methodLink RX13 396 yX13_newMember ∈ eW (zV b e D A X) := z_e zx3054 rfl
theorem zw3056 : Cond.instanceMethod yX13_newMember ∈ eW (zV b e D A X) := z_e zx3056 rfl
theorem zw3057 : Cond.code yX13_newMember cX13_newMember 2 none ∈ eW (zV b e D A X) := z_e zx3057 rfl
theorem zw3058 : Cond.methodLink RX13 408 yX13_params ∈ eW (zV b e D A X) := z_e zx3058 rfl
theorem zw3060 : Cond.instanceMethod yX13_params ∈ eW (zV b e D A X) := z_e zx3060 rfl
theorem zw3061 : Cond.code yX13_params cX13_params 6 none ∈ eW (zV b e D A X) := z_e zx3061 rfl
theorem zw3062 : Cond.methodLink RX13 423 yX13_typeToken ∈ eW (zV b e D A X) := z_e zx3062 rfl
theorem zw3064 : Cond.instanceMethod yX13_typeToken ∈ eW (zV b e D A X) := z_e zx3064 rfl
theorem zw3065 : Cond.code yX13_typeToken cX13_typeToken 2 (some .long) ∈ eW (zV b e D A X) := z_e zx3065 rfl
theorem zw3066 : Cond.constantLong RX13 43 (2) ∈ eW (zV b e D A X) := z_e zx3066 rfl
theorem zw3067 : Cond.methodLink RX13 411 yX13_body ∈ eW (zV b e D A X) := z_e zx3067 rfl
theorem zw3069 : Cond.instanceMethod yX13_body ∈ eW (zV b e D A X) := z_e zx3069 rfl
theorem zw3070 : Cond.code yX13_body cX13_body 2 none ∈ eW (zV b e D A X) := z_e zx3070 rfl
theorem zw3071 : Cond.methodLink RX13 430 yX13_statement ∈ eW (zV b e D A X) := z_e zx3071 rfl
theorem zw3073 : Cond.instanceMethod yX13_statement ∈ eW (zV b e D A X) := z_e zx3073 rfl
theorem zw3074 : Cond.code yX13_statement cX13_statement 2 (some .int) ∈ eW (zV b e D A X) := z_e zx3074 rfl
theorem zw3075 : Cond.methodLink RX13 474 yX13_beginsS ∈ eW (zV b e D A X) := z_e zx3075 rfl
theorem zw3077 : Cond.instanceMethod yX13_beginsS ∈ eW (zV b e D A X) := z_e zx3077 rfl
theorem zw3078 : Cond.code yX13_beginsS cX13_beginsS 1 (some .boolean) ∈ eW (zV b e D A X) := z_e zx3078 rfl
theorem zw3079 : Cond.methodLink RX13 457 yX13_beginsE ∈ eW (zV b e D A X) := z_e zx3079 rfl
theorem zw3081 : Cond.instanceMethod yX13_beginsE ∈ eW (zV b e D A X) := z_e zx3081 rfl
theorem zw3082 : Cond.code yX13_beginsE cX13_beginsE 1 (some .boolean) ∈ eW (zV b e D A X) := z_e zx3082 rfl
theorem zw3093 : Cond.methodLink RX13 477 yX13_statementWithin ∈ eW (zV b e D A X) := z_e zx3093 rfl
theorem zw3095 : Cond.instanceMethod yX13_statementWithin ∈ eW (zV b e D A X) := z_e zx3095 rfl
theorem zw3096 : Cond.code yX13_statementWithin cX13_statementWithin 4 (some .int) ∈ eW (zV b e D A X) := z_e zx3096 rfl
theorem zw3097 : Cond.methodLink RX13 480 yX13_block ∈ eW (zV b e D A X) := z_e zx3097 rfl
theorem zw3099 : Cond.instanceMethod yX13_block ∈ eW (zV b e D A X) := z_e zx3099 rfl
theorem zw3100 : Cond.code yX13_block cX13_block 5 (some .int) ∈ eW (zV b e D A X) := z_e zx3100 rfl
theorem zw3101 : Cond.methodLink RX13 483 yX13_node ∈ eW (zV b e D A X) := z_e zx3101 rfl
theorem zw3103 : Cond.instanceMethod yX13_node ∈ eW (zV b e D A X) := z_e zx3103 rfl
theorem zw3104 : Cond.code yX13_node cX13_node 4 (some .int) ∈ eW (zV b e D A X) := z_e zx3104 rfl
theorem zw3105 : Cond.methodLink RX13 427 yX13_expression ∈ eW (zV b e D A X) := z_e zx3105 rfl
theorem zw3107 : Cond.instanceMethod yX13_expression ∈ eW (zV b e D A X) := z_e zx3107 rfl
theorem zw3108 : Cond.code yX13_expression cX13_expression 3 (some .int) ∈ eW (zV b e D A X) := z_e zx3108 rfl
theorem zw3109 : Cond.methodLink RX13 502 yX13_sum ∈ eW (zV b e D A X) := z_e zx3109 rfl
theorem zw3111 : Cond.instanceMethod yX13_sum ∈ eW (zV b e D A X) := z_e zx3111 rfl
theorem zw3112 : Cond.code yX13_sum cX13_sum 3 (some .int) ∈ eW (zV b e D A X) := z_e zx3112 rfl
theorem zw3113 : Cond.methodLink RX13 505 yX13_product ∈ eW (zV b e D A X) := z_e zx3113 rfl
theorem zw3115 : Cond.instanceMethod yX13_product ∈ eW (zV b e D A X) := z_e zx3115 rfl
theorem zw3116 : Cond.code yX13_product cX13_product 3 (some .int) ∈ eW (zV b e D A X) := z_e zx3116 rfl
theorem zw3117 : Cond.methodLink RX13 508 yX13_unit ∈ eW (zV b e D A X) := z_e zx3117 rfl
theorem zw3119 : Cond.instanceMethod yX13_unit ∈ eW (zV b e D A X) := z_e zx3119 rfl
theorem zw3120 : Cond.code yX13_unit cX13_unit 6 (some .int) ∈ eW (zV b e D A X) := z_e zx3120 rfl
theorem zw3121 : Cond.methodLink RX13 511 yX13_first ∈ eW (zV b e D A X) := z_e zx3121 rfl
theorem zw3123 : Cond.instanceMethod yX13_first ∈ eW (zV b e D A X) := z_e zx3123 rfl
theorem zw3124 : Cond.code yX13_first cX13_first 7 (some .int) ∈ eW (zV b e D A X) := z_e zx3124 rfl
theorem zw3125 : Cond.methodLink RX13 494 yX13_arguments ∈ eW (zV b e D A X) := z_e zx3125 rfl
theorem zw3127 : Cond.instanceMethod yX13_arguments ∈ eW (zV b e D A X) := z_e zx3127 rfl
theorem zw3128 : Cond.code yX13_arguments cX13_arguments 5 (some .int) ∈ eW (zV b e D A X) := z_e zx3128 rfl
theorem zw3129 : Cond.methodLink RX13 516 yX13_ofClass ∈ eW (zV b e D A X) := z_e zx3129 rfl
theorem zw3131 : Cond.instanceMethod yX13_ofClass ∈ eW (zV b e D A X) := z_e zx3131 rfl
theorem zw3132 : Cond.code yX13_ofClass cX13_ofClass 7 (some .int) ∈ eW (zV b e D A X) := z_e zx3132 rfl
theorem zw3133 : Cond.methodLink RX13 519 yX13_inBrackets ∈ eW (zV b e D A X) := z_e zx3133 rfl
theorem zw3135 : Cond.instanceMethod yX13_inBrackets ∈ eW (zV b e D A X) := z_e zx3135 rfl
theorem zw3136 : Cond.code yX13_inBrackets cX13_inBrackets 4 (some .int) ∈ eW (zV b e D A X) := z_e zx3136 rfl
theorem zw3139 : Cond.methodLink RX13 488 yX13_tryOf ∈ eW (zV b e D A X) := z_e zx3139 rfl
theorem zw3141 : Cond.instanceMethod yX13_tryOf ∈ eW (zV b e D A X) := z_e zx3141 rfl
theorem zw3142 : Cond.code yX13_tryOf cX13_tryOf 4 (some .int) ∈ eW (zV b e D A X) := z_e zx3142 rfl
theorem zw3143 : Cond.methodLink RX13 497 yX13_blockOnly ∈ eW (zV b e D A X) := z_e zx3143 rfl
theorem zw3145 : Cond.instanceMethod yX13_blockOnly ∈ eW (zV b e D A X) := z_e zx3145 rfl
theorem zw3146 : Cond.code yX13_blockOnly cX13_blockOnly 1 (some .int) ∈ eW (zV b e D A X) := z_e zx3146 rfl
theorem zw3148 : Cond.methodLink RX13 491 yX13_isSignNext ∈ eW (zV b e D A X) := z_e zx3148 rfl
theorem zw3150 : Cond.instanceMethod yX13_isSignNext ∈ eW (zV b e D A X) := z_e zx3150 rfl
theorem zw3151 : Cond.code yX13_isSignNext cX13_isSignNext 2 (some .boolean) ∈ eW (zV b e D A X) := z_e zx3151 rfl
theorem zw3152 : Cond.methodLink RX13 414 yX13_fieldOrMethod ∈ eW (zV b e D A X) := z_e zx3152 rfl
theorem zw3154 : Cond.instanceMethod yX13_fieldOrMethod ∈ eW (zV b e D A X) := z_e zx3154 rfl
theorem zw3155 : Cond.code yX13_fieldOrMethod cX13_fieldOrMethod 4 none ∈ eW (zV b e D A X) := z_e zx3155 rfl
theorem zw3156 : Cond.methodLink RX13 417 yX13_effects ∈ eW (zV b e D A X) := z_e zx3156 rfl
theorem zw3158 : Cond.instanceMethod yX13_effects ∈ eW (zV b e D A X) := z_e zx3158 rfl
theorem zw3159 : Cond.code yX13_effects cX13_effects 4 none ∈ eW (zV b e D A X) := z_e zx3159 rfl
theorem zw3160 : Cond.methodLink RX13 959 yX13_judgeAll ∈ eW (zV b e D A X) := z_e zx3160 rfl
theorem zw3162 : Cond.instanceMethod yX13_judgeAll ∈ eW (zV b e D A X) := z_e zx3162 rfl
theorem zw3163 : Cond.code yX13_judgeAll cX13_judgeAll 1 none ∈ eW (zV b e D A X) := z_e zx3163 rfl
theorem zw3164 : Cond.methodLink RX13 968 yX13_heads ∈ eW (zV b e D A X) := z_e zx3164 rfl
theorem zw3166 : Cond.instanceMethod yX13_heads ∈ eW (zV b e D A X) := z_e zx3166 rfl
theorem zw3167 : Cond.code yX13_heads cX13_heads 3 none ∈ eW (zV b e D A X) := z_e zx3167 rfl
theorem zw3168 : Cond.methodLink RX13 649 yX13_head ∈ eW (zV b e D A X) := z_e zx3168 rfl
theorem zw3170 : Cond.instanceMethod yX13_head ∈ eW (zV b e D A X) := z_e zx3170 rfl
theorem zw3171 : Cond.code yX13_head cX13_head 4 none ∈ eW (zV b e D A X) := z_e zx3171 rfl
theorem zw3172 : Cond.methodLink RX13 531 yX13_inSlot ∈ eW (zV b e D A X) := z_e zx3172 rfl
theorem zw3174 : Cond.instanceMethod yX13_inSlot ∈ eW (zV b e D A X) := z_e zx3174 rfl
theorem zw3175 : Cond.code yX13_inSlot cX13_inSlot 5 (some .int) ∈ eW (zV b e D A X) := z_e zx3175 rfl
theorem zw3176 : Cond.methodLink RX13 545 yX13_pack ∈ eW (zV b e D A X) := z_e zx3176 rfl
theorem zw3177 : Cond.static yX13_pack ∈ eW (zV b e D A X) := z_e zx3177 rfl
theorem zw3178 : Cond.code yX13_pack cX13_pack 2 (some .int) ∈ eW (zV b e D A X) := z_e zx3178 rfl
theorem zw3179 : Cond.methodLink RX13 541 yX13_packageOf ∈ eW (zV b e D A X) := z_e zx3179 rfl
theorem zw3180 : Cond.static yX13_packageOf ∈ eW (zV b e D A X) := z_e zx3180 rfl
theorem zw3181 : Cond.code yX13_packageOf cX13_packageOf 5 (some .int) ∈ eW (zV b e D A X) := z_e zx3181 rfl
theorem zw3182 : Cond.constantLong RX13 7 (-2305843009213693953) ∈ eW (zV b e D A X) := z_e zx3182 rfl
theorem zw3183 : Cond.constantLong RX13 9 (63) ∈ eW (zV b e D A X) := z_e zx3183 rfl
theorem zw3184 : Cond.methodLink RX13 551 yX13_find ∈ eW (zV b e D A X) := z_e zx3184 rfl
theorem zw3186 : Cond.instanceMethod yX13_find ∈ eW (zV b e D A X) := z_e zx3186 rfl
theorem zw3187 : Cond.code yX13_find cX13_find 6 (some .int) ∈ eW (zV b e D A X) := z_e zx3187 rfl
theorem zw3188 : Cond.constantLong RX13 522 (2305843009220621209) ∈ eW (zV b e D A X) := z_e zx3188 rfl
theorem zw3189 : Cond.constantLong RX13 524 (2305843009220653836) ∈ eW (zV b e D A X) := z_e zx3189 rfl
theorem zw3190 : Cond.methodLink RX13 548 yX13_isFace ∈ eW (zV b e D A X) := z_e zx3190 rfl
theorem zw3192 : Cond.instanceMethod yX13_isFace ∈ eW (zV b e D A X) := z_e zx3192 rfl
theorem zw3193 : Cond.code yX13_isFace cX13_isFace 2 (some .boolean) ∈ eW (zV b e D A X) := z_e zx3193 rfl
theorem zw3194 : Cond.methodLink RX13 655 yX13_letsBelow ∈ eW (zV b e D A X) := z_e zx3194 rfl
theorem zw3196 : Cond.instanceMethod yX13_letsBelow ∈ eW (zV b e D A X) := z_e zx3196 rfl
theorem zw3197 : Cond.code yX13_letsBelow cX13_letsBelow 3 (some .boolean) ∈ eW (zV b e D A X) := z_e zx3197 rfl
theorem zw3198 : Cond.methodLink RX13 652 yX13_isLet ∈ eW (zV b e D A X) := z_e zx3198 rfl
theorem zw3200 : Cond.instanceMethod yX13_isLet ∈ eW (zV b e D A X) := z_e zx3200 rfl
theorem zw3201 : Cond.code yX13_isLet cX13_isLet 3 (some .boolean) ∈ eW (zV b e D A X) := z_e zx3201 rfl
theorem zw3202 : Cond.methodLink RX13 585 yX13_onePackage ∈ eW (zV b e D A X) := z_e zx3202 rfl
theorem zw3204 : Cond.instanceMethod yX13_onePackage ∈ eW (zV b e D A X) := z_e zx3204 rfl
theorem zw3205 : Cond.code yX13_onePackage cX13_onePackage 3 (some .boolean) ∈ eW (zV b e D A X) := z_e zx3205 rfl
theorem zw3206 : Cond.methodLink RX13 595 yX13_stands ∈ eW (zV b e D A X) := z_e zx3206 rfl
theorem zw3207 : Cond.static yX13_stands ∈ eW (zV b e D A X) := z_e zx3207 rfl
theorem zw3208 : Cond.code yX13_stands cX13_stands 7 (some .boolean) ∈ eW (zV b e D A X) := z_e zx3208 rfl
theorem zw3209 : Cond.methodLink RX13 581 yX13_isHeir ∈ eW (zV b e D A X) := z_e zx3209 rfl
theorem zw3211 : Cond.instanceMethod yX13_isHeir ∈ eW (zV b e D A X) := z_e zx3211 rfl
theorem zw3212 : Cond.code yX13_isHeir cX13_isHeir 9 (some .boolean) ∈ eW (zV b e D A X) := z_e zx3212 rfl
theorem zw3213 : Cond.methodLink RX13 573 yX13_newStamp ∈ eW (zV b e D A X) := z_e zx3213 rfl
theorem zw3215 : Cond.instanceMethod yX13_newStamp ∈ eW (zV b e D A X) := z_e zx3215 rfl
theorem zw3216 : Cond.code yX13_newStamp cX13_newStamp 2 none ∈ eW (zV b e D A X) := z_e zx3216 rfl
theorem zw3217 : Cond.constant RX13 566 (2147483647) ∈ eW (zV b e D A X) := z_e zx3217 rfl
theorem zw3218 : Cond.methodLink RX13 558 yX13_parent ∈ eW (zV b e D A X) := z_e zx3218 rfl
theorem zw3220 : Cond.instanceMethod yX13_parent ∈ eW (zV b e D A X) := z_e zx3220 rfl
theorem zw3221 : Cond.code yX13_parent cX13_parent 2 (some .int) ∈ eW (zV b e D A X) := z_e zx3221 rfl
theorem zw3222 : Cond.methodLink RX13 971 yX13_membersOf ∈ eW (zV b e D A X) := z_e zx3222 rfl
theorem zw3224 : Cond.instanceMethod yX13_membersOf ∈ eW (zV b e D A X) := z_e zx3224 rfl
theorem zw3225 : Cond.code yX13_membersOf cX13_membersOf 8 none ∈ eW (zV b e D A X) := z_e zx3225 rfl
theorem zw3226 : Cond.methodLink RX13 658 yX13_isWrongInFace ∈ eW (zV b e D A X) := z_e zx3226 rfl
theorem zw3228 : Cond.instanceMethod yX13_isWrongInFace ∈ eW (zV b e D A X) := z_e zx3228 rfl
theorem zw3229 : Cond.code yX13_isWrongInFace cX13_isWrongInFace 3 (some .boolean) ∈ eW (zV b e D A X) := z_e zx3229 rfl
theorem zw3230 : Cond.methodLink RX13 661 yX13_isWrongInClass ∈ eW (zV b e D A X) := z_e zx3230 rfl
theorem zw3232 : Cond.instanceMethod yX13_isWrongInClass ∈ eW (zV b e D A X) := z_e zx3232 rfl
theorem zw3233 : Cond.code yX13_isWrongInClass cX13_isWrongInClass 4 (some .boolean) ∈ eW (zV b e D A X) := z_e zx3233 rfl
theorem zw3234 : Cond.methodLink RX13 664 yX13_type ∈ eW (zV b e D A X) := z_e zx3234 rfl
theorem zw3236 : Cond.instanceMethod yX13_type ∈ eW (zV b e D A X) := z_e zx3236 rfl
theorem zw3237 : Cond.code yX13_type cX13_type 6 none ∈ eW (zV b e D A X) := z_e zx3237 rfl
theorem zw3238 : Cond.methodLink RX13 37 yX13_isC ∈ eW (zV b e D A X) := z_e zx3238 rfl
theorem zw3239 : Cond.static yX13_isC ∈ eW (zV b e D A X) := z_e zx3239 rfl
theorem zw3240 : Cond.code yX13_isC cX13_isC 2 (some .boolean) ∈ eW (zV b e D A X) := z_e zx3240 rfl
theorem zw3241 : Cond.methodLink RX13 618 yX13_sameParams ∈ eW (zV b e D A X) := z_e zx3241 rfl
theorem zw3243 : Cond.instanceMethod yX13_sameParams ∈ eW (zV b e D A X) := z_e zx3243 rfl
theorem zw3244 : Cond.code yX13_sameParams cX13_sameParams 5 (some .boolean) ∈ eW (zV b e D A X) := z_e zx3244 rfl
theorem zw3245 : Cond.methodLink RX13 974 yX13_againstAbove ∈ eW (zV b e D A X) := z_e zx3245 rfl
theorem zw3247 : Cond.instanceMethod yX13_againstAbove ∈ eW (zV b e D A X) := z_e zx3247 rfl
theorem zw3248 : Cond.code yX13_againstAbove cX13_againstAbove 6 none ∈ eW (zV b e D A X) := z_e zx3248 rfl
theorem zw3249 : Cond.methodLink RX13 684 yX13_findAbove ∈ eW (zV b e D A X) := z_e zx3249 rfl
theorem zw3251 : Cond.instanceMethod yX13_findAbove ∈ eW (zV b e D A X) := z_e zx3251 rfl
theorem zw3252 : Cond.code yX13_findAbove cX13_findAbove 6 none ∈ eW (zV b e D A X) := z_e zx3252 rfl
theorem zw3253 : Cond.methodLink RX13 599 yX13_classOfMember ∈ eW (zV b e D A X) := z_e zx3253 rfl
theorem zw3255 : Cond.instanceMethod yX13_classOfMember ∈ eW (zV b e D A X) := z_e zx3255 rfl
theorem zw3256 : Cond.code yX13_classOfMember cX13_classOfMember 2 (some .int) ∈ eW (zV b e D A X) := z_e zx3256 rfl
theorem zw3257 : Cond.methodLink RX13 677 yX13_parents ∈ eW (zV b e D A X) := z_e zx3257 rfl
theorem zw3259 : Cond.instanceMethod yX13_parents ∈ eW (zV b e D A X) := z_e zx3259 rfl
theorem zw3260 : Cond.code yX13_parents cX13_parents 5 (some .int) ∈ eW (zV b e D A X) := z_e zx3260 rfl
theorem zw3261 : Cond.methodLink RX13 554 yX13_stoodBefore ∈ eW (zV b e D A X) := z_e zx3261 rfl
theorem zw3262 : Cond.static yX13_stoodBefore ∈ eW (zV b e D A X) := z_e zx3262 rfl
theorem zw3263 : Cond.code yX13_stoodBefore cX13_stoodBefore 5 (some .boolean) ∈ eW (zV b e D A X) := z_e zx3263 rfl
theorem zw3264 : Cond.methodLink RX13 680 yX13_aboveIn ∈ eW (zV b e D A X) := z_e zx3264 rfl
theorem zw3266 : Cond.instanceMethod yX13_aboveIn ∈ eW (zV b e D A X) := z_e zx3266 rfl
theorem zw3267 : Cond.code yX13_aboveIn cX13_aboveIn 7 none ∈ eW (zV b e D A X) := z_e zx3267 rfl
theorem zw3268 : Cond.methodLink RX13 633 yX13_allFaces ∈ eW (zV b e D A X) := z_e zx3268 rfl
theorem zw3270 : Cond.instanceMethod yX13_allFaces ∈ eW (zV b e D A X) := z_e zx3270 rfl
theorem zw3271 : Cond.code yX13_allFaces cX13_allFaces 9 (some .int) ∈ eW (zV b e D A X) := z_e zx3271 rfl
theorem zw3272 : Cond.methodLink RX13 687 yX13_isAgainst ∈ eW (zV b e D A X) := z_e zx3272 rfl
theorem zw3274 : Cond.instanceMethod yX13_isAgainst ∈ eW (zV b e D A X) := z_e zx3274 rfl
theorem zw3275 : Cond.code yX13_isAgainst cX13_isAgainst 3 (some .boolean) ∈ eW (zV b e D A X) := z_e zx3275 rfl
theorem zw3276 : Cond.methodLink RX13 690 yX13_fits ∈ eW (zV b e D A X) := z_e zx3276 rfl
theorem zw3278 : Cond.instanceMethod yX13_fits ∈ eW (zV b e D A X) := z_e zx3278 rfl
theorem zw3279 : Cond.code yX13_fits cX13_fits 7 (some .boolean) ∈ eW (zV b e D A X) := z_e zx3279 rfl
theorem zw3280 : Cond.constantLong RX13 579 (3) ∈ eW (zV b e D A X) := z_e zx3280 rfl
theorem zw3281 : Cond.methodLink RX13 977 yX13_makersAndBridges ∈ eW (zV b e D A X) := z_e zx3281 rfl
theorem zw3283 : Cond.instanceMethod yX13_makersAndBridges ∈ eW (zV b e D A X) := z_e zx3283 rfl
theorem zw3284 : Cond.code yX13_makersAndBridges cX13_makersAndBridges 5 none ∈ eW (zV b e D A X) := z_e zx3284 rfl
theorem zw3285 : Cond.methodLink RX13 694 yX13_bridges ∈ eW (zV b e D A X) := z_e zx3285 rfl
theorem zw3287 : Cond.instanceMethod yX13_bridges ∈ eW (zV b e D A X) := z_e zx3287 rfl
theorem zw3288 : Cond.code yX13_bridges cX13_bridges 9 none ∈ eW (zV b e D A X) := z_e zx3288 rfl
theorem zw3289 : Cond.methodLink RX13 624 yX13_isFree ∈ eW (zV b e D A X) := z_e zx3289 rfl
theorem zw3291 : Cond.instanceMethod yX13_isFree ∈ eW (zV b e D A X) := z_e zx3291 rfl
theorem zw3292 : Cond.code yX13_isFree cX13_isFree 2 (some .boolean) ∈ eW (zV b e D A X) := z_e zx3292 rfl
theorem zw3293 : Cond.methodLink RX13 697 yX13_hasBridge ∈ eW (zV b e D A X) := z_e zx3293 rfl
theorem zw3295 : Cond.instanceMethod yX13_hasBridge ∈ eW (zV b e D A X) := z_e zx3295 rfl
theorem zw3296 : Cond.code yX13_hasBridge cX13_hasBridge 6 (some .boolean) ∈ eW (zV b e D A X) := z_e zx3296 rfl
theorem zw3297 : Cond.methodLink RX13 621 yX13_sameSign ∈ eW (zV b e D A X) := z_e zx3297 rfl
theorem zw3299 : Cond.instanceMethod yX13_sameSign ∈ eW (zV b e D A X) := z_e zx3299 rfl
theorem zw3300 : Cond.code yX13_sameSign cX13_sameSign 3 (some .boolean) ∈ eW (zV b e D A X) := z_e zx3300 rfl
theorem zw3301 : Cond.methodLink RX13 701 yX13_bridge ∈ eW (zV b e D A X) := z_e zx3301 rfl
theorem zw3303 : Cond.instanceMethod yX13_bridge ∈ eW (zV b e D A X) := z_e zx3303 rfl
theorem zw3304 : Cond.code yX13_bridge cX13_bridge 7 (some .int) ∈ eW (zV b e D A X) := z_e zx3304 rfl
theorem zw3305 : Cond.methodLink RX13 980 yX13_lacking ∈ eW (zV b e D A X) := z_e zx3305 rfl
theorem zw3307 : Cond.instanceMethod yX13_lacking ∈ eW (zV b e D A X) := z_e zx3307 rfl
theorem zw3308 : Cond.code yX13_lacking cX13_lacking 6 none ∈ eW (zV b e D A X) := z_e zx3308 rfl
theorem zw3309 : Cond.methodLink RX13 708 yX13_lackingOf ∈ eW (zV b e D A X) := z_e zx3309 rfl
theorem zw3311 : Cond.instanceMethod yX13_lackingOf ∈ eW (zV b e D A X) := z_e zx3311 rfl
theorem zw3312 : Cond.code yX13_lackingOf cX13_lackingOf 5 none ∈ eW (zV b e D A X) := z_e zx3312 rfl
theorem zw3313 : Cond.methodLink RX13 711 yX13_selected ∈ eW (zV b e D A X) := z_e zx3313 rfl
theorem zw3315 : Cond.instanceMethod yX13_selected ∈ eW (zV b e D A X) := z_e zx3315 rfl
theorem zw3316 : Cond.code yX13_selected cX13_selected 7 (some .int) ∈ eW (zV b e D A X) := z_e zx3316 rfl
theorem zw3317 : Cond.methodLink RX13 627 yX13_ownMethod ∈ eW (zV b e D A X) := z_e zx3317 rfl
theorem zw3319 : Cond.instanceMethod yX13_ownMethod ∈ eW (zV b e D A X) := z_e zx3319 rfl
theorem zw3320 : Cond.code yX13_ownMethod cX13_ownMethod 5 (some .int) ∈ eW (zV b e D A X) := z_e zx3320 rfl
theorem zw3321 : Cond.methodLink RX13 643 yX13_overrides ∈ eW (zV b e D A X) := z_e zx3321 rfl
theorem zw3323 : Cond.instanceMethod yX13_overrides ∈ eW (zV b e D A X) := z_e zx3323 rfl
theorem zw3324 : Cond.code yX13_overrides cX13_overrides 9 (some .boolean) ∈ eW (zV b e D A X) := z_e zx3324 rfl
theorem zw3325 : Cond.methodLink RX13 646 yX13_mostSpecial ∈ eW (zV b e D A X) := z_e zx3325 rfl
theorem zw3327 : Cond.instanceMethod yX13_mostSpecial ∈ eW (zV b e D A X) := z_e zx3327 rfl
theorem zw3328 : Cond.code yX13_mostSpecial cX13_mostSpecial 9 (some .int) ∈ eW (zV b e D A X) := z_e zx3328 rfl
theorem zw3329 : Cond.methodLink RX13 983 yX13_constants ∈ eW (zV b e D A X) := z_e zx3329 rfl
theorem zw3331 : Cond.instanceMethod yX13_constants ∈ eW (zV b e D A X) := z_e zx3331 rfl
theorem zw3332 : Cond.code yX13_constants cX13_constants 7 none ∈ eW (zV b e D A X) := z_e zx3332 rfl
theorem zw3333 : Cond.methodLink RX13 717 yX13_folded ∈ eW (zV b e D A X) := z_e zx3333 rfl
theorem zw3335 : Cond.instanceMethod yX13_folded ∈ eW (zV b e D A X) := z_e zx3335 rfl
theorem zw3336 : Cond.code yX13_folded cX13_folded 9 (some .long) ∈ eW (zV b e D A X) := z_e zx3336 rfl
theorem zw3337 : Cond.methodLink RX13 723 yX13_isTwo ∈ eW (zV b e D A X) := z_e zx3337 rfl
theorem zw3338 : Cond.static yX13_isTwo ∈ eW (zV b e D A X) := z_e zx3338 rfl
theorem zw3339 : Cond.code yX13_isTwo cX13_isTwo 1 (some .boolean) ∈ eW (zV b e D A X) := z_e zx3339 rfl
theorem zw3340 : Cond.methodLink RX13 729 yX13_knownConstant ∈ eW (zV b e D A X) := z_e zx3340 rfl
theorem zw3342 : Cond.instanceMethod yX13_knownConstant ∈ eW (zV b e D A X) := z_e zx3342 rfl
theorem zw3343 : Cond.code yX13_knownConstant cX13_knownConstant 5 (some .long) ∈ eW (zV b e D A X) := z_e zx3343 rfl
theorem zw3344 : Cond.constantLong RX13 721 (-9223372036854775808) ∈ eW (zV b e D A X) := z_e zx3344 rfl
theorem zw3345 : Cond.methodLink RX13 736 yX13_theField ∈ eW (zV b e D A X) := z_e zx3345 rfl
theorem zw3347 : Cond.instanceMethod yX13_theField ∈ eW (zV b e D A X) := z_e zx3347 rfl
theorem zw3348 : Cond.code yX13_theField cX13_theField 12 (some .int) ∈ eW (zV b e D A X) := z_e zx3348 rfl
theorem zw3349 : Cond.methodLink RX13 614 yX13_ownField ∈ eW (zV b e D A X) := z_e zx3349 rfl
theorem zw3351 : Cond.instanceMethod yX13_ownField ∈ eW (zV b e D A X) := z_e zx3351 rfl
theorem zw3352 : Cond.code yX13_ownField cX13_ownField 8 (some .int) ∈ eW (zV b e D A X) := z_e zx3352 rfl
theorem zw3353 : Cond.methodLink RX13 739 yX13_isLetMember ∈ eW (zV b e D A X) := z_e zx3353 rfl
theorem zw3355 : Cond.instanceMethod yX13_isLetMember ∈ eW (zV b e D A X) := z_e zx3355 rfl
theorem zw3356 : Cond.code yX13_isLetMember cX13_isLetMember 6 (some .boolean) ∈ eW (zV b e D A X) := z_e zx3356 rfl
theorem zw3357 : Cond.methodLink RX13 602 yX13_nestsAreOne ∈ eW (zV b e D A X) := z_e zx3357 rfl
theorem zw3359 : Cond.instanceMethod yX13_nestsAreOne ∈ eW (zV b e D A X) := z_e zx3359 rfl
theorem zw3360 : Cond.code yX13_nestsAreOne cX13_nestsAreOne 4 (some .boolean) ∈ eW (zV b e D A X) := z_e zx3360 rfl
theorem zw3361 : Cond.methodLink RX13 605 yX13_nest ∈ eW (zV b e D A X) := z_e zx3361 rfl
theorem zw3363 : Cond.instanceMethod yX13_nest ∈ eW (zV b e D A X) := z_e zx3363 rfl
theorem zw3364 : Cond.code yX13_nest cX13_nest 3 (some .int) ∈ eW (zV b e D A X) := z_e zx3364 rfl
theorem zw3365 : Cond.methodLink RX13 592 yX13_load ∈ eW (zV b e D A X) := z_e zx3365 rfl
theorem zw3367 : Cond.instanceMethod yX13_load ∈ eW (zV b e D A X) := z_e zx3367 rfl
theorem zw3368 : Cond.code yX13_load cX13_load 4 (some .int) ∈ eW (zV b e D A X) := z_e zx3368 rfl
theorem zw3369 : Cond.methodLink RX13 1098 yX13_stateOf ∈ eW (zV b e D A X) := z_e zx3369 rfl
theorem zw3371 : Cond.instanceMethod yX13_stateOf ∈ eW (zV b e D A X) := z_e zx3371 rfl
theorem zw3372 : Cond.code yX13_stateOf cX13_stateOf 2 (some .int) ∈ eW (zV b e D A X) := z_e zx3372 rfl
theorem zw3373 : Cond.methodLink RX13 1101 yX13_becomes ∈ eW (zV b e D A X) := z_e zx3373 rfl
theorem zw3375 : Cond.instanceMethod yX13_becomes ∈ eW (zV b e D A X) := z_e zx3375 rfl
theorem zw3376 : Cond.code yX13_becomes cX13_becomes 4 none ∈ eW (zV b e D A X) := z_e zx3376 rfl
theorem zw3377 : Cond.methodLink RX13 1095 yX13_event ∈ eW (zV b e D A X) := z_e zx3377 rfl
theorem zw3379 : Cond.instanceMethod yX13_event ∈ eW (zV b e D A X) := z_e zx3379 rfl
theorem zw3380 : Cond.code yX13_event cX13_event 3 none ∈ eW (zV b e D A X) := z_e zx3380 rfl
theorem zw3381 : Cond.methodLink RX13 1104 yX13_loadAbove ∈ eW (zV b e D A X) := z_e zx3381 rfl
theorem zw3383 : Cond.instanceMethod yX13_loadAbove ∈ eW (zV b e D A X) := z_e zx3383 rfl
theorem zw3384 : Cond.code yX13_loadAbove cX13_loadAbove 5 (some .int) ∈ eW (zV b e D A X) := z_e zx3384 rfl
theorem zw3385 : Cond.methodLink RX13 732 yX13_act ∈ eW (zV b e D A X) := z_e zx3385 rfl
theorem zw3386 : Cond.static yX13_act ∈ eW (zV b e D A X) := z_e zx3386 rfl
theorem zw3387 : Cond.code yX13_act cX13_act 3 (some .int) ∈ eW (zV b e D A X) := z_e zx3387 rfl
theorem zw3388 : Cond.methodLink RX13 986 yX13_bodies ∈ eW (zV b e D A X) := z_e zx3388 rfl
theorem zw3390 : Cond.instanceMethod yX13_bodies ∈ eW (zV b e D A X) := z_e zx3390 rfl
theorem zw3391 : Cond.code yX13_bodies cX13_bodies 4 none ∈ eW (zV b e D A X) := z_e zx3391 rfl
theorem zw3392 : Cond.methodLink RX13 742 yX13_bodyOf ∈ eW (zV b e D A X) := z_e zx3392 rfl
theorem zw3394 : Cond.instanceMethod yX13_bodyOf ∈ eW (zV b e D A X) := z_e zx3394 rfl
theorem zw3395 : Cond.code yX13_bodyOf cX13_bodyOf 4 none ∈ eW (zV b e D A X) := z_e zx3395 rfl
theorem zw3396 : Cond.methodLink RX13 757 yX13_judge ∈ eW (zV b e D A X) := z_e zx3396 rfl
theorem zw3398 : Cond.instanceMethod yX13_judge ∈ eW (zV b e D A X) := z_e zx3398 rfl
theorem zw3399 : Cond.code yX13_judge cX13_judge 5 (some .long) ∈ eW (zV b e D A X) := z_e zx3399 rfl
theorem zw3400 : Cond.methodLink RX13 786 yX13_leaf ∈ eW (zV b e D A X) := z_e zx3400 rfl
theorem zw3402 : Cond.instanceMethod yX13_leaf ∈ eW (zV b e D A X) := z_e zx3402 rfl
theorem zw3403 : Cond.code yX13_leaf cX13_leaf 2 (some .long) ∈ eW (zV b e D A X) := z_e zx3403 rfl
theorem zw3404 : Cond.methodLink RX13 812 yX13_nameAlone ∈ eW (zV b e D A X) := z_e zx3404 rfl
theorem zw3406 : Cond.instanceMethod yX13_nameAlone ∈ eW (zV b e D A X) := z_e zx3406 rfl
theorem zw3407 : Cond.code yX13_nameAlone cX13_nameAlone 3 (some .long) ∈ eW (zV b e D A X) := z_e zx3407 rfl
theorem zw3408 : Cond.methodLink RX13 809 yX13_field ∈ eW (zV b e D A X) := z_e zx3408 rfl
theorem zw3410 : Cond.instanceMethod yX13_field ∈ eW (zV b e D A X) := z_e zx3410 rfl
theorem zw3411 : Cond.code yX13_field cX13_field 8 (some .long) ∈ eW (zV b e D A X) := z_e zx3411 rfl
theorem zw3412 : Cond.methodLink RX13 796 yX13_args ∈ eW (zV b e D A X) := z_e zx3412 rfl
theorem zw3414 : Cond.instanceMethod yX13_args ∈ eW (zV b e D A X) := z_e zx3414 rfl
theorem zw3415 : Cond.code yX13_args cX13_args 3 none ∈ eW (zV b e D A X) := z_e zx3415 rfl
theorem zw3416 : Cond.methodLink RX13 799 yX13_call ∈ eW (zV b e D A X) := z_e zx3416 rfl
theorem zw3418 : Cond.instanceMethod yX13_call ∈ eW (zV b e D A X) := z_e zx3418 rfl
theorem zw3419 : Cond.code yX13_call cX13_call 7 (some .long) ∈ eW (zV b e D A X) := z_e zx3419 rfl
theorem zw3420 : Cond.methodLink RX13 828 yX13_meant ∈ eW (zV b e D A X) := z_e zx3420 rfl
theorem zw3422 : Cond.instanceMethod yX13_meant ∈ eW (zV b e D A X) := z_e zx3422 rfl
theorem zw3423 : Cond.code yX13_meant cX13_meant 8 (some .int) ∈ eW (zV b e D A X) := z_e zx3423 rfl
theorem zw3424 : Cond.methodLink RX13 847 yX13_candidatesIn ∈ eW (zV b e D A X) := z_e zx3424 rfl
theorem zw3426 : Cond.instanceMethod yX13_candidatesIn ∈ eW (zV b e D A X) := z_e zx3426 rfl
theorem zw3427 : Cond.code yX13_candidatesIn cX13_candidatesIn 11 none ∈ eW (zV b e D A X) := z_e zx3427 rfl
theorem zw3428 : Cond.methodLink RX13 835 yX13_takesArgs ∈ eW (zV b e D A X) := z_e zx3428 rfl
theorem zw3430 : Cond.instanceMethod yX13_takesArgs ∈ eW (zV b e D A X) := z_e zx3430 rfl
theorem zw3431 : Cond.code yX13_takesArgs cX13_takesArgs 6 (some .boolean) ∈ eW (zV b e D A X) := z_e zx3431 rfl
theorem zw3432 : Cond.methodLink RX13 851 yX13_best ∈ eW (zV b e D A X) := z_e zx3432 rfl
theorem zw3434 : Cond.instanceMethod yX13_best ∈ eW (zV b e D A X) := z_e zx3434 rfl
theorem zw3435 : Cond.code yX13_best cX13_best 5 (some .int) ∈ eW (zV b e D A X) := z_e zx3435 rfl
theorem zw3436 : Cond.methodLink RX13 832 yX13_means ∈ eW (zV b e D A X) := z_e zx3436 rfl
theorem zw3438 : Cond.instanceMethod yX13_means ∈ eW (zV b e D A X) := z_e zx3438 rfl
theorem zw3439 : Cond.code yX13_means cX13_means 5 (some .long) ∈ eW (zV b e D A X) := z_e zx3439 rfl
theorem zw3440 : Cond.methodLink RX13 822 yX13_keepParams ∈ eW (zV b e D A X) := z_e zx3440 rfl
theorem zw3442 : Cond.instanceMethod yX13_keepParams ∈ eW (zV b e D A X) := z_e zx3442 rfl
theorem zw3443 : Cond.code yX13_keepParams cX13_keepParams 4 none ∈ eW (zV b e D A X) := z_e zx3443 rfl
theorem zw3444 : Cond.methodLink RX13 815 yX13_leafOfMore ∈ eW (zV b e D A X) := z_e zx3444 rfl
theorem zw3446 : Cond.instanceMethod yX13_leafOfMore ∈ eW (zV b e D A X) := z_e zx3446 rfl
theorem zw3447 : Cond.code yX13_leafOfMore cX13_leafOfMore 5 (some .long) ∈ eW (zV b e D A X) := z_e zx3447 rfl
theorem zw3448 : Cond.methodLink RX13 818 yX13_superCall ∈ eW (zV b e D A X) := z_e zx3448 rfl
theorem zw3450 : Cond.instanceMethod yX13_superCall ∈ eW (zV b e D A X) := z_e zx3450 rfl
theorem zw3451 : Cond.code yX13_superCall cX13_superCall 5 (some .long) ∈ eW (zV b e D A X) := z_e zx3451 rfl
theorem zw3452 : Cond.methodLink RX13 771 yX13_meantMaker ∈ eW (zV b e D A X) := z_e zx3452 rfl
theorem zw3454 : Cond.instanceMethod yX13_meantMaker ∈ eW (zV b e D A X) := z_e zx3454 rfl
theorem zw3455 : Cond.code yX13_meantMaker cX13_meantMaker 3 (some .int) ∈ eW (zV b e D A X) := z_e zx3455 rfl
theorem zw3456 : Cond.methodLink RX13 803 yX13_isObject ∈ eW (zV b e D A X) := z_e zx3456 rfl
theorem zw3457 : Cond.static yX13_isObject ∈ eW (zV b e D A X) := z_e zx3457 rfl
theorem zw3458 : Cond.code yX13_isObject cX13_isObject 2 (some .boolean) ∈ eW (zV b e D A X) := z_e zx3458 rfl
theorem zw3459 : Cond.methodLink RX13 789 yX13_overLeft ∈ eW (zV b e D A X) := z_e zx3459 rfl
theorem zw3461 : Cond.instanceMethod yX13_overLeft ∈ eW (zV b e D A X) := z_e zx3461 rfl
theorem zw3462 : Cond.code yX13_overLeft cX13_overLeft 5 (some .long) ∈ eW (zV b e D A X) := z_e zx3462 rfl
theorem zw3463 : Cond.methodLink RX13 793 yX13_dot ∈ eW (zV b e D A X) := z_e zx3463 rfl
theorem zw3465 : Cond.instanceMethod yX13_dot ∈ eW (zV b e D A X) := z_e zx3465 rfl
theorem zw3466 : Cond.code yX13_dot cX13_dot 5 (some .long) ∈ eW (zV b e D A X) := z_e zx3466 rfl
theorem zw3467 : Cond.methodLink RX13 806 yX13_two ∈ eW (zV b e D A X) := z_e zx3467 rfl
theorem zw3469 : Cond.instanceMethod yX13_two ∈ eW (zV b e D A X) := z_e zx3469 rfl
theorem zw3470 : Cond.code yX13_two cX13_two 8 (some .long) ∈ eW (zV b e D A X) := z_e zx3470 rfl
theorem zw3471 : Cond.methodLink RX13 760 yX13_wanted ∈ eW (zV b e D A X) := z_e zx3471 rfl
theorem zw3473 : Cond.instanceMethod yX13_wanted ∈ eW (zV b e D A X) := z_e zx3473 rfl
theorem zw3474 : Cond.code yX13_wanted cX13_wanted 6 none ∈ eW (zV b e D A X) := z_e zx3474 rfl
theorem zw3475 : Cond.methodLink RX13 764 yX13_local ∈ eW (zV b e D A X) := z_e zx3475 rfl
theorem zw3477 : Cond.instanceMethod yX13_local ∈ eW (zV b e D A X) := z_e zx3477 rfl
theorem zw3478 : Cond.code yX13_local cX13_local 7 none ∈ eW (zV b e D A X) := z_e zx3478 rfl
theorem zw3479 : Cond.methodLink RX13 768 yX13_beginsBySuper ∈ eW (zV b e D A X) := z_e zx3479 rfl
theorem zw3481 : Cond.instanceMethod yX13_beginsBySuper ∈ eW (zV b e D A X) := z_e zx3481 rfl
theorem zw3482 : Cond.code yX13_beginsBySuper cX13_beginsBySuper 3 (some .boolean) ∈ eW (zV b e D A X) := z_e zx3482 rfl
theorem zw3483 : Cond.methodLink RX13 774 yX13_judgeS ∈ eW (zV b e D A X) := z_e zx3483 rfl
theorem zw3485 : Cond.instanceMethod yX13_judgeS ∈ eW (zV b e D A X) := z_e zx3485 rfl
theorem zw3486 : Cond.code yX13_judgeS cX13_judgeS 4 none ∈ eW (zV b e D A X) := z_e zx3486 rfl
theorem zw3487 : Cond.methodLink RX13 854 yX13_judgeOther ∈ eW (zV b e D A X) := z_e zx3487 rfl
theorem zw3489 : Cond.instanceMethod yX13_judgeOther ∈ eW (zV b e D A X) := z_e zx3489 rfl
theorem zw3490 : Cond.code yX13_judgeOther cX13_judgeOther 4 none ∈ eW (zV b e D A X) := z_e zx3490 rfl
theorem zw3491 : Cond.methodLink RX13 857 yX13_judgeReturn ∈ eW (zV b e D A X) := z_e zx3491 rfl
theorem zw3493 : Cond.instanceMethod yX13_judgeReturn ∈ eW (zV b e D A X) := z_e zx3493 rfl
theorem zw3494 : Cond.code yX13_judgeReturn cX13_judgeReturn 5 none ∈ eW (zV b e D A X) := z_e zx3494 rfl
theorem zw3495 : Cond.methodLink RX13 860 yX13_judgePut ∈ eW (zV b e D A X) := z_e zx3495 rfl
theorem zw3497 : Cond.instanceMethod yX13_judgePut ∈ eW (zV b e D A X) := z_e zx3497 rfl
theorem zw3498 : Cond.code yX13_judgePut cX13_judgePut 10 none ∈ eW (zV b e D A X) := z_e zx3498 rfl
theorem zw3499 : Cond.methodLink RX13 777 yX13_canEnd ∈ eW (zV b e D A X) := z_e zx3499 rfl
theorem zw3501 : Cond.instanceMethod yX13_canEnd ∈ eW (zV b e D A X) := z_e zx3501 rfl
theorem zw3502 : Cond.code yX13_canEnd cX13_canEnd 3 (some .boolean) ∈ eW (zV b e D A X) := z_e zx3502 rfl
theorem zw3503 : Cond.methodLink RX13 989 yX13_usesOfAll ∈ eW (zV b e D A X) := z_e zx3503 rfl
theorem zw3505 : Cond.instanceMethod yX13_usesOfAll ∈ eW (zV b e D A X) := z_e zx3505 rfl
theorem zw3506 : Cond.code yX13_usesOfAll cX13_usesOfAll 2 none ∈ eW (zV b e D A X) := z_e zx3506 rfl
theorem zw3507 : Cond.methodLink RX13 900 yX13_usesOf ∈ eW (zV b e D A X) := z_e zx3507 rfl
theorem zw3509 : Cond.instanceMethod yX13_usesOf ∈ eW (zV b e D A X) := z_e zx3509 rfl
theorem zw3510 : Cond.code yX13_usesOf cX13_usesOf 4 none ∈ eW (zV b e D A X) := z_e zx3510 rfl
theorem zw3511 : Cond.methodLink RX13 903 yX13_useFor ∈ eW (zV b e D A X) := z_e zx3511 rfl
theorem zw3513 : Cond.instanceMethod yX13_useFor ∈ eW (zV b e D A X) := z_e zx3513 rfl
theorem zw3514 : Cond.code yX13_useFor cX13_useFor 8 (some .int) ∈ eW (zV b e D A X) := z_e zx3514 rfl
theorem zw3515 : Cond.methodLink RX13 893 yX13_nextUse ∈ eW (zV b e D A X) := z_e zx3515 rfl
theorem zw3517 : Cond.instanceMethod yX13_nextUse ∈ eW (zV b e D A X) := z_e zx3517 rfl
theorem zw3518 : Cond.code yX13_nextUse cX13_nextUse 9 (some .int) ∈ eW (zV b e D A X) := z_e zx3518 rfl
theorem zw3519 : Cond.methodLink RX13 897 yX13_keepUse ∈ eW (zV b e D A X) := z_e zx3519 rfl
theorem zw3521 : Cond.instanceMethod yX13_keepUse ∈ eW (zV b e D A X) := z_e zx3521 rfl
theorem zw3522 : Cond.code yX13_keepUse cX13_keepUse 5 (some .int) ∈ eW (zV b e D A X) := z_e zx3522 rfl
theorem zw3523 : Cond.methodLink RX13 906 yX13_bridgeUse ∈ eW (zV b e D A X) := z_e zx3523 rfl
theorem zw3525 : Cond.instanceMethod yX13_bridgeUse ∈ eW (zV b e D A X) := z_e zx3525 rfl
theorem zw3526 : Cond.code yX13_bridgeUse cX13_bridgeUse 6 (some .int) ∈ eW (zV b e D A X) := z_e zx3526 rfl
theorem zw3527 : Cond.methodLink RX13 909 yX13_copies ∈ eW (zV b e D A X) := z_e zx3527 rfl
theorem zw3529 : Cond.instanceMethod yX13_copies ∈ eW (zV b e D A X) := z_e zx3529 rfl
theorem zw3530 : Cond.code yX13_copies cX13_copies 4 none ∈ eW (zV b e D A X) := z_e zx3530 rfl
theorem zw3531 : Cond.methodLink RX13 922 yX13_copyOf ∈ eW (zV b e D A X) := z_e zx3531 rfl
theorem zw3533 : Cond.instanceMethod yX13_copyOf ∈ eW (zV b e D A X) := z_e zx3533 rfl
theorem zw3534 : Cond.code yX13_copyOf cX13_copyOf 3 (some .int) ∈ eW (zV b e D A X) := z_e zx3534 rfl
theorem zw3535 : Cond.methodLink RX13 912 yX13_usesE ∈ eW (zV b e D A X) := z_e zx3535 rfl
theorem zw3537 : Cond.instanceMethod yX13_usesE ∈ eW (zV b e D A X) := z_e zx3537 rfl
theorem zw3538 : Cond.code yX13_usesE cX13_usesE 4 none ∈ eW (zV b e D A X) := z_e zx3538 rfl
theorem zw3539 : Cond.methodLink RX13 925 yX13_usesLeaf ∈ eW (zV b e D A X) := z_e zx3539 rfl
theorem zw3541 : Cond.instanceMethod yX13_usesLeaf ∈ eW (zV b e D A X) := z_e zx3541 rfl
theorem zw3542 : Cond.code yX13_usesLeaf cX13_usesLeaf 2 none ∈ eW (zV b e D A X) := z_e zx3542 rfl
theorem zw3543 : Cond.methodLink RX13 928 yX13_fieldUse ∈ eW (zV b e D A X) := z_e zx3543 rfl
theorem zw3545 : Cond.instanceMethod yX13_fieldUse ∈ eW (zV b e D A X) := z_e zx3545 rfl
theorem zw3546 : Cond.code yX13_fieldUse cX13_fieldUse 3 (some .int) ∈ eW (zV b e D A X) := z_e zx3546 rfl
theorem zw3547 : Cond.methodLink RX13 931 yX13_usesArgs ∈ eW (zV b e D A X) := z_e zx3547 rfl
theorem zw3549 : Cond.instanceMethod yX13_usesArgs ∈ eW (zV b e D A X) := z_e zx3549 rfl
theorem zw3550 : Cond.code yX13_usesArgs cX13_usesArgs 5 none ∈ eW (zV b e D A X) := z_e zx3550 rfl
theorem zw3551 : Cond.methodLink RX13 915 yX13_fit ∈ eW (zV b e D A X) := z_e zx3551 rfl
theorem zw3553 : Cond.instanceMethod yX13_fit ∈ eW (zV b e D A X) := z_e zx3553 rfl
theorem zw3554 : Cond.code yX13_fit cX13_fit 7 none ∈ eW (zV b e D A X) := z_e zx3554 rfl
theorem zw3555 : Cond.methodLink RX13 934 yX13_callUse ∈ eW (zV b e D A X) := z_e zx3555 rfl
theorem zw3557 : Cond.instanceMethod yX13_callUse ∈ eW (zV b e D A X) := z_e zx3557 rfl
theorem zw3558 : Cond.code yX13_callUse cX13_callUse 5 (some .int) ∈ eW (zV b e D A X) := z_e zx3558 rfl
theorem zw3559 : Cond.methodLink RX13 937 yX13_useOf ∈ eW (zV b e D A X) := z_e zx3559 rfl
theorem zw3561 : Cond.instanceMethod yX13_useOf ∈ eW (zV b e D A X) := z_e zx3561 rfl
theorem zw3562 : Cond.code yX13_useOf cX13_useOf 11 (some .int) ∈ eW (zV b e D A X) := z_e zx3562 rfl
theorem zw3563 : Cond.methodLink RX13 919 yX13_usesS ∈ eW (zV b e D A X) := z_e zx3563 rfl
theorem zw3565 : Cond.instanceMethod yX13_usesS ∈ eW (zV b e D A X) := z_e zx3565 rfl
theorem zw3566 : Cond.code yX13_usesS cX13_usesS 3 none ∈ eW (zV b e D A X) := z_e zx3566 rfl
theorem zw3567 : Cond.methodLink RX13 941 yX13_usesPut ∈ eW (zV b e D A X) := z_e zx3567 rfl
theorem zw3569 : Cond.instanceMethod yX13_usesPut ∈ eW (zV b e D A X) := z_e zx3569 rfl
theorem zw3570 : Cond.code yX13_usesPut cX13_usesPut 3 none ∈ eW (zV b e D A X) := z_e zx3570 rfl
theorem zw3574 : Cond.code yX13_place cX13_place 1 (some .int) ∈ eW (zV b e D A X) := z_e zx3574 rfl
theorem zw3578 : Cond.code yX13_builds cX13_builds 2 (some .int) ∈ eW (zV b e D A X) := z_e zx3578 rfl
theorem zw3582 : Cond.code yX13_text cX13_text 5 (some .int) ∈ eW (zV b e D A X) := z_e zx3582 rfl
theorem zw3583 : Cond.methodLink RX13 992 yX13_slotAt ∈ eW (zV b e D A X) := z_e zx3583 rfl
theorem zw3585 : Cond.instanceMethod yX13_slotAt ∈ eW (zV b e D A X) := z_e zx3585 rfl
theorem zw3586 : Cond.code yX13_slotAt cX13_slotAt 3 (some .int) ∈ eW (zV b e D A X) := z_e zx3586 rfl
theorem zw3590 : Cond.code yX13_pick cX13_pick 4 (some .int) ∈ eW (zV b e D A X) := z_e zx3590 rfl
theorem zw3591 : Cond.methodLink RX13 995 yX13_picked ∈ eW (zV b e D A X) := z_e zx3591 rfl
theorem zw3592 : Cond.instanceMethod yX13_picked ∈ eW (zV b e D A X) := z_e zx3592 rfl
theorem zw3593 : Cond.selects RX13 yX13_picked yX13_picked ∈ eW (zV b e D A X) := z_e zx3593 rfl
theorem zw3594 : Cond.code yX13_picked cX13_picked 2 (some .int) ∈ eW (zV b e D A X) := z_e zx3594 rfl
theorem zw3595 : Cond.methodLink RX13 1001 yX13_buildOf ∈ eW (zV b e D A X) := z_e zx3595 rfl
theorem zw3597 : Cond.instanceMethod yX13_buildOf ∈ eW (zV b e D A X) := z_e zx3597 rfl
theorem zw3598 : Cond.code yX13_buildOf cX13_buildOf 3 (some .int) ∈ eW (zV b e D A X) := z_e zx3598 rfl
theorem zw3599 : Cond.methodLink RX13 998 yX13_settle ∈ eW (zV b e D A X) := z_e zx3599 rfl
theorem zw3601 : Cond.instanceMethod yX13_settle ∈ eW (zV b e D A X) := z_e zx3601 rfl
theorem zw3602 : Cond.code yX13_settle cX13_settle 2 none ∈ eW (zV b e D A X) := z_e zx3602 rfl
theorem zw3603 : Cond.methodLink RX13 1192 yX13_numberWorld ∈ eW (zV b e D A X) := z_e zx3603 rfl
theorem zw3605 : Cond.instanceMethod yX13_numberWorld ∈ eW (zV b e D A X) := z_e zx3605 rfl
theorem zw3606 : Cond.code yX13_numberWorld cX13_numberWorld 4 none ∈ eW (zV b e D A X) := z_e zx3606 rfl
theorem zw3607 : Cond.methodLink RX13 1074 yX13_intoWorld ∈ eW (zV b e D A X) := z_e zx3607 rfl
theorem zw3609 : Cond.instanceMethod yX13_intoWorld ∈ eW (zV b e D A X) := z_e zx3609 rfl
theorem zw3610 : Cond.code yX13_intoWorld cX13_intoWorld 2 none ∈ eW (zV b e D A X) := z_e zx3610 rfl
theorem zw3611 : Cond.methodLink RX13 1163 yX13_clearSet ∈ eW (zV b e D A X) := z_e zx3611 rfl
theorem zw3613 : Cond.instanceMethod yX13_clearSet ∈ eW (zV b e D A X) := z_e zx3613 rfl
theorem zw3614 : Cond.code yX13_clearSet cX13_clearSet 3 none ∈ eW (zV b e D A X) := z_e zx3614 rfl
theorem zw3619 : Cond.code yX13_classes cX13_classes 4 (some .int) ∈ eW (zV b e D A X) := z_e zx3619 rfl
theorem zw3623 : Cond.code yX13_members cX13_members 5 (some .int) ∈ eW (zV b e D A X) := z_e zx3623 rfl
theorem zw3624 : Cond.methodLink RX13 1004 yX13_classAt ∈ eW (zV b e D A X) := z_e zx3624 rfl
theorem zw3626 : Cond.instanceMethod yX13_classAt ∈ eW (zV b e D A X) := z_e zx3626 rfl
theorem zw3627 : Cond.code yX13_classAt cX13_classAt 5 (some .int) ∈ eW (zV b e D A X) := z_e zx3627 rfl
theorem zw3628 : Cond.methodLink RX13 1007 yX13_memberMany ∈ eW (zV b e D A X) := z_e zx3628 rfl
theorem zw3630 : Cond.instanceMethod yX13_memberMany ∈ eW (zV b e D A X) := z_e zx3630 rfl
theorem zw3631 : Cond.code yX13_memberMany cX13_memberMany 4 (some .int) ∈ eW (zV b e D A X) := z_e zx3631 rfl
theorem zw3635 : Cond.code yX13_shape cX13_shape 7 (some .int) ∈ eW (zV b e D A X) := z_e zx3635 rfl
theorem zw3636 : Cond.methodLink RX13 1015 yX13_memberAt ∈ eW (zV b e D A X) := z_e zx3636 rfl
theorem zw3638 : Cond.instanceMethod yX13_memberAt ∈ eW (zV b e D A X) := z_e zx3638 rfl
theorem zw3639 : Cond.code yX13_memberAt cX13_memberAt 5 (some .int) ∈ eW (zV b e D A X) := z_e zx3639 rfl
theorem zw3642 : Cond.methodLink RX13 47 yX13_outWord ∈ eW (zV b e D A X) := z_e zx3642 rfl
theorem zw3644 : Cond.instanceMethod yX13_outWord ∈ eW (zV b e D A X) := z_e zx3644 rfl
theorem zw3645 : Cond.code yX13_outWord cX13_outWord 3 none ∈ eW (zV b e D A X) := z_e zx3645 rfl
theorem zw3646 : Cond.methodLink RX13 29 yX13_outByte ∈ eW (zV b e D A X) := z_e zx3646 rfl
theorem zw3648 : Cond.instanceMethod yX13_outByte ∈ eW (zV b e D A X) := z_e zx3648 rfl
theorem zw3649 : Cond.code yX13_outByte cX13_outByte 2 none ∈ eW (zV b e D A X) := z_e zx3649 rfl
theorem zw3654 : Cond.methodLink RX13 53 yX13_outName ∈ eW (zV b e D A X) := z_e zx3654 rfl
theorem zw3656 : Cond.instanceMethod yX13_outName ∈ eW (zV b e D A X) := z_e zx3656 rfl
theorem zw3657 : Cond.code yX13_outName cX13_outName 7 none ∈ eW (zV b e D A X) := z_e zx3657 rfl
theorem zw3658 : Cond.methodLink RX13 33 yX13_letter ∈ eW (zV b e D A X) := z_e zx3658 rfl
theorem zw3659 : Cond.static yX13_letter ∈ eW (zV b e D A X) := z_e zx3659 rfl
theorem zw3660 : Cond.code yX13_letter cX13_letter 1 (some .int) ∈ eW (zV b e D A X) := z_e zx3660 rfl
theorem zw3663 : Cond.methodLink RX13 1034 yX13_outList ∈ eW (zV b e D A X) := z_e zx3663 rfl
theorem zw3665 : Cond.instanceMethod yX13_outList ∈ eW (zV b e D A X) := z_e zx3665 rfl
theorem zw3666 : Cond.code yX13_outList cX13_outList 6 none ∈ eW (zV b e D A X) := z_e zx3666 rfl
theorem zw3677 : Cond.methodLink RX13 1010 yX13_outType ∈ eW (zV b e D A X) := z_e zx3677 rfl
theorem zw3679 : Cond.instanceMethod yX13_outType ∈ eW (zV b e D A X) := z_e zx3679 rfl
theorem zw3680 : Cond.code yX13_outType cX13_outType 3 none ∈ eW (zV b e D A X) := z_e zx3680 rfl
theorem zw3681 : Cond.methodLink RX13 1056 yX13_outParams ∈ eW (zV b e D A X) := z_e zx3681 rfl
theorem zw3683 : Cond.instanceMethod yX13_outParams ∈ eW (zV b e D A X) := z_e zx3683 rfl
theorem zw3684 : Cond.code yX13_outParams cX13_outParams 3 none ∈ eW (zV b e D A X) := z_e zx3684 rfl
theorem zw3685 : Cond.methodLink RX13 1059 yX13_outInt ∈ eW (zV b e D A X) := z_e zx3685 rfl
theorem zw3687 : Cond.instanceMethod yX13_outInt ∈ eW (zV b e D A X) := z_e zx3687 rfl
theorem zw3688 : Cond.code yX13_outInt cX13_outInt 7 none ∈ eW (zV b e D A X) := z_e zx3688 rfl
theorem zw3689 : Cond.constantLong RX13 41 (10) ∈ eW (zV b e D A X) := z_e zx3689 rfl
theorem zw3693 : Cond.code yX13_uses cX13_uses 4 (some .int) ∈ eW (zV b e D A X) := z_e zx3693 rfl
theorem zw3697 : Cond.code yX13_use cX13_use 6 (some .int) ∈ eW (zV b e D A X) := z_e zx3697 rfl
theorem zw3698 : Cond.methodLink RX13 1062 yX13_useAt ∈ eW (zV b e D A X) := z_e zx3698 rfl
theorem zw3700 : Cond.instanceMethod yX13_useAt ∈ eW (zV b e D A X) := z_e zx3700 rfl
theorem zw3701 : Cond.code yX13_useAt cX13_useAt 5 (some .int) ∈ eW (zV b e D A X) := z_e zx3701 rfl
theorem zw3705 : Cond.code yX13_tell cX13_tell 6 (some .int) ∈ eW (zV b e D A X) := z_e zx3705 rfl
theorem zw3706 : Cond.methodLink RX13 1065 yX13_outMember ∈ eW (zV b e D A X) := z_e zx3706 rfl
theorem zw3708 : Cond.instanceMethod yX13_outMember ∈ eW (zV b e D A X) := z_e zx3708 rfl
theorem zw3709 : Cond.code yX13_outMember cX13_outMember 4 none ∈ eW (zV b e D A X) := z_e zx3709 rfl
theorem zw3713 : Cond.code yX13_meet cX13_meet 7 (some .int) ∈ eW (zV b e D A X) := z_e zx3713 rfl
theorem zw3714 : Cond.methodLink RX13 1166 yX13_stands_ ∈ eW (zV b e D A X) := z_e zx3714 rfl
theorem zw3716 : Cond.instanceMethod yX13_stands_ ∈ eW (zV b e D A X) := z_e zx3716 rfl
theorem zw3717 : Cond.code yX13_stands_ cX13_stands_ 3 (some .boolean) ∈ eW (zV b e D A X) := z_e zx3717 rfl
theorem zw3718 : Cond.methodLink RX13 1168 yX13_foretell ∈ eW (zV b e D A X) := z_e zx3718 rfl
theorem zw3720 : Cond.instanceMethod yX13_foretell ∈ eW (zV b e D A X) := z_e zx3720 rfl
theorem zw3721 : Cond.code yX13_foretell cX13_foretell 4 (some .int) ∈ eW (zV b e D A X) := z_e zx3721 rfl
theorem zw3722 : Cond.methodLink RX13 1116 yX13_ask ∈ eW (zV b e D A X) := z_e zx3722 rfl
theorem zw3724 : Cond.instanceMethod yX13_ask ∈ eW (zV b e D A X) := z_e zx3724 rfl
theorem zw3725 : Cond.code yX13_ask cX13_ask 6 (some .int) ∈ eW (zV b e D A X) := z_e zx3725 rfl
theorem zw3726 : Cond.methodLink RX13 1127 yX13_isStale ∈ eW (zV b e D A X) := z_e zx3726 rfl
theorem zw3728 : Cond.instanceMethod yX13_isStale ∈ eW (zV b e D A X) := z_e zx3728 rfl
theorem zw3729 : Cond.code yX13_isStale cX13_isStale 4 (some .boolean) ∈ eW (zV b e D A X) := z_e zx3729 rfl
theorem zw3730 : Cond.methodLink RX13 1130 yX13_askFit ∈ eW (zV b e D A X) := z_e zx3730 rfl
theorem zw3732 : Cond.instanceMethod yX13_askFit ∈ eW (zV b e D A X) := z_e zx3732 rfl
theorem zw3733 : Cond.code yX13_askFit cX13_askFit 5 (some .int) ∈ eW (zV b e D A X) := z_e zx3733 rfl
theorem zw3734 : Cond.methodLink RX13 1133 yX13_askClass ∈ eW (zV b e D A X) := z_e zx3734 rfl
theorem zw3736 : Cond.instanceMethod yX13_askClass ∈ eW (zV b e D A X) := z_e zx3736 rfl
theorem zw3737 : Cond.code yX13_askClass cX13_askClass 8 (some .int) ∈ eW (zV b e D A X) := z_e zx3737 rfl
theorem zw3738 : Cond.methodLink RX13 1136 yX13_askMaker ∈ eW (zV b e D A X) := z_e zx3738 rfl
theorem zw3740 : Cond.instanceMethod yX13_askMaker ∈ eW (zV b e D A X) := z_e zx3740 rfl
theorem zw3741 : Cond.code yX13_askMaker cX13_askMaker 5 (some .int) ∈ eW (zV b e D A X) := z_e zx3741 rfl
theorem zw3742 : Cond.methodLink RX13 1145 yX13_see ∈ eW (zV b e D A X) := z_e zx3742 rfl
theorem zw3744 : Cond.instanceMethod yX13_see ∈ eW (zV b e D A X) := z_e zx3744 rfl
theorem zw3745 : Cond.code yX13_see cX13_see 2 none ∈ eW (zV b e D A X) := z_e zx3745 rfl
theorem zw3746 : Cond.methodLink RX13 1139 yX13_askField ∈ eW (zV b e D A X) := z_e zx3746 rfl
theorem zw3748 : Cond.instanceMethod yX13_askField ∈ eW (zV b e D A X) := z_e zx3748 rfl
theorem zw3749 : Cond.code yX13_askField cX13_askField 7 (some .int) ∈ eW (zV b e D A X) := z_e zx3749 rfl
theorem zw3750 : Cond.methodLink RX13 1142 yX13_askMethod ∈ eW (zV b e D A X) := z_e zx3750 rfl
theorem zw3752 : Cond.instanceMethod yX13_askMethod ∈ eW (zV b e D A X) := z_e zx3752 rfl
theorem zw3753 : Cond.code yX13_askMethod cX13_askMethod 7 (some .int) ∈ eW (zV b e D A X) := z_e zx3753 rfl
theorem zw3754 : Cond.methodLink RX13 1151 yX13_methodOf ∈ eW (zV b e D A X) := z_e zx3754 rfl
theorem zw3756 : Cond.instanceMethod yX13_methodOf ∈ eW (zV b e D A X) := z_e zx3756 rfl
theorem zw3757 : Cond.code yX13_methodOf cX13_methodOf 7 (some .int) ∈ eW (zV b e D A X) := z_e zx3757 rfl
theorem zw3758 : Cond.methodLink RX13 1154 yX13_askSuper ∈ eW (zV b e D A X) := z_e zx3758 rfl
theorem zw3760 : Cond.instanceMethod yX13_askSuper ∈ eW (zV b e D A X) := z_e zx3760 rfl
theorem zw3761 : Cond.code yX13_askSuper cX13_askSuper 5 (some .int) ∈ eW (zV b e D A X) := z_e zx3761 rfl
theorem zw3762 : Cond.methodLink RX13 1160 yX13_askCalled ∈ eW (zV b e D A X) := z_e zx3762 rfl
theorem zw3764 : Cond.instanceMethod yX13_askCalled ∈ eW (zV b e D A X) := z_e zx3764 rfl
theorem zw3765 : Cond.code yX13_askCalled cX13_askCalled 5 (some .int) ∈ eW (zV b e D A X) := z_e zx3765 rfl
theorem zw3766 : Cond.methodLink RX13 1157 yX13_askFaceSuper ∈ eW (zV b e D A X) := z_e zx3766 rfl
theorem zw3768 : Cond.instanceMethod yX13_askFaceSuper ∈ eW (zV b e D A X) := z_e zx3768 rfl
theorem zw3769 : Cond.code yX13_askFaceSuper cX13_askFaceSuper 3 (some .int) ∈ eW (zV b e D A X) := z_e zx3769 rfl
theorem zw3773 : Cond.code yX13_met cX13_met 2 (some .int) ∈ eW (zV b e D A X) := z_e zx3773 rfl
theorem zw3777 : Cond.code yX13_looked cX13_looked 2 (some .int) ∈ eW (zV b e D A X) := z_e zx3777 rfl
theorem zw3781 : Cond.code yX13_broken cX13_broken 6 (some .int) ∈ eW (zV b e D A X) := z_e zx3781 rfl
theorem zw3785 : Cond.code yX13_brokenAt cX13_brokenAt 3 (some .int) ∈ eW (zV b e D A X) := z_e zx3785 rfl
theorem zw3789 : Cond.code yX13_stale cX13_stale 6 (some .int) ∈ eW (zV b e D A X) := z_e zx3789 rfl
theorem zw3793 : Cond.code yX13_choose cX13_choose 4 (some .int) ∈ eW (zV b e D A X) := z_e zx3793 rfl
theorem zw3794 : Cond.methodLink RX13 1195 yX13_isBroken ∈ eW (zV b e D A X) := z_e zx3794 rfl
theorem zw3796 : Cond.instanceMethod yX13_isBroken ∈ eW (zV b e D A X) := z_e zx3796 rfl
theorem zw3797 : Cond.code yX13_isBroken cX13_isBroken 5 (some .boolean) ∈ eW (zV b e D A X) := z_e zx3797 rfl
theorem zw3801 : Cond.code yX13_fresh cX13_fresh 4 (some .int) ∈ eW (zV b e D A X) := z_e zx3801 rfl
theorem zw3805 : Cond.code yX13_touch cX13_touch 5 (some .int) ∈ eW (zV b e D A X) := z_e zx3805 rfl
theorem zw3809 : Cond.code yX13_run cX13_run 3 (some .int) ∈ eW (zV b e D A X) := z_e zx3809 rfl
theorem zw3810 : Cond.methodLink RX13 1370 yX13_named ∈ eW (zV b e D A X) := z_e zx3810 rfl
theorem zw3812 : Cond.instanceMethod yX13_named ∈ eW (zV b e D A X) := z_e zx3812 rfl
theorem zw3813 : Cond.code yX13_named cX13_named 10 (some .int) ∈ eW (zV b e D A X) := z_e zx3813 rfl
theorem zw3814 : Cond.methodLink RX13 1222 yX13_start ∈ eW (zV b e D A X) := z_e zx3814 rfl
theorem zw3816 : Cond.instanceMethod yX13_start ∈ eW (zV b e D A X) := z_e zx3816 rfl
theorem zw3817 : Cond.code yX13_start cX13_start 4 none ∈ eW (zV b e D A X) := z_e zx3817 rfl
theorem zw3818 : Cond.methodLink RX13 1213 yX13_fail ∈ eW (zV b e D A X) := z_e zx3818 rfl
theorem zw3820 : Cond.instanceMethod yX13_fail ∈ eW (zV b e D A X) := z_e zx3820 rfl
theorem zw3821 : Cond.code yX13_fail cX13_fail 2 (some .int) ∈ eW (zV b e D A X) := z_e zx3821 rfl
theorem zw3822 : Cond.methodLink RX13 1110 yX13_link ∈ eW (zV b e D A X) := z_e zx3822 rfl
theorem zw3824 : Cond.instanceMethod yX13_link ∈ eW (zV b e D A X) := z_e zx3824 rfl
theorem zw3825 : Cond.code yX13_link cX13_link 4 (some .int) ∈ eW (zV b e D A X) := z_e zx3825 rfl
theorem zw3826 : Cond.methodLink RX13 1107 yX13_linkWith ∈ eW (zV b e D A X) := z_e zx3826 rfl
theorem zw3828 : Cond.instanceMethod yX13_linkWith ∈ eW (zV b e D A X) := z_e zx3828 rfl
theorem zw3829 : Cond.code yX13_linkWith cX13_linkWith 6 (some .int) ∈ eW (zV b e D A X) := z_e zx3829 rfl
theorem zw3830 : Cond.methodLink RX13 1113 yX13_overridesFinal ∈ eW (zV b e D A X) := z_e zx3830 rfl
theorem zw3832 : Cond.instanceMethod yX13_overridesFinal ∈ eW (zV b e D A X) := z_e zx3832 rfl
theorem zw3833 : Cond.code yX13_overridesFinal cX13_overridesFinal 7 (some .boolean) ∈ eW (zV b e D A X) := z_e zx3833 rfl
theorem zw3834 : Cond.methodLink RX13 1224 yX13_startFaces ∈ eW (zV b e D A X) := z_e zx3834 rfl
theorem zw3836 : Cond.instanceMethod yX13_startFaces ∈ eW (zV b e D A X) := z_e zx3836 rfl
theorem zw3837 : Cond.code yX13_startFaces cX13_startFaces 6 none ∈ eW (zV b e D A X) := z_e zx3837 rfl
theorem zw3838 : Cond.methodLink RX13 1236 yX13_pushFaces ∈ eW (zV b e D A X) := z_e zx3838 rfl
theorem zw3840 : Cond.instanceMethod yX13_pushFaces ∈ eW (zV b e D A X) := z_e zx3840 rfl
theorem zw3841 : Cond.code yX13_pushFaces cX13_pushFaces 3 none ∈ eW (zV b e D A X) := z_e zx3841 rfl
theorem zw3842 : Cond.methodLink RX13 1242 yX13_hasBody ∈ eW (zV b e D A X) := z_e zx3842 rfl
theorem zw3844 : Cond.instanceMethod yX13_hasBody ∈ eW (zV b e D A X) := z_e zx3844 rfl
theorem zw3845 : Cond.code yX13_hasBody cX13_hasBody 4 (some .boolean) ∈ eW (zV b e D A X) := z_e zx3845 rfl
theorem zw3846 : Cond.methodLink RX13 1227 yX13_startSelf ∈ eW (zV b e D A X) := z_e zx3846 rfl
theorem zw3848 : Cond.instanceMethod yX13_startSelf ∈ eW (zV b e D A X) := z_e zx3848 rfl
theorem zw3849 : Cond.code yX13_startSelf cX13_startSelf 6 none ∈ eW (zV b e D A X) := z_e zx3849 rfl
theorem zw3850 : Cond.methodLink RX13 1251 yX13_eval ∈ eW (zV b e D A X) := z_e zx3850 rfl
theorem zw3852 : Cond.instanceMethod yX13_eval ∈ eW (zV b e D A X) := z_e zx3852 rfl
theorem zw3853 : Cond.code yX13_eval cX13_eval 8 (some .int) ∈ eW (zV b e D A X) := z_e zx3853 rfl
theorem zw3854 : Cond.methodLink RX13 1309 yX13_push ∈ eW (zV b e D A X) := z_e zx3854 rfl
theorem zw3856 : Cond.instanceMethod yX13_push ∈ eW (zV b e D A X) := z_e zx3856 rfl
theorem zw3857 : Cond.code yX13_push cX13_push 2 none ∈ eW (zV b e D A X) := z_e zx3857 rfl
theorem zw3858 : Cond.methodLink RX13 1312 yX13_evalNode ∈ eW (zV b e D A X) := z_e zx3858 rfl
theorem zw3860 : Cond.instanceMethod yX13_evalNode ∈ eW (zV b e D A X) := z_e zx3860 rfl
theorem zw3861 : Cond.code yX13_evalNode cX13_evalNode 8 (some .int) ∈ eW (zV b e D A X) := z_e zx3861 rfl
theorem zw3862 : Cond.methodLink RX13 1316 yX13_getStatic ∈ eW (zV b e D A X) := z_e zx3862 rfl
theorem zw3864 : Cond.instanceMethod yX13_getStatic ∈ eW (zV b e D A X) := z_e zx3864 rfl
theorem zw3865 : Cond.code yX13_getStatic cX13_getStatic 3 (some .int) ∈ eW (zV b e D A X) := z_e zx3865 rfl
theorem zw3866 : Cond.methodLink RX13 1288 yX13_asks ∈ eW (zV b e D A X) := z_e zx3866 rfl
theorem zw3868 : Cond.instanceMethod yX13_asks ∈ eW (zV b e D A X) := z_e zx3868 rfl
theorem zw3869 : Cond.code yX13_asks cX13_asks 3 (some .boolean) ∈ eW (zV b e D A X) := z_e zx3869 rfl
theorem zw3870 : Cond.methodLink RX13 1319 yX13_getOf ∈ eW (zV b e D A X) := z_e zx3870 rfl
theorem zw3872 : Cond.instanceMethod yX13_getOf ∈ eW (zV b e D A X) := z_e zx3872 rfl
theorem zw3873 : Cond.code yX13_getOf cX13_getOf 4 (some .int) ∈ eW (zV b e D A X) := z_e zx3873 rfl
theorem zw3874 : Cond.methodLink RX13 1294 yX13_cellOf ∈ eW (zV b e D A X) := z_e zx3874 rfl
theorem zw3876 : Cond.instanceMethod yX13_cellOf ∈ eW (zV b e D A X) := z_e zx3876 rfl
theorem zw3877 : Cond.code yX13_cellOf cX13_cellOf 6 (some .int) ∈ eW (zV b e D A X) := z_e zx3877 rfl
theorem zw3878 : Cond.methodLink RX13 1259 yX13_fieldsOf ∈ eW (zV b e D A X) := z_e zx3878 rfl
theorem zw3880 : Cond.instanceMethod yX13_fieldsOf ∈ eW (zV b e D A X) := z_e zx3880 rfl
theorem zw3881 : Cond.code yX13_fieldsOf cX13_fieldsOf 5 (some .int) ∈ eW (zV b e D A X) := z_e zx3881 rfl
theorem zw3882 : Cond.methodLink RX13 1322 yX13_asked ∈ eW (zV b e D A X) := z_e zx3882 rfl
theorem zw3884 : Cond.instanceMethod yX13_asked ∈ eW (zV b e D A X) := z_e zx3884 rfl
theorem zw3885 : Cond.code yX13_asked cX13_asked 3 (some .int) ∈ eW (zV b e D A X) := z_e zx3885 rfl
theorem zw3886 : Cond.methodLink RX13 1343 yX13_isMade ∈ eW (zV b e D A X) := z_e zx3886 rfl
theorem zw3888 : Cond.instanceMethod yX13_isMade ∈ eW (zV b e D A X) := z_e zx3888 rfl
theorem zw3889 : Cond.code yX13_isMade cX13_isMade 3 (some .boolean) ∈ eW (zV b e D A X) := z_e zx3889 rfl
theorem zw3890 : Cond.methodLink RX13 1325 yX13_cast ∈ eW (zV b e D A X) := z_e zx3890 rfl
theorem zw3892 : Cond.instanceMethod yX13_cast ∈ eW (zV b e D A X) := z_e zx3892 rfl
theorem zw3893 : Cond.code yX13_cast cX13_cast 3 (some .int) ∈ eW (zV b e D A X) := z_e zx3893 rfl
theorem zw3894 : Cond.methodLink RX13 1331 yX13_beginArgs ∈ eW (zV b e D A X) := z_e zx3894 rfl
theorem zw3896 : Cond.instanceMethod yX13_beginArgs ∈ eW (zV b e D A X) := z_e zx3896 rfl
theorem zw3897 : Cond.code yX13_beginArgs cX13_beginArgs 3 none ∈ eW (zV b e D A X) := z_e zx3897 rfl
theorem zw3898 : Cond.methodLink RX13 1334 yX13_evalCall ∈ eW (zV b e D A X) := z_e zx3898 rfl
theorem zw3900 : Cond.instanceMethod yX13_evalCall ∈ eW (zV b e D A X) := z_e zx3900 rfl
theorem zw3901 : Cond.code yX13_evalCall cX13_evalCall 7 (some .int) ∈ eW (zV b e D A X) := z_e zx3901 rfl
theorem zw3902 : Cond.methodLink RX13 1291 yX13_invoke ∈ eW (zV b e D A X) := z_e zx3902 rfl
theorem zw3904 : Cond.instanceMethod yX13_invoke ∈ eW (zV b e D A X) := z_e zx3904 rfl
theorem zw3905 : Cond.code yX13_invoke cX13_invoke 7 (some .int) ∈ eW (zV b e D A X) := z_e zx3905 rfl
theorem zw3906 : Cond.methodLink RX13 1271 yX13_steps ∈ eW (zV b e D A X) := z_e zx3906 rfl
theorem zw3908 : Cond.instanceMethod yX13_steps ∈ eW (zV b e D A X) := z_e zx3908 rfl
theorem zw3909 : Cond.code yX13_steps cX13_steps 1 (some .boolean) ∈ eW (zV b e D A X) := z_e zx3909 rfl
theorem zw3910 : Cond.methodLink RX13 1273 yX13_alongBridge ∈ eW (zV b e D A X) := z_e zx3910 rfl
theorem zw3912 : Cond.instanceMethod yX13_alongBridge ∈ eW (zV b e D A X) := z_e zx3912 rfl
theorem zw3913 : Cond.code yX13_alongBridge cX13_alongBridge 6 (some .int) ∈ eW (zV b e D A X) := z_e zx3913 rfl
theorem zw3914 : Cond.methodLink RX13 1285 yX13_callBy ∈ eW (zV b e D A X) := z_e zx3914 rfl
theorem zw3916 : Cond.instanceMethod yX13_callBy ∈ eW (zV b e D A X) := z_e zx3916 rfl
theorem zw3917 : Cond.code yX13_callBy cX13_callBy 9 (some .int) ∈ eW (zV b e D A X) := z_e zx3917 rfl
theorem zw3918 : Cond.methodLink RX13 1276 yX13_runMaker ∈ eW (zV b e D A X) := z_e zx3918 rfl
theorem zw3920 : Cond.instanceMethod yX13_runMaker ∈ eW (zV b e D A X) := z_e zx3920 rfl
theorem zw3921 : Cond.code yX13_runMaker cX13_runMaker 9 none ∈ eW (zV b e D A X) := z_e zx3921 rfl
theorem zw3922 : Cond.methodLink RX13 1255 yX13_exec ∈ eW (zV b e D A X) := z_e zx3922 rfl
theorem zw3924 : Cond.instanceMethod yX13_exec ∈ eW (zV b e D A X) := z_e zx3924 rfl
theorem zw3925 : Cond.code yX13_exec cX13_exec 7 none ∈ eW (zV b e D A X) := z_e zx3925 rfl
theorem zw3926 : Cond.methodLink RX13 1352 yX13_caught ∈ eW (zV b e D A X) := z_e zx3926 rfl
theorem zw3928 : Cond.instanceMethod yX13_caught ∈ eW (zV b e D A X) := z_e zx3928 rfl
theorem zw3929 : Cond.code yX13_caught cX13_caught 6 none ∈ eW (zV b e D A X) := z_e zx3929 rfl
theorem zw3930 : Cond.methodLink RX13 1355 yX13_execOther ∈ eW (zV b e D A X) := z_e zx3930 rfl
theorem zw3932 : Cond.instanceMethod yX13_execOther ∈ eW (zV b e D A X) := z_e zx3932 rfl
theorem zw3933 : Cond.code yX13_execOther cX13_execOther 6 none ∈ eW (zV b e D A X) := z_e zx3933 rfl
theorem zw3934 : Cond.methodLink RX13 1364 yX13_evalArgs ∈ eW (zV b e D A X) := z_e zx3934 rfl
theorem zw3936 : Cond.instanceMethod yX13_evalArgs ∈ eW (zV b e D A X) := z_e zx3936 rfl
theorem zw3937 : Cond.code yX13_evalArgs cX13_evalArgs 8 (some .int) ∈ eW (zV b e D A X) := z_e zx3937 rfl
theorem zw3938 : Cond.methodLink RX13 1367 yX13_execPut ∈ eW (zV b e D A X) := z_e zx3938 rfl
theorem zw3940 : Cond.instanceMethod yX13_execPut ∈ eW (zV b e D A X) := z_e zx3940 rfl
theorem zw3941 : Cond.code yX13_execPut cX13_execPut 10 none ∈ eW (zV b e D A X) := z_e zx3941 rfl
theorem zw3942 : Cond.methodLink RX13 1337 yX13_evalNew ∈ eW (zV b e D A X) := z_e zx3942 rfl
theorem zw3944 : Cond.instanceMethod yX13_evalNew ∈ eW (zV b e D A X) := z_e zx3944 rfl
theorem zw3945 : Cond.code yX13_evalNew cX13_evalNew 5 (some .int) ∈ eW (zV b e D A X) := z_e zx3945 rfl
theorem zw3946 : Cond.methodLink RX13 1346 yX13_newObject ∈ eW (zV b e D A X) := z_e zx3946 rfl
theorem zw3948 : Cond.instanceMethod yX13_newObject ∈ eW (zV b e D A X) := z_e zx3948 rfl
theorem zw3949 : Cond.code yX13_newObject cX13_newObject 4 (some .int) ∈ eW (zV b e D A X) := z_e zx3949 rfl
theorem zw3950 : Cond.methodLink RX13 1340 yX13_evalTwo ∈ eW (zV b e D A X) := z_e zx3950 rfl
theorem zw3952 : Cond.instanceMethod yX13_evalTwo ∈ eW (zV b e D A X) := z_e zx3952 rfl
theorem zw3953 : Cond.code yX13_evalTwo cX13_evalTwo 4 (some .int) ∈ eW (zV b e D A X) := z_e zx3953 rfl
theorem zw3957 : Cond.code yX13_value cX13_value 1 (some .int) ∈ eW (zV b e D A X) := z_e zx3957 rfl
theorem zw3961 : Cond.code yX13_told cX13_told 2 (some .int) ∈ eW (zV b e D A X) := z_e zx3961 rfl
theorem zw3965 : Cond.code yX13_number cX13_number 2 (some .int) ∈ eW (zV b e D A X) := z_e zx3965 rfl
theorem zw3969 : Cond.code yX13_event_ cX13_event_ 2 (some .int) ∈ eW (zV b e D A X) := z_e zx3969 rfl
theorem zw3973 : Cond.code yX13_name cX13_name 2 (some .int) ∈ eW (zV b e D A X) := z_e zx3973 rfl
theorem zw3977 : Cond.code yX13_state cX13_state 2 (some .int) ∈ eW (zV b e D A X) := z_e zx3977 rfl
theorem zw3981 : Cond.code yX13_classOf cX13_classOf 2 (some .int) ∈ eW (zV b e D A X) := z_e zx3981 rfl
theorem zw3985 : Cond.code yX13_fieldOf cX13_fieldOf 4 (some .int) ∈ eW (zV b e D A X) := z_e zx3985 rfl
theorem zw3989 : Cond.code yX13_differ cX13_differ 6 (some .int) ∈ eW (zV b e D A X) := z_e zx3989 rfl
theorem zw3990 : Cond.methodLink RX13 1385 yX13_compare ∈ eW (zV b e D A X) := z_e zx3990 rfl
theorem zw3992 : Cond.instanceMethod yX13_compare ∈ eW (zV b e D A X) := z_e zx3992 rfl
theorem zw3993 : Cond.code yX13_compare cX13_compare 6 none ∈ eW (zV b e D A X) := z_e zx3993 rfl
theorem zw3994 : Cond.methodLink RX13 1388 yX13_differs ∈ eW (zV b e D A X) := z_e zx3994 rfl
theorem zw3996 : Cond.instanceMethod yX13_differs ∈ eW (zV b e D A X) := z_e zx3996 rfl
theorem zw3997 : Cond.code yX13_differs cX13_differs 7 none ∈ eW (zV b e D A X) := z_e zx3997 rfl
theorem zw3998 : Cond.methodLink RX13 1382 yX13_toldPlace ∈ eW (zV b e D A X) := z_e zx3998 rfl
theorem zw4000 : Cond.instanceMethod yX13_toldPlace ∈ eW (zV b e D A X) := z_e zx4000 rfl
theorem zw4001 : Cond.code yX13_toldPlace cX13_toldPlace 5 (some .int) ∈ eW (zV b e D A X) := z_e zx4001 rfl
theorem zw4002 : Cond.methodLink RX13 1392 yX13_compareHeads ∈ eW (zV b e D A X) := z_e zx4002 rfl
theorem zw4004 : Cond.instanceMethod yX13_compareHeads ∈ eW (zV b e D A X) := z_e zx4004 rfl
theorem zw4005 : Cond.code yX13_compareHeads cX13_compareHeads 10 none ∈ eW (zV b e D A X) := z_e zx4005 rfl
theorem zw4006 : Cond.methodLink RX13 1407 yX13_either ∈ eW (zV b e D A X) := z_e zx4006 rfl
theorem zw4008 : Cond.instanceMethod yX13_either ∈ eW (zV b e D A X) := z_e zx4008 rfl
theorem zw4009 : Cond.code yX13_either cX13_either 6 none ∈ eW (zV b e D A X) := z_e zx4009 rfl
theorem zw4010 : Cond.methodLink RX13 1395 yX13_compareFields ∈ eW (zV b e D A X) := z_e zx4010 rfl
theorem zw4012 : Cond.instanceMethod yX13_compareFields ∈ eW (zV b e D A X) := z_e zx4012 rfl
theorem zw4013 : Cond.code yX13_compareFields cX13_compareFields 6 none ∈ eW (zV b e D A X) := z_e zx4013 rfl
theorem zw4014 : Cond.methodLink RX13 1411 yX13_eitherOf ∈ eW (zV b e D A X) := z_e zx4014 rfl
theorem zw4016 : Cond.instanceMethod yX13_eitherOf ∈ eW (zV b e D A X) := z_e zx4016 rfl
theorem zw4017 : Cond.code yX13_eitherOf cX13_eitherOf 6 none ∈ eW (zV b e D A X) := z_e zx4017 rfl
theorem zw4018 : Cond.methodLink RX13 1414 yX13_accessOf ∈ eW (zV b e D A X) := z_e zx4018 rfl
theorem zw4020 : Cond.instanceMethod yX13_accessOf ∈ eW (zV b e D A X) := z_e zx4020 rfl
theorem zw4021 : Cond.code yX13_accessOf cX13_accessOf 4 none ∈ eW (zV b e D A X) := z_e zx4021 rfl
theorem zw4022 : Cond.methodLink RX13 1398 yX13_compareMethods ∈ eW (zV b e D A X) := z_e zx4022 rfl
theorem zw4024 : Cond.instanceMethod yX13_compareMethods ∈ eW (zV b e D A X) := z_e zx4024 rfl
theorem zw4025 : Cond.code yX13_compareMethods cX13_compareMethods 6 none ∈ eW (zV b e D A X) := z_e zx4025 rfl
theorem zw4026 : Cond.methodLink RX13 1417 yX13_alike ∈ eW (zV b e D A X) := z_e zx4026 rfl
theorem zw4028 : Cond.instanceMethod yX13_alike ∈ eW (zV b e D A X) := z_e zx4028 rfl
theorem zw4029 : Cond.code yX13_alike cX13_alike 5 (some .int) ∈ eW (zV b e D A X) := z_e zx4029 rfl
theorem zw4030 : Cond.methodLink RX13 1420 yX13_sameTokens ∈ eW (zV b e D A X) := z_e zx4030 rfl
theorem zw4032 : Cond.instanceMethod yX13_sameTokens ∈ eW (zV b e D A X) := z_e zx4032 rfl
theorem zw4033 : Cond.code yX13_sameTokens cX13_sameTokens 9 (some .boolean) ∈ eW (zV b e D A X) := z_e zx4033 rfl
theorem zw4034 : Cond.methodLink RX13 1423 yX13_sameToken ∈ eW (zV b e D A X) := z_e zx4034 rfl
theorem zw4036 : Cond.instanceMethod yX13_sameToken ∈ eW (zV b e D A X) := z_e zx4036 rfl
theorem zw4037 : Cond.code yX13_sameToken cX13_sameToken 3 (some .boolean) ∈ eW (zV b e D A X) := z_e zx4037 rfl
theorem zw4038 : Cond.methodLink RX13 1401 yX13_compareMakers ∈ eW (zV b e D A X) := z_e zx4038 rfl
theorem zw4040 : Cond.instanceMethod yX13_compareMakers ∈ eW (zV b e D A X) := z_e zx4040 rfl
theorem zw4041 : Cond.code yX13_compareMakers cX13_compareMakers 6 none ∈ eW (zV b e D A X) := z_e zx4041 rfl
theorem zw4042 : Cond.methodLink RX13 1404 yX13_sameRest ∈ eW (zV b e D A X) := z_e zx4042 rfl
theorem zw4044 : Cond.instanceMethod yX13_sameRest ∈ eW (zV b e D A X) := z_e zx4044 rfl
theorem zw4045 : Cond.code yX13_sameRest cX13_sameRest 6 (some .boolean) ∈ eW (zV b e D A X) := z_e zx4045 rfl
theorem zw4046 : Cond.methodLink RX13 1432 yX13_rest ∈ eW (zV b e D A X) := z_e zx4046 rfl
theorem zw4048 : Cond.instanceMethod yX13_rest ∈ eW (zV b e D A X) := z_e zx4048 rfl
theorem zw4049 : Cond.code yX13_rest cX13_rest 7 (some .int) ∈ eW (zV b e D A X) := z_e zx4049 rfl
theorem zw4050 : Cond.methodLink RX13 1426 yX13_isRest ∈ eW (zV b e D A X) := z_e zx4050 rfl
theorem zw4052 : Cond.instanceMethod yX13_isRest ∈ eW (zV b e D A X) := z_e zx4052 rfl
theorem zw4053 : Cond.code yX13_isRest cX13_isRest 2 (some .boolean) ∈ eW (zV b e D A X) := z_e zx4053 rfl
theorem zw4057 : Cond.code yX13_change cX13_change 3 (some .int) ∈ eW (zV b e D A X) := z_e zx4057 rfl
theorem zw4061 : Cond.code yX13_word cX13_word 10 (some .int) ∈ eW (zV b e D A X) := z_e zx4061 rfl
theorem zw4062 : Cond.methodLink RX13 1444 arraycopyName ∈ eW (zV b e D A X) := z_e zx4062 rfl
theorem zw4063 : Cond.methodLink RX13 1450 yX13_weight ∈ eW (zV b e D A X) := z_e zx4063 rfl
theorem zw4064 : Cond.static yX13_weight ∈ eW (zV b e D A X) := z_e zx4064 rfl
theorem zw4065 : Cond.code yX13_weight cX13_weight 2 (some .int) ∈ eW (zV b e D A X) := z_e zx4065 rfl
theorem zw4066 : Cond.fieldLink RX13 1438 "LinkHouseModel" "GREAT" "[I" ∈ eW (zV b e D A X) := z_e zx4066 rfl
theorem zw4071 : Cond.code yX13_weave cX13_weave 11 (some .int) ∈ eW (zV b e D A X) := z_e zx4071 rfl
theorem zw4072 : Cond.methodLink RX13 1453 yX13_heal ∈ eW (zV b e D A X) := z_e zx4072 rfl
theorem zw4074 : Cond.instanceMethod yX13_heal ∈ eW (zV b e D A X) := z_e zx4074 rfl
theorem zw4075 : Cond.code yX13_heal cX13_heal 9 (some .int) ∈ eW (zV b e D A X) := z_e zx4075 rfl
theorem zw4076 : Cond.methodLink RX13 1456 yX13_bridgesOf ∈ eW (zV b e D A X) := z_e zx4076 rfl
theorem zw4078 : Cond.instanceMethod yX13_bridgesOf ∈ eW (zV b e D A X) := z_e zx4078 rfl
theorem zw4079 : Cond.code yX13_bridgesOf cX13_bridgesOf 4 (some .int) ∈ eW (zV b e D A X) := z_e zx4079 rfl
theorem zw4080 : Cond.methodLink RX13 1459 yX13_copyBuild ∈ eW (zV b e D A X) := z_e zx4080 rfl
theorem zw4082 : Cond.instanceMethod yX13_copyBuild ∈ eW (zV b e D A X) := z_e zx4082 rfl
theorem zw4083 : Cond.code yX13_copyBuild cX13_copyBuild 3 none ∈ eW (zV b e D A X) := z_e zx4083 rfl
theorem zw4084 : Cond.methodLink RX13 1465 yX13_copyClasses ∈ eW (zV b e D A X) := z_e zx4084 rfl
theorem zw4086 : Cond.instanceMethod yX13_copyClasses ∈ eW (zV b e D A X) := z_e zx4086 rfl
theorem zw4087 : Cond.code yX13_copyClasses cX13_copyClasses 3 none ∈ eW (zV b e D A X) := z_e zx4087 rfl
theorem zw4088 : Cond.methodLink RX13 1468 yX13_copyMembers ∈ eW (zV b e D A X) := z_e zx4088 rfl
theorem zw4090 : Cond.instanceMethod yX13_copyMembers ∈ eW (zV b e D A X) := z_e zx4090 rfl
theorem zw4091 : Cond.code yX13_copyMembers cX13_copyMembers 6 none ∈ eW (zV b e D A X) := z_e zx4091 rfl
theorem zw4092 : Cond.methodLink RX13 1471 yX13_copyNodes ∈ eW (zV b e D A X) := z_e zx4092 rfl
theorem zw4094 : Cond.instanceMethod yX13_copyNodes ∈ eW (zV b e D A X) := z_e zx4094 rfl
theorem zw4095 : Cond.code yX13_copyNodes cX13_copyNodes 5 none ∈ eW (zV b e D A X) := z_e zx4095 rfl
theorem zw4096 : Cond.methodLink RX13 1462 yX13_weaveUses ∈ eW (zV b e D A X) := z_e zx4096 rfl
theorem zw4098 : Cond.instanceMethod yX13_weaveUses ∈ eW (zV b e D A X) := z_e zx4098 rfl
theorem zw4099 : Cond.code yX13_weaveUses cX13_weaveUses 6 none ∈ eW (zV b e D A X) := z_e zx4099 rfl
theorem zw4100 : Cond.methodLink RX13 1477 yX13_copyUse ∈ eW (zV b e D A X) := z_e zx4100 rfl
theorem zw4102 : Cond.instanceMethod yX13_copyUse ∈ eW (zV b e D A X) := z_e zx4102 rfl
theorem zw4103 : Cond.code yX13_copyUse cX13_copyUse 4 (some .int) ∈ eW (zV b e D A X) := z_e zx4103 rfl
theorem zw4107 : Cond.code yX13_init cX13_init 2 none ∈ eW (zV b e D A X) := z_e zx4107 rfl
theorem zw4108 : Cond.methodLink RX13 1480 Lib.objectInit ∈ eW (zV b e D A X) := z_e zx4108 rfl
theorem zw4109 : Cond.constant RX13 1485 (64000) ∈ eW (zV b e D A X) := z_e zx4109 rfl
theorem zw4110 : Cond.constant RX13 1486 (122400) ∈ eW (zV b e D A X) := z_e zx4110 rfl
theorem zw4111 : Cond.methodLink RX13 1487 yX13_wordTable ∈ eW (zV b e D A X) := z_e zx4111 rfl
theorem zw4113 : Cond.instanceMethod yX13_wordTable ∈ eW (zV b e D A X) := z_e zx4113 rfl
theorem zw4114 : Cond.code yX13_wordTable cX13_wordTable 4 none ∈ eW (zV b e D A X) := z_e zx4114 rfl
theorem zw4116 : Cond.methodLink RX13 1490 yX13_given ∈ eW (zV b e D A X) := z_e zx4116 rfl
theorem zw4118 : Cond.instanceMethod yX13_given ∈ eW (zV b e D A X) := z_e zx4118 rfl
theorem zw4119 : Cond.code yX13_given cX13_given 4 none ∈ eW (zV b e D A X) := z_e zx4119 rfl
theorem zw4121 : Cond.fieldLink RX13 63 "LinkHouseModel" "tape" "[I" ∈ eW (zV b e D A X) := z_e zx4121 rfl
theorem zw4122 : Cond.fieldLink RX13 57 "LinkHouseModel" "size" "I" ∈ eW (zV b e D A X) := z_e zx4122 rfl
theorem zw4123 : Cond.fieldLink RX13 11 "LinkHouseModel" "outRow" "[I" ∈ eW (zV b e D A X) := z_e zx4123 rfl
theorem zw4124 : Cond.fieldLink RX13 15 "LinkHouseModel" "outSize" "I" ∈ eW (zV b e D A X) := z_e zx4124 rfl
theorem zw4125 : Cond.fieldLink RX13 66 "LinkHouseModel" "spliceRow" "[I" ∈ eW (zV b e D A X) := z_e zx4125 rfl
theorem zw4126 : Cond.fieldLink RX13 87 "LinkHouseModel" "text" "[B" ∈ eW (zV b e D A X) := z_e zx4126 rfl
theorem zw4127 : Cond.fieldLink RX13 81 "LinkHouseModel" "textSize" "[I" ∈ eW (zV b e D A X) := z_e zx4127 rfl
theorem zw4128 : Cond.fieldLink RX13 538 "LinkHouseModel" "libOf" "[I" ∈ eW (zV b e D A X) := z_e zx4128 rfl
theorem zw4129 : Cond.fieldLink RX13 965 "LinkHouseModel" "slotOf" "[I" ∈ eW (zV b e D A X) := z_e zx4129 rfl
theorem zw4130 : Cond.fieldLink RX13 947 "LinkHouseModel" "buildMany" "[I" ∈ eW (zV b e D A X) := z_e zx4130 rfl
theorem zw4131 : Cond.fieldLink RX13 950 "LinkHouseModel" "slots" "I" ∈ eW (zV b e D A X) := z_e zx4131 rfl
theorem zw4132 : Cond.fieldLink RX13 103 "LinkHouseModel" "tKind" "[I" ∈ eW (zV b e D A X) := z_e zx4132 rfl
theorem zw4133 : Cond.fieldLink RX13 94 "LinkHouseModel" "tAt" "[I" ∈ eW (zV b e D A X) := z_e zx4133 rfl
theorem zw4134 : Cond.fieldLink RX13 110 "LinkHouseModel" "tEnd" "[I" ∈ eW (zV b e D A X) := z_e zx4134 rfl
theorem zw4135 : Cond.fieldLink RX13 97 "LinkHouseModel" "tName" "[J" ∈ eW (zV b e D A X) := z_e zx4135 rfl
theorem zw4136 : Cond.fieldLink RX13 100 "LinkHouseModel" "tValue" "[I" ∈ eW (zV b e D A X) := z_e zx4136 rfl
theorem zw4137 : Cond.fieldLink RX13 113 "LinkHouseModel" "tokens" "[I" ∈ eW (zV b e D A X) := z_e zx4137 rfl
theorem zw4138 : Cond.fieldLink RX13 71 "LinkHouseModel" "words" "[J" ∈ eW (zV b e D A X) := z_e zx4138 rfl
theorem zw4139 : Cond.fieldLink RX13 75 "LinkHouseModel" "wordMany" "I" ∈ eW (zV b e D A X) := z_e zx4139 rfl
theorem zw4140 : Cond.fieldLink RX13 84 "LinkHouseModel" "slot" "I" ∈ eW (zV b e D A X) := z_e zx4140 rfl
theorem zw4141 : Cond.fieldLink RX13 129 "LinkHouseModel" "flaw" "I" ∈ eW (zV b e D A X) := z_e zx4141 rfl
theorem zw4142 : Cond.fieldLink RX13 132 "LinkHouseModel" "flawAt" "I" ∈ eW (zV b e D A X) := z_e zx4142 rfl
theorem zw4143 : Cond.fieldLink RX13 135 "LinkHouseModel" "p" "I" ∈ eW (zV b e D A X) := z_e zx4143 rfl
theorem zw4144 : Cond.fieldLink RX13 230 "LinkHouseModel" "clsMany" "[I" ∈ eW (zV b e D A X) := z_e zx4144 rfl
theorem zw4145 : Cond.fieldLink RX13 256 "LinkHouseModel" "cName" "[J" ∈ eW (zV b e D A X) := z_e zx4145 rfl
theorem zw4146 : Cond.fieldLink RX13 259 "LinkHouseModel" "cAt" "[I" ∈ eW (zV b e D A X) := z_e zx4146 rfl
theorem zw4147 : Cond.fieldLink RX13 262 "LinkHouseModel" "cOpen" "[Z" ∈ eW (zV b e D A X) := z_e zx4147 rfl
theorem zw4148 : Cond.fieldLink RX13 266 "LinkHouseModel" "cSort" "[I" ∈ eW (zV b e D A X) := z_e zx4148 rfl
theorem zw4149 : Cond.fieldLink RX13 269 "LinkHouseModel" "cParent" "[J" ∈ eW (zV b e D A X) := z_e zx4149 rfl
theorem zw4150 : Cond.fieldLink RX13 280 "LinkHouseModel" "cParentAt" "[I" ∈ eW (zV b e D A X) := z_e zx4150 rfl
theorem zw4151 : Cond.fieldLink RX13 288 "LinkHouseModel" "cFace" "[J" ∈ eW (zV b e D A X) := z_e zx4151 rfl
theorem zw4152 : Cond.fieldLink RX13 291 "LinkHouseModel" "cFaceAt" "[I" ∈ eW (zV b e D A X) := z_e zx4152 rfl
theorem zw4153 : Cond.fieldLink RX13 283 "LinkHouseModel" "cFaces" "[I" ∈ eW (zV b e D A X) := z_e zx4153 rfl
theorem zw4154 : Cond.fieldLink RX13 272 "LinkHouseModel" "cIn" "[J" ∈ eW (zV b e D A X) := z_e zx4154 rfl
theorem zw4155 : Cond.fieldLink RX13 300 "LinkHouseModel" "cInAt" "[I" ∈ eW (zV b e D A X) := z_e zx4155 rfl
theorem zw4156 : Cond.fieldLink RX13 308 "LinkHouseModel" "cWith" "[J" ∈ eW (zV b e D A X) := z_e zx4156 rfl
theorem zw4157 : Cond.fieldLink RX13 311 "LinkHouseModel" "cWithAt" "[I" ∈ eW (zV b e D A X) := z_e zx4157 rfl
theorem zw4158 : Cond.fieldLink RX13 303 "LinkHouseModel" "cWiths" "[I" ∈ eW (zV b e D A X) := z_e zx4158 rfl
theorem zw4159 : Cond.fieldLink RX13 319 "LinkHouseModel" "cOnly" "[J" ∈ eW (zV b e D A X) := z_e zx4159 rfl
theorem zw4160 : Cond.fieldLink RX13 322 "LinkHouseModel" "cOnlyAt" "[I" ∈ eW (zV b e D A X) := z_e zx4160 rfl
theorem zw4161 : Cond.fieldLink RX13 314 "LinkHouseModel" "cOnlys" "[I" ∈ eW (zV b e D A X) := z_e zx4161 rfl
theorem zw4162 : Cond.fieldLink RX13 275 "LinkHouseModel" "mMany" "[I" ∈ eW (zV b e D A X) := z_e zx4162 rfl
theorem zw4163 : Cond.fieldLink RX13 402 "LinkHouseModel" "mKind" "[I" ∈ eW (zV b e D A X) := z_e zx4163 rfl
theorem zw4164 : Cond.fieldLink RX13 399 "LinkHouseModel" "mTold" "[I" ∈ eW (zV b e D A X) := z_e zx4164 rfl
theorem zw4165 : Cond.fieldLink RX13 433 "LinkHouseModel" "mAccess" "[I" ∈ eW (zV b e D A X) := z_e zx4165 rfl
theorem zw4166 : Cond.fieldLink RX13 341 "LinkHouseModel" "mStatic" "[Z" ∈ eW (zV b e D A X) := z_e zx4166 rfl
theorem zw4167 : Cond.fieldLink RX13 344 "LinkHouseModel" "mFinal" "[Z" ∈ eW (zV b e D A X) := z_e zx4167 rfl
theorem zw4168 : Cond.fieldLink RX13 436 "LinkHouseModel" "mBare" "[Z" ∈ eW (zV b e D A X) := z_e zx4168 rfl
theorem zw4169 : Cond.fieldLink RX13 347 "LinkHouseModel" "mBareTold" "[Z" ∈ eW (zV b e D A X) := z_e zx4169 rfl
theorem zw4170 : Cond.fieldLink RX13 350 "LinkHouseModel" "mBridge" "[Z" ∈ eW (zV b e D A X) := z_e zx4170 rfl
theorem zw4171 : Cond.fieldLink RX13 353 "LinkHouseModel" "mGiven" "[Z" ∈ eW (zV b e D A X) := z_e zx4171 rfl
theorem zw4172 : Cond.fieldLink RX13 356 "LinkHouseModel" "mName" "[J" ∈ eW (zV b e D A X) := z_e zx4172 rfl
theorem zw4173 : Cond.fieldLink RX13 405 "LinkHouseModel" "mAt" "[I" ∈ eW (zV b e D A X) := z_e zx4173 rfl
theorem zw4174 : Cond.fieldLink RX13 359 "LinkHouseModel" "mType" "[J" ∈ eW (zV b e D A X) := z_e zx4174 rfl
theorem zw4175 : Cond.fieldLink RX13 420 "LinkHouseModel" "mTypeAt" "[I" ∈ eW (zV b e D A X) := z_e zx4175 rfl
theorem zw4176 : Cond.fieldLink RX13 362 "LinkHouseModel" "mParams" "[I" ∈ eW (zV b e D A X) := z_e zx4176 rfl
theorem zw4177 : Cond.fieldLink RX13 442 "LinkHouseModel" "mParam" "[J" ∈ eW (zV b e D A X) := z_e zx4177 rfl
theorem zw4178 : Cond.fieldLink RX13 439 "LinkHouseModel" "mParamAt" "[I" ∈ eW (zV b e D A X) := z_e zx4178 rfl
theorem zw4179 : Cond.fieldLink RX13 445 "LinkHouseModel" "mParamName" "[J" ∈ eW (zV b e D A X) := z_e zx4179 rfl
theorem zw4180 : Cond.fieldLink RX13 448 "LinkHouseModel" "mParamNameAt" "[I" ∈ eW (zV b e D A X) := z_e zx4180 rfl
theorem zw4181 : Cond.fieldLink RX13 365 "LinkHouseModel" "mExpr" "[I" ∈ eW (zV b e D A X) := z_e zx4181 rfl
theorem zw4182 : Cond.fieldLink RX13 368 "LinkHouseModel" "mBlock" "[I" ∈ eW (zV b e D A X) := z_e zx4182 rfl
theorem zw4183 : Cond.fieldLink RX13 371 "LinkHouseModel" "mTokFrom" "[I" ∈ eW (zV b e D A X) := z_e zx4183 rfl
theorem zw4184 : Cond.fieldLink RX13 374 "LinkHouseModel" "mTokTo" "[I" ∈ eW (zV b e D A X) := z_e zx4184 rfl
theorem zw4185 : Cond.fieldLink RX13 377 "LinkHouseModel" "mConst" "[Z" ∈ eW (zV b e D A X) := z_e zx4185 rfl
theorem zw4186 : Cond.fieldLink RX13 380 "LinkHouseModel" "mValue" "[I" ∈ eW (zV b e D A X) := z_e zx4186 rfl
theorem zw4187 : Cond.fieldLink RX13 383 "LinkHouseModel" "mTarget" "[J" ∈ eW (zV b e D A X) := z_e zx4187 rfl
theorem zw4188 : Cond.fieldLink RX13 386 "LinkHouseModel" "mUse" "[I" ∈ eW (zV b e D A X) := z_e zx4188 rfl
theorem zw4189 : Cond.fieldLink RX13 389 "LinkHouseModel" "mLocals" "[I" ∈ eW (zV b e D A X) := z_e zx4189 rfl
theorem zw4190 : Cond.fieldLink RX13 170 "LinkHouseModel" "nodeMany" "[I" ∈ eW (zV b e D A X) := z_e zx4190 rfl
theorem zw4191 : Cond.fieldLink RX13 173 "LinkHouseModel" "nKind" "[I" ∈ eW (zV b e D A X) := z_e zx4191 rfl
theorem zw4192 : Cond.fieldLink RX13 176 "LinkHouseModel" "nAt" "[I" ∈ eW (zV b e D A X) := z_e zx4192 rfl
theorem zw4193 : Cond.fieldLink RX13 179 "LinkHouseModel" "nNameAt" "[I" ∈ eW (zV b e D A X) := z_e zx4193 rfl
theorem zw4194 : Cond.fieldLink RX13 182 "LinkHouseModel" "nCAt" "[I" ∈ eW (zV b e D A X) := z_e zx4194 rfl
theorem zw4195 : Cond.fieldLink RX13 185 "LinkHouseModel" "nName" "[J" ∈ eW (zV b e D A X) := z_e zx4195 rfl
theorem zw4196 : Cond.fieldLink RX13 188 "LinkHouseModel" "nC" "[J" ∈ eW (zV b e D A X) := z_e zx4196 rfl
theorem zw4197 : Cond.fieldLink RX13 191 "LinkHouseModel" "nT" "[J" ∈ eW (zV b e D A X) := z_e zx4197 rfl
theorem zw4198 : Cond.fieldLink RX13 194 "LinkHouseModel" "nA" "[I" ∈ eW (zV b e D A X) := z_e zx4198 rfl
theorem zw4199 : Cond.fieldLink RX13 197 "LinkHouseModel" "nB" "[I" ∈ eW (zV b e D A X) := z_e zx4199 rfl
theorem zw4200 : Cond.fieldLink RX13 200 "LinkHouseModel" "nD" "[I" ∈ eW (zV b e D A X) := z_e zx4200 rfl
theorem zw4201 : Cond.fieldLink RX13 203 "LinkHouseModel" "nNext" "[I" ∈ eW (zV b e D A X) := z_e zx4201 rfl
theorem zw4202 : Cond.fieldLink RX13 206 "LinkHouseModel" "nValue" "[I" ∈ eW (zV b e D A X) := z_e zx4202 rfl
theorem zw4203 : Cond.fieldLink RX13 209 "LinkHouseModel" "nMean" "[I" ∈ eW (zV b e D A X) := z_e zx4203 rfl
theorem zw4204 : Cond.fieldLink RX13 212 "LinkHouseModel" "nX" "[J" ∈ eW (zV b e D A X) := z_e zx4204 rfl
theorem zw4205 : Cond.fieldLink RX13 215 "LinkHouseModel" "nRes" "[J" ∈ eW (zV b e D A X) := z_e zx4205 rfl
theorem zw4206 : Cond.fieldLink RX13 218 "LinkHouseModel" "nParams" "[I" ∈ eW (zV b e D A X) := z_e zx4206 rfl
theorem zw4207 : Cond.fieldLink RX13 825 "LinkHouseModel" "nParam" "[J" ∈ eW (zV b e D A X) := z_e zx4207 rfl
theorem zw4208 : Cond.fieldLink RX13 221 "LinkHouseModel" "nUse" "[I" ∈ eW (zV b e D A X) := z_e zx4208 rfl
theorem zw4209 : Cond.fieldLink RX13 224 "LinkHouseModel" "nUse2" "[I" ∈ eW (zV b e D A X) := z_e zx4209 rfl
theorem zw4210 : Cond.fieldLink RX13 227 "LinkHouseModel" "depth" "I" ∈ eW (zV b e D A X) := z_e zx4210 rfl
theorem zw4211 : Cond.fieldLink RX13 535 "LinkHouseModel" "world" "[I" ∈ eW (zV b e D A X) := z_e zx4211 rfl
theorem zw4212 : Cond.fieldLink RX13 528 "LinkHouseModel" "judged" "I" ∈ eW (zV b e D A X) := z_e zx4212 rfl
theorem zw4213 : Cond.fieldLink RX13 588 "LinkHouseModel" "linking" "Z" ∈ eW (zV b e D A X) := z_e zx4213 rfl
theorem zw4214 : Cond.fieldLink RX13 567 "LinkHouseModel" "added" "[I" ∈ eW (zV b e D A X) := z_e zx4214 rfl
theorem zw4215 : Cond.fieldLink RX13 570 "LinkHouseModel" "opened" "[I" ∈ eW (zV b e D A X) := z_e zx4215 rfl
theorem zw4216 : Cond.fieldLink RX13 561 "LinkHouseModel" "stamp" "I" ∈ eW (zV b e D A X) := z_e zx4216 rfl
theorem zw4217 : Cond.fieldLink RX13 576 "LinkHouseModel" "pile" "[I" ∈ eW (zV b e D A X) := z_e zx4217 rfl
theorem zw4218 : Cond.fieldLink RX13 611 "LinkHouseModel" "lookedRow" "[I" ∈ eW (zV b e D A X) := z_e zx4218 rfl
theorem zw4219 : Cond.fieldLink RX13 608 "LinkHouseModel" "lookedMany" "I" ∈ eW (zV b e D A X) := z_e zx4219 rfl
theorem zw4220 : Cond.fieldLink RX13 637 "LinkHouseModel" "special" "[I" ∈ eW (zV b e D A X) := z_e zx4220 rfl
theorem zw4221 : Cond.fieldLink RX13 630 "LinkHouseModel" "specialFaces" "[I" ∈ eW (zV b e D A X) := z_e zx4221 rfl
theorem zw4222 : Cond.fieldLink RX13 640 "LinkHouseModel" "unbare" "I" ∈ eW (zV b e D A X) := z_e zx4222 rfl
theorem zw4223 : Cond.fieldLink RX13 668 "LinkHouseModel" "above" "[I" ∈ eW (zV b e D A X) := z_e zx4223 rfl
theorem zw4224 : Cond.fieldLink RX13 671 "LinkHouseModel" "aboveMany" "I" ∈ eW (zV b e D A X) := z_e zx4224 rfl
theorem zw4225 : Cond.fieldLink RX13 674 "LinkHouseModel" "aboveFaces" "[I" ∈ eW (zV b e D A X) := z_e zx4225 rfl
theorem zw4226 : Cond.fieldLink RX13 705 "LinkHouseModel" "wholeFaces" "[I" ∈ eW (zV b e D A X) := z_e zx4226 rfl
theorem zw4227 : Cond.fieldLink RX13 726 "LinkHouseModel" "path" "[I" ∈ eW (zV b e D A X) := z_e zx4227 rfl
theorem zw4228 : Cond.fieldLink RX13 714 "LinkHouseModel" "pathTop" "I" ∈ eW (zV b e D A X) := z_e zx4228 rfl
theorem zw4229 : Cond.fieldLink RX13 745 "LinkHouseModel" "atClass" "I" ∈ eW (zV b e D A X) := z_e zx4229 rfl
theorem zw4230 : Cond.fieldLink RX13 748 "LinkHouseModel" "atMember" "I" ∈ eW (zV b e D A X) := z_e zx4230 rfl
theorem zw4231 : Cond.fieldLink RX13 751 "LinkHouseModel" "inStatic" "Z" ∈ eW (zV b e D A X) := z_e zx4231 rfl
theorem zw4232 : Cond.fieldLink RX13 780 "LinkHouseModel" "localName" "[J" ∈ eW (zV b e D A X) := z_e zx4232 rfl
theorem zw4233 : Cond.fieldLink RX13 783 "LinkHouseModel" "localType" "[J" ∈ eW (zV b e D A X) := z_e zx4233 rfl
theorem zw4234 : Cond.fieldLink RX13 754 "LinkHouseModel" "locals" "I" ∈ eW (zV b e D A X) := z_e zx4234 rfl
theorem zw4235 : Cond.fieldLink RX13 841 "LinkHouseModel" "candidates" "[I" ∈ eW (zV b e D A X) := z_e zx4235 rfl
theorem zw4236 : Cond.fieldLink RX13 838 "LinkHouseModel" "candidateMany" "I" ∈ eW (zV b e D A X) := z_e zx4236 rfl
theorem zw4237 : Cond.fieldLink RX13 844 "LinkHouseModel" "candidateFaces" "[I" ∈ eW (zV b e D A X) := z_e zx4237 rfl
theorem zw4238 : Cond.fieldLink RX13 863 "LinkHouseModel" "uMany" "[I" ∈ eW (zV b e D A X) := z_e zx4238 rfl
theorem zw4239 : Cond.fieldLink RX13 866 "LinkHouseModel" "uSort" "[I" ∈ eW (zV b e D A X) := z_e zx4239 rfl
theorem zw4240 : Cond.fieldLink RX13 869 "LinkHouseModel" "uClass" "[I" ∈ eW (zV b e D A X) := z_e zx4240 rfl
theorem zw4241 : Cond.fieldLink RX13 872 "LinkHouseModel" "uC" "[J" ∈ eW (zV b e D A X) := z_e zx4241 rfl
theorem zw4242 : Cond.fieldLink RX13 875 "LinkHouseModel" "uName" "[J" ∈ eW (zV b e D A X) := z_e zx4242 rfl
theorem zw4243 : Cond.fieldLink RX13 878 "LinkHouseModel" "uType" "[J" ∈ eW (zV b e D A X) := z_e zx4243 rfl
theorem zw4244 : Cond.fieldLink RX13 881 "LinkHouseModel" "uParams" "[I" ∈ eW (zV b e D A X) := z_e zx4244 rfl
theorem zw4245 : Cond.fieldLink RX13 890 "LinkHouseModel" "uParam" "[J" ∈ eW (zV b e D A X) := z_e zx4245 rfl
theorem zw4246 : Cond.fieldLink RX13 884 "LinkHouseModel" "uSecond" "[J" ∈ eW (zV b e D A X) := z_e zx4246 rfl
theorem zw4247 : Cond.fieldLink RX13 887 "LinkHouseModel" "uValue" "[I" ∈ eW (zV b e D A X) := z_e zx4247 rfl
theorem zw4248 : Cond.fieldLink RX13 962 "LinkHouseModel" "placed" "I" ∈ eW (zV b e D A X) := z_e zx4248 rfl
theorem zw4249 : Cond.fieldLink RX13 1071 "LinkHouseModel" "worldMany" "I" ∈ eW (zV b e D A X) := z_e zx4249 rfl
theorem zw4250 : Cond.fieldLink RX13 1077 "LinkHouseModel" "worldClass" "[I" ∈ eW (zV b e D A X) := z_e zx4250 rfl
theorem zw4251 : Cond.fieldLink RX13 1068 "LinkHouseModel" "worldNumber" "[I" ∈ eW (zV b e D A X) := z_e zx4251 rfl
theorem zw4252 : Cond.fieldLink RX13 1089 "LinkHouseModel" "state" "[I" ∈ eW (zV b e D A X) := z_e zx4252 rfl
theorem zw4253 : Cond.fieldLink RX13 1092 "LinkHouseModel" "failure" "[I" ∈ eW (zV b e D A X) := z_e zx4253 rfl
theorem zw4254 : Cond.fieldLink RX13 1080 "LinkHouseModel" "set" "I" ∈ eW (zV b e D A X) := z_e zx4254 rfl
theorem zw4255 : Cond.fieldLink RX13 1083 "LinkHouseModel" "events" "[I" ∈ eW (zV b e D A X) := z_e zx4255 rfl
theorem zw4256 : Cond.fieldLink RX13 1086 "LinkHouseModel" "eventMany" "I" ∈ eW (zV b e D A X) := z_e zx4256 rfl
theorem zw4257 : Cond.fieldLink RX13 1171 "LinkHouseModel" "metMember" "I" ∈ eW (zV b e D A X) := z_e zx4257 rfl
theorem zw4258 : Cond.fieldLink RX13 1177 "LinkHouseModel" "seenRow" "[I" ∈ eW (zV b e D A X) := z_e zx4258 rfl
theorem zw4259 : Cond.fieldLink RX13 1174 "LinkHouseModel" "seenMany" "I" ∈ eW (zV b e D A X) := z_e zx4259 rfl
theorem zw4260 : Cond.fieldLink RX13 1124 "LinkHouseModel" "metNow" "I" ∈ eW (zV b e D A X) := z_e zx4260 rfl
theorem zw4261 : Cond.fieldLink RX13 1118 "LinkHouseModel" "seenNow" "[I" ∈ eW (zV b e D A X) := z_e zx4261 rfl
theorem zw4262 : Cond.fieldLink RX13 1121 "LinkHouseModel" "seenNowMany" "I" ∈ eW (zV b e D A X) := z_e zx4262 rfl
theorem zw4263 : Cond.fieldLink RX13 1148 "LinkHouseModel" "askedFaces" "[I" ∈ eW (zV b e D A X) := z_e zx4263 rfl
theorem zw4264 : Cond.fieldLink RX13 1183 "LinkHouseModel" "brokenRow" "[I" ∈ eW (zV b e D A X) := z_e zx4264 rfl
theorem zw4265 : Cond.fieldLink RX13 1180 "LinkHouseModel" "brokenMany" "I" ∈ eW (zV b e D A X) := z_e zx4265 rfl
theorem zw4266 : Cond.fieldLink RX13 1189 "LinkHouseModel" "chosen" "[I" ∈ eW (zV b e D A X) := z_e zx4266 rfl
theorem zw4267 : Cond.fieldLink RX13 1186 "LinkHouseModel" "stood" "[I" ∈ eW (zV b e D A X) := z_e zx4267 rfl
theorem zw4268 : Cond.fieldLink RX13 1204 "LinkHouseModel" "statics" "[I" ∈ eW (zV b e D A X) := z_e zx4268 rfl
theorem zw4269 : Cond.fieldLink RX13 1216 "LinkHouseModel" "objectClass" "[I" ∈ eW (zV b e D A X) := z_e zx4269 rfl
theorem zw4270 : Cond.fieldLink RX13 1262 "LinkHouseModel" "objectFrom" "[I" ∈ eW (zV b e D A X) := z_e zx4270 rfl
theorem zw4271 : Cond.fieldLink RX13 1198 "LinkHouseModel" "objects" "I" ∈ eW (zV b e D A X) := z_e zx4271 rfl
theorem zw4272 : Cond.fieldLink RX13 1265 "LinkHouseModel" "fields" "[I" ∈ eW (zV b e D A X) := z_e zx4272 rfl
theorem zw4273 : Cond.fieldLink RX13 1201 "LinkHouseModel" "fieldMany" "I" ∈ eW (zV b e D A X) := z_e zx4273 rfl
theorem zw4274 : Cond.fieldLink RX13 1282 "LinkHouseModel" "cells" "[I" ∈ eW (zV b e D A X) := z_e zx4274 rfl
theorem zw4275 : Cond.fieldLink RX13 1248 "LinkHouseModel" "cellTop" "I" ∈ eW (zV b e D A X) := z_e zx4275 rfl
theorem zw4276 : Cond.fieldLink RX13 1297 "LinkHouseModel" "taskNode" "[I" ∈ eW (zV b e D A X) := z_e zx4276 rfl
theorem zw4277 : Cond.fieldLink RX13 1303 "LinkHouseModel" "taskState" "[I" ∈ eW (zV b e D A X) := z_e zx4277 rfl
theorem zw4278 : Cond.fieldLink RX13 1328 "LinkHouseModel" "taskValue" "[I" ∈ eW (zV b e D A X) := z_e zx4278 rfl
theorem zw4279 : Cond.fieldLink RX13 1306 "LinkHouseModel" "taskTo" "[I" ∈ eW (zV b e D A X) := z_e zx4279 rfl
theorem zw4280 : Cond.fieldLink RX13 1349 "LinkHouseModel" "taskArg" "[I" ∈ eW (zV b e D A X) := z_e zx4280 rfl
theorem zw4281 : Cond.fieldLink RX13 1300 "LinkHouseModel" "taskTop" "I" ∈ eW (zV b e D A X) := z_e zx4281 rfl
theorem zw4282 : Cond.fieldLink RX13 1219 "LinkHouseModel" "level" "I" ∈ eW (zV b e D A X) := z_e zx4282 rfl
theorem zw4283 : Cond.fieldLink RX13 1268 "LinkHouseModel" "steps" "I" ∈ eW (zV b e D A X) := z_e zx4283 rfl
theorem zw4284 : Cond.fieldLink RX13 1207 "LinkHouseModel" "stop" "I" ∈ eW (zV b e D A X) := z_e zx4284 rfl
theorem zw4285 : Cond.fieldLink RX13 1210 "LinkHouseModel" "failed" "I" ∈ eW (zV b e D A X) := z_e zx4285 rfl
theorem zw4286 : Cond.fieldLink RX13 1279 "LinkHouseModel" "given" "I" ∈ eW (zV b e D A X) := z_e zx4286 rfl
theorem zw4287 : Cond.fieldLink RX13 1373 "LinkHouseModel" "runValue" "I" ∈ eW (zV b e D A X) := z_e zx4287 rfl
theorem zw4288 : Cond.fieldLink RX13 1361 "LinkHouseModel" "outs" "[I" ∈ eW (zV b e D A X) := z_e zx4288 rfl
theorem zw4289 : Cond.fieldLink RX13 1358 "LinkHouseModel" "toldMany" "I" ∈ eW (zV b e D A X) := z_e zx4289 rfl
theorem zw4290 : Cond.fieldLink RX13 1245 "LinkHouseModel" "faceSeen" "[I" ∈ eW (zV b e D A X) := z_e zx4290 rfl
theorem zw4291 : Cond.fieldLink RX13 1233 "LinkHouseModel" "faceStamp" "I" ∈ eW (zV b e D A X) := z_e zx4291 rfl
theorem zw4292 : Cond.fieldLink RX13 1239 "LinkHouseModel" "facePile" "[I" ∈ eW (zV b e D A X) := z_e zx4292 rfl
theorem zw4293 : Cond.fieldLink RX13 1230 "LinkHouseModel" "faceTop" "I" ∈ eW (zV b e D A X) := z_e zx4293 rfl
theorem zw4294 : Cond.fieldLink RX13 1379 "LinkHouseModel" "changes" "[I" ∈ eW (zV b e D A X) := z_e zx4294 rfl
theorem zw4295 : Cond.fieldLink RX13 1376 "LinkHouseModel" "changeMany" "I" ∈ eW (zV b e D A X) := z_e zx4295 rfl
theorem zw4296 : Cond.fieldLink RX13 1429 "LinkHouseModel" "restA" "[I" ∈ eW (zV b e D A X) := z_e zx4296 rfl
theorem zw4297 : Cond.fieldLink RX13 1435 "LinkHouseModel" "restB" "[I" ∈ eW (zV b e D A X) := z_e zx4297 rfl
theorem zw4298 : Cond.fieldLink RX13 1441 "LinkHouseModel" "keptChanges" "[I" ∈ eW (zV b e D A X) := z_e zx4298 rfl
theorem zw4299 : Cond.fieldLink RX13 1474 "LinkHouseModel" "useMap" "[I" ∈ eW (zV b e D A X) := z_e zx4299 rfl
theorem zw4661 : Cond.arrayClass .boolean ∈ eW (zV b e D A X) := z_e zx4661 rfl
theorem zw4662 : Cond.fieldLink RJ0 9 "java/lang/String" "value" "[B" ∈ eW (zV b e D A X) := z_e zx4662 rfl
theorem zw4663 : Cond.fieldLink RJ0 15 "java/lang/String" "coder" "B" ∈ eW (zV b e D A X) := z_e zx4663 rfl
theorem zin0 : ∀ w ∈ u_ws RX0 TX0 17, w ∈ lw_tbl := z_in [(2, 28), (2, 30), (2, 32), (2, 34), (2, 36), (2, 38), (2, 40), (2, 42), (2, 44), (2, 46), (2, 48), (2, 50), (2, 52), (2, 54), (2, 56), (2, 58), (2, 60)] rfl
theorem zie0 : ∀ w ∈ u_ws RX0 TX0 17, w ∈ eW (zV b e D A X) := fun w hw => z_e (zin0 w hw) (List.all_eq_true.mp (show (u_ws RX0 TX0 17).all goodWord = true from by decide +kernel) w hw)
theorem zcl0 : rx_Cl (zV b e D A X) 0 RX0 TX0 17 tyX0 := ⟨rfl, zie0, tyX0_ok, nmX0⟩
def zfs0 : List (List Nat) := [[3, 3, 3, 0, 0, 3, 0, 3, 0, 3, 3, 0, 0, 3, 0, 3], [0]]
theorem zfk0 : ∀ k, k < 17 → rx_dfok (tyX0 k) = true ∧ rx_fg zfs0 k = rx_df (tyX0 k) := by decide +kernel
theorem zin1 : ∀ w ∈ u_ws RX1 TX1 18, w ∈ lw_tbl := z_in [(4, 43), (4, 45), (4, 47), (4, 49), (4, 51), (4, 53), (4, 55), (4, 57), (4, 59), (4, 61), (4, 63), (4, 65), (4, 67), (4, 69), (4, 71), (4, 73), (4, 75), (4, 77)] rfl
theorem zie1 : ∀ w ∈ u_ws RX1 TX1 18, w ∈ eW (zV b e D A X) := fun w hw => z_e (zin1 w hw) (List.all_eq_true.mp (show (u_ws RX1 TX1 18).all goodWord = true from by decide +kernel) w hw)
theorem zcl1 : rx_Cl (zV b e D A X) 1 RX1 TX1 18 tyX1 := ⟨rfl, zie1, tyX1_ok, nmX1⟩
def zfs1 : List (List Nat) := [[0, 0, 3, 0, 3, 0, 3, 0, 3, 3, 3, 3, 3, 3, 3, 0], [3, 0]]
theorem zfk1 : ∀ k, k < 18 → rx_dfok (tyX1 k) = true ∧ rx_fg zfs1 k = rx_df (tyX1 k) := by decide +kernel
theorem zin2 : ∀ w ∈ u_ws RX2 TX2 10, w ∈ lw_tbl := z_in [(5, 70), (5, 72), (5, 74), (5, 76), (5, 78), (5, 80), (5, 82), (5, 84), (5, 86), (5, 88)] rfl
theorem zie2 : ∀ w ∈ u_ws RX2 TX2 10, w ∈ eW (zV b e D A X) := fun w hw => z_e (zin2 w hw) (List.all_eq_true.mp (show (u_ws RX2 TX2 10).all goodWord = true from by decide +kernel) w hw)
theorem zcl2 : rx_Cl (zV b e D A X) 2 RX2 TX2 10 tyX2 := ⟨rfl, zie2, tyX2_ok, nmX2⟩
def zfs2 : List (List Nat) := [[3, 3, 0, 3, 0, 0, 0, 0, 3, 3]]
theorem zfk2 : ∀ k, k < 10 → rx_dfok (tyX2 k) = true ∧ rx_fg zfs2 k = rx_df (tyX2 k) := by decide +kernel
theorem zin3 : ∀ w ∈ u_ws RX3 TX3 7, w ∈ lw_tbl := z_in [(2, 76), (2, 78), (2, 80), (2, 82), (2, 84), (2, 86), (2, 88)] rfl
theorem zie3 : ∀ w ∈ u_ws RX3 TX3 7, w ∈ eW (zV b e D A X) := fun w hw => z_e (zin3 w hw) (List.all_eq_true.mp (show (u_ws RX3 TX3 7).all goodWord = true from by decide +kernel) w hw)
theorem zcl3 : rx_Cl (zV b e D A X) 3 RX3 TX3 7 tyX3 := ⟨rfl, zie3, tyX3_ok, nmX3⟩
def zfs3 : List (List Nat) := [[3, 3, 3, 0, 3, 0, 0]]
theorem zfk3 : ∀ k, k < 7 → rx_dfok (tyX3 k) = true ∧ rx_fg zfs3 k = rx_df (tyX3 k) := by decide +kernel
theorem zin4 : ∀ w ∈ u_ws RX4 TX4 4, w ∈ lw_tbl := z_in [(1, 232), (1, 234), (1, 236), (1, 238)] rfl
theorem zie4 : ∀ w ∈ u_ws RX4 TX4 4, w ∈ eW (zV b e D A X) := fun w hw => z_e (zin4 w hw) (List.all_eq_true.mp (show (u_ws RX4 TX4 4).all goodWord = true from by decide +kernel) w hw)
theorem zcl4 : rx_Cl (zV b e D A X) 4 RX4 TX4 4 tyX4 := ⟨rfl, zie4, tyX4_ok, nmX4⟩
def zfs4 : List (List Nat) := [[3, 3, 0, 0]]
theorem zfk4 : ∀ k, k < 4 → rx_dfok (tyX4 k) = true ∧ rx_fg zfs4 k = rx_df (tyX4 k) := by decide +kernel
theorem zin5 : ∀ w ∈ u_ws RX5 TX5 20, w ∈ lw_tbl := z_in [(5, 10), (5, 12), (5, 14), (5, 16), (5, 18), (5, 20), (5, 22), (5, 24), (5, 26), (5, 28), (5, 30), (5, 32), (5, 34), (5, 36), (5, 38), (5, 40), (5, 42), (5, 44), (5, 46), (5, 48)] rfl
theorem zie5 : ∀ w ∈ u_ws RX5 TX5 20, w ∈ eW (zV b e D A X) := fun w hw => z_e (zin5 w hw) (List.all_eq_true.mp (show (u_ws RX5 TX5 20).all goodWord = true from by decide +kernel) w hw)
theorem zcl5 : rx_Cl (zV b e D A X) 5 RX5 TX5 20 tyX5 := ⟨rfl, zie5, tyX5_ok, nmX5⟩
def zfs5 : List (List Nat) := [[3, 3, 3, 3, 0, 3, 0, 3, 3, 3, 3, 3, 0, 1, 0, 3], [0, 3, 3, 3]]
theorem zfk5 : ∀ k, k < 20 → rx_dfok (tyX5 k) = true ∧ rx_fg zfs5 k = rx_df (tyX5 k) := by decide +kernel
theorem zin6 : ∀ w ∈ u_ws RX6 TX6 20, w ∈ lw_tbl := z_in [(5, 134), (5, 136), (5, 138), (5, 140), (5, 142), (5, 144), (5, 146), (5, 148), (5, 150), (5, 152), (5, 154), (5, 156), (5, 158), (5, 160), (5, 162), (5, 164), (5, 166), (5, 168), (5, 170), (5, 172)] rfl
theorem zie6 : ∀ w ∈ u_ws RX6 TX6 20, w ∈ eW (zV b e D A X) := fun w hw => z_e (zin6 w hw) (List.all_eq_true.mp (show (u_ws RX6 TX6 20).all goodWord = true from by decide +kernel) w hw)
theorem zcl6 : rx_Cl (zV b e D A X) 6 RX6 TX6 20 tyX6 := ⟨rfl, zie6, tyX6_ok, nmX6⟩
def zfs6 : List (List Nat) := [[3, 3, 3, 0, 3, 0, 3, 0, 3, 3, 0, 3, 0, 3, 0, 3], [0, 0, 0, 0]]
theorem zfk6 : ∀ k, k < 20 → rx_dfok (tyX6 k) = true ∧ rx_fg zfs6 k = rx_df (tyX6 k) := by decide +kernel
theorem zin7 : ∀ w ∈ u_ws RX7 TX7 19, w ∈ lw_tbl := z_in [(3, 180), (3, 182), (3, 184), (3, 186), (3, 188), (3, 190), (3, 192), (3, 194), (3, 196), (3, 198), (3, 200), (3, 202), (3, 204), (3, 206), (3, 208), (3, 210), (3, 212), (3, 214), (3, 216)] rfl
theorem zie7 : ∀ w ∈ u_ws RX7 TX7 19, w ∈ eW (zV b e D A X) := fun w hw => z_e (zin7 w hw) (List.all_eq_true.mp (show (u_ws RX7 TX7 19).all goodWord = true from by decide +kernel) w hw)
theorem zcl7 : rx_Cl (zV b e D A X) 7 RX7 TX7 19 tyX7 := ⟨rfl, zie7, tyX7_ok, nmX7⟩
def zfs7 : List (List Nat) := [[0, 0, 0, 0, 0, 0, 0, 1, 1, 0, 3, 0, 0, 0, 3, 0], [0, 0, 0]]
theorem zfk7 : ∀ k, k < 19 → rx_dfok (tyX7 k) = true ∧ rx_fg zfs7 k = rx_df (tyX7 k) := by decide +kernel
theorem zin8 : ∀ w ∈ u_ws RX8 TX8 12, w ∈ lw_tbl := z_in [(1, 89), (1, 91), (1, 93), (1, 95), (1, 97), (1, 99), (1, 101), (1, 103), (1, 105), (1, 107), (1, 109), (1, 111)] rfl
theorem zie8 : ∀ w ∈ u_ws RX8 TX8 12, w ∈ eW (zV b e D A X) := fun w hw => z_e (zin8 w hw) (List.all_eq_true.mp (show (u_ws RX8 TX8 12).all goodWord = true from by decide +kernel) w hw)
theorem zcl8 : rx_Cl (zV b e D A X) 8 RX8 TX8 12 tyX8 := ⟨rfl, zie8, tyX8_ok, nmX8⟩
def zfs8 : List (List Nat) := [[0, 0, 0, 0, 0, 3, 3, 3, 3, 1, 1, 3]]
theorem zfk8 : ∀ k, k < 12 → rx_dfok (tyX8 k) = true ∧ rx_fg zfs8 k = rx_df (tyX8 k) := by decide +kernel
theorem zin9 : ∀ w ∈ u_ws RX9 TX9 15, w ∈ lw_tbl := z_in [(1, 189), (1, 191), (1, 193), (1, 195), (1, 197), (1, 199), (1, 201), (1, 203), (1, 205), (1, 207), (1, 209), (1, 211), (1, 213), (1, 215), (1, 217)] rfl
theorem zie9 : ∀ w ∈ u_ws RX9 TX9 15, w ∈ eW (zV b e D A X) := fun w hw => z_e (zin9 w hw) (List.all_eq_true.mp (show (u_ws RX9 TX9 15).all goodWord = true from by decide +kernel) w hw)
theorem zcl9 : rx_Cl (zV b e D A X) 9 RX9 TX9 15 tyX9 := ⟨rfl, zie9, tyX9_ok, nmX9⟩
def zfs9 : List (List Nat) := [[3, 3, 3, 3, 3, 0, 3, 0, 0, 0, 0, 3, 0, 3, 0]]
theorem zfk9 : ∀ k, k < 15 → rx_dfok (tyX9 k) = true ∧ rx_fg zfs9 k = rx_df (tyX9 k) := by decide +kernel
theorem zin10 : ∀ w ∈ u_ws RX10 TX10 21, w ∈ lw_tbl := z_in [(3, 1), (3, 3), (3, 5), (3, 7), (3, 9), (3, 11), (3, 13), (3, 15), (3, 17), (3, 19), (3, 21), (3, 23), (3, 25), (3, 27), (3, 29), (3, 31), (3, 33), (3, 35), (3, 37), (3, 39), (3, 41)] rfl
theorem zie10 : ∀ w ∈ u_ws RX10 TX10 21, w ∈ eW (zV b e D A X) := fun w hw => z_e (zin10 w hw) (List.all_eq_true.mp (show (u_ws RX10 TX10 21).all goodWord = true from by decide +kernel) w hw)
theorem zcl10 : rx_Cl (zV b e D A X) 10 RX10 TX10 21 tyX10 := ⟨rfl, zie10, tyX10_ok, nmX10⟩
def zfs10 : List (List Nat) := [[3, 1, 0, 0, 0, 0, 0, 0, 1, 1, 3, 3, 3, 0, 3, 0], [0, 0, 3, 0, 0]]
theorem zfk10 : ∀ k, k < 21 → rx_dfok (tyX10 k) = true ∧ rx_fg zfs10 k = rx_df (tyX10 k) := by decide +kernel
theorem zin11 : ∀ w ∈ u_ws RX11 TX11 20, w ∈ lw_tbl := z_in [(4, 170), (4, 172), (4, 174), (4, 176), (4, 178), (4, 180), (4, 182), (4, 184), (4, 186), (4, 188), (4, 190), (4, 192), (4, 194), (4, 196), (4, 198), (4, 200), (4, 202), (4, 204), (4, 206), (4, 208)] rfl
theorem zie11 : ∀ w ∈ u_ws RX11 TX11 20, w ∈ eW (zV b e D A X) := fun w hw => z_e (zin11 w hw) (List.all_eq_true.mp (show (u_ws RX11 TX11 20).all goodWord = true from by decide +kernel) w hw)
theorem zcl11 : rx_Cl (zV b e D A X) 11 RX11 TX11 20 tyX11 := ⟨rfl, zie11, tyX11_ok, nmX11⟩
def zfs11 : List (List Nat) := [[3, 3, 0, 3, 3, 3, 3, 3, 3, 3, 3, 3, 3, 3, 3, 0], [3, 3, 0, 0]]
theorem zfk11 : ∀ k, k < 20 → rx_dfok (tyX11 k) = true ∧ rx_fg zfs11 k = rx_df (tyX11 k) := by decide +kernel
theorem zin12 : ∀ w ∈ u_ws RX12 TX12 21, w ∈ lw_tbl := z_in [(6, 12), (6, 14), (6, 16), (6, 18), (6, 20), (6, 22), (6, 24), (6, 26), (6, 28), (6, 30), (6, 32), (6, 34), (6, 36), (6, 38), (6, 40), (6, 42), (6, 44), (6, 46), (6, 48), (6, 50), (6, 52)] rfl
theorem zie12 : ∀ w ∈ u_ws RX12 TX12 21, w ∈ eW (zV b e D A X) := fun w hw => z_e (zin12 w hw) (List.all_eq_true.mp (show (u_ws RX12 TX12 21).all goodWord = true from by decide +kernel) w hw)
theorem zcl12 : rx_Cl (zV b e D A X) 12 RX12 TX12 21 tyX12 := ⟨rfl, zie12, tyX12_ok, nmX12⟩
def zfs12 : List (List Nat) := [[3, 0, 3, 0, 3, 3, 3, 3, 3, 3, 3, 3, 0, 3, 3, 3], [3, 3, 0, 3, 3]]
theorem zfk12 : ∀ k, k < 21 → rx_dfok (tyX12 k) = true ∧ rx_fg zfs12 k = rx_df (tyX12 k) := by decide +kernel
set_option maxRecDepth 20000 in
theorem zin13 : ∀ w ∈ u_ws RX13 TX13 180, w ∈ lw_tbl := z_in [(17, 48), (17, 50), (17, 52), (17, 54), (17, 56), (17, 58), (17, 60), (17, 62), (17, 64), (17, 66), (17, 68), (17, 70), (17, 72), (17, 74), (17, 76), (17, 78), (17, 80), (17, 82), (17, 84), (17, 86), (17, 88), (17, 90), (17, 92), (17, 94), (17, 96), (17, 98), (17, 100), (17, 102), (17, 104), (17, 106), (17, 108), (17, 110), (17, 112), (17, 114), (17, 116), (17, 118), (17, 120), (17, 122), (17, 124), (17, 126), (17, 128), (17, 130), (17, 132), (17, 134), (17, 136), (17, 138), (17, 140), (17, 142), (17, 144), (17, 146), (17, 148), (17, 150), (17, 152), (17, 154), (17, 156), (17, 158), (17, 160), (17, 162), (17, 164), (17, 166), (17, 168), (17, 170), (17, 172), (17, 174), (17, 176), (17, 178), (17, 180), (17, 182), (17, 184), (17, 186), (17, 188), (17, 190), (17, 192), (17, 194), (17, 196), (17, 198), (17, 200), (17, 202), (17, 204), (17, 206), (17, 208), (17, 210), (17, 212), (17, 214), (17, 216), (17, 218), (17, 220), (17, 222), (17, 224), (17, 226), (17, 228), (17, 230), (17, 232), (17, 234), (17, 236), (17, 238), (18, 0), (18, 2), (18, 4), (18, 6), (18, 8), (18, 10), (18, 12), (18, 14), (18, 16), (18, 18), (18, 20), (18, 22), (18, 24), (18, 26), (18, 28), (18, 30), (18, 32), (18, 34), (18, 36), (18, 38), (18, 40), (18, 42), (18, 44), (18, 46), (18, 48), (18, 50), (18, 52), (18, 54), (18, 56), (18, 58), (18, 60), (18, 62), (18, 64), (18, 66), (18, 68), (18, 70), (18, 72), (18, 74), (18, 76), (18, 78), (18, 80), (18, 82), (18, 84), (18, 86), (18, 88), (18, 90), (18, 92), (18, 94), (18, 96), (18, 98), (18, 100), (18, 102), (18, 104), (18, 106), (18, 108), (18, 110), (18, 112), (18, 114), (18, 116), (18, 118), (18, 120), (18, 122), (18, 124), (18, 126), (18, 128), (18, 130), (18, 132), (18, 134), (18, 136), (18, 138), (18, 140), (18, 142), (18, 144), (18, 146), (18, 148), (18, 150), (18, 152), (18, 154), (18, 156), (18, 158), (18, 160), (18, 162), (18, 164), (18, 166)] rfl
set_option maxRecDepth 20000 in
theorem zie13 : ∀ w ∈ u_ws RX13 TX13 180, w ∈ eW (zV b e D A X) := fun w hw => z_e (zin13 w hw) (List.all_eq_true.mp (show (u_ws RX13 TX13 180).all goodWord = true from by decide +kernel) w hw)
theorem zcl13 : rx_Cl (zV b e D A X) 13 RX13 TX13 180 tyX13 := ⟨rfl, zie13, tyX13_ok, nmX13⟩
def zfs13 : List (List Nat) := [[3, 0, 3, 0, 3, 3, 3, 3, 3, 3, 0, 3, 3, 3, 3, 3], [3, 3, 0, 0, 0, 0, 0, 3, 3, 3, 3, 3, 3, 3, 3, 3], [3, 3, 3, 3, 3, 3, 3, 3, 3, 3, 3, 3, 3, 3, 3, 3], [3, 3, 3, 3, 3, 3, 3, 3, 3, 3, 3, 3, 3, 3, 3, 3], [3, 3, 3, 3, 3, 3, 3, 3, 3, 3, 3, 3, 3, 3, 3, 3], [3, 3, 3, 3, 3, 3, 3, 3, 3, 0, 3, 0, 0, 3, 3, 0], [3, 3, 0, 3, 3, 0, 0, 3, 0, 3, 3, 3, 0, 0, 0, 0], [3, 3, 0, 3, 0, 3, 3, 3, 3, 3, 3, 3, 3, 3, 3, 3], [0, 0, 3, 3, 3, 3, 0, 3, 0, 0, 3, 0, 0, 3, 0, 3], [3, 0, 3, 3, 3, 3, 3, 0, 3, 0, 3, 0, 3, 3, 3, 3], [3, 0, 0, 0, 0, 0, 0, 0, 3, 0, 3, 0, 3, 0, 3, 0], [3, 3, 3, 3]]
theorem zfk13 : ∀ k, k < 180 → rx_dfok (tyX13 k) = true ∧ rx_fg zfs13 k = rx_df (tyX13 k) := by decide +kernel
theorem zaa10 : ∀ ci ∈ [10], ∃ r, (eC (zV b e D A X))[ci]? = some r ∧ (r.1 = "LinkHouse$Row" ∨ Cond.castable r.1 "LinkHouse$Row" ∈ eW (zV b e D A X)) := by
  intro ci h
  rw [List.mem_singleton.mp h]
  exact ⟨_, rfl, Or.inl rfl⟩
theorem zaa7 : ∀ ci ∈ [7], ∃ r, (eC (zV b e D A X))[ci]? = some r ∧ (r.1 = "LinkHouse$Member" ∨ Cond.castable r.1 "LinkHouse$Member" ∈ eW (zV b e D A X)) := by
  intro ci h
  rw [List.mem_singleton.mp h]
  exact ⟨_, rfl, Or.inl rfl⟩
theorem zaa1 : ∀ ci ∈ [1], ∃ r, (eC (zV b e D A X))[ci]? = some r ∧ (r.1 = "LinkHouse$Build" ∨ Cond.castable r.1 "LinkHouse$Build" ∈ eW (zV b e D A X)) := by
  intro ci h
  rw [List.mem_singleton.mp h]
  exact ⟨_, rfl, Or.inl rfl⟩
theorem zaa8 : ∀ ci ∈ [8], ∃ r, (eC (zV b e D A X))[ci]? = some r ∧ (r.1 = "LinkHouse$Node" ∨ Cond.castable r.1 "LinkHouse$Node" ∈ eW (zV b e D A X)) := by
  intro ci h
  rw [List.mem_singleton.mp h]
  exact ⟨_, rfl, Or.inl rfl⟩
def zbsG : List Nat := [8, 16, 24, 40, 56, 72, 80, 104, 160, 168, 176, 184, 200, 240, 248, 256, 264, 280, 296, 328, 400, 408]
def zbs7 : List Nat := [792, 864, 776, 920, 920, 256, 816, 776, 792, 808, 256, 776, 920, 256, 840, 920, 256, 840, 880, 256, 952, 840, 928, 832, 256, 888, 880, 864, 968, 256, 888, 896, 808, 880, 256, 856, 840, 880, 256, 888, 952, 880, 256, 816, 840, 880, 776, 864, 256, 784, 776, 912, 808, 256, 920, 928, 776, 928, 840, 792, 256, 920, 928, 776, 912, 928, 256, 944, 888, 840, 800, 256, 880, 808, 952, 256, 840, 880, 928, 256, 864, 808, 928, 256, 840, 816, 256, 808, 864, 920, 808, 256, 952, 832, 840, 864, 808, 256, 912, 808, 928, 936, 912, 880, 256, 928, 832, 912, 888, 952, 256, 928, 912, 968, 256, 792, 776, 928, 792, 832, 256, 888, 936, 928, 256, 880, 936, 864, 864, 256, 928, 832, 840, 920, 256, 920, 936, 896, 808, 912, 256, 776, 920, 856, 256]
def zbs9 : List Nat := [888, 896, 808, 880, 256]
def zbs11 : List Nat := [816, 840, 880, 776, 864, 256]
def zbs13 : List Nat := [816, 776, 792, 808, 256]
def zbs15 : List Nat := [256, 840, 920, 256]
def zbs17 : List Nat := [256, 776, 920, 256]
def zbs19 : List Nat := [256, 840, 880, 256]
def zbs21 : List Nat := [256, 952, 840, 928, 832, 256]
def zbs23 : List Nat := [256, 888, 880, 864, 968, 256]
def zbs25 : List Nat := [792, 864, 776, 920, 920, 256]
def zbs27 : List Nat := [784, 776, 912, 808, 256]
def zbs29 : List Nat := []
def zbs31 : List Nat := [352]
def zbs33 : List Nat := [784, 912, 840, 800, 824, 808, 256]
def zbs35 : List Nat := [920, 928, 776, 928, 840, 792, 256]
def zbs37 : List Nat := [880, 808, 952]
def zbs39 : List Nat := [256]
def zbs41 : List Nat := [488]
def zbs43 : List Nat := [856, 840, 880, 256]
def zbs45 : List Nat := [888, 952, 880, 256]
def zbs47 : List Nat := [840, 880, 928]
def zbs49 : List Nat := [944, 888, 840, 800]
def zbs51 : List Nat := [320]
def zbs53 : List Nat := [328]
def zbs55 : List Nat := [368]
def zbs57 : List Nat := [464]
def zbs59 : List Nat := [496]
def zbs61 : List Nat := [840, 880, 928]
def zbs63 : List Nat := [944, 888, 840, 800]
def zbs65 : List Nat := [256, 792, 864, 776, 920, 920, 256, 816, 776, 792, 808, 256, 840, 920, 256, 776, 920, 256, 840, 880, 256, 952, 840, 928, 832, 256, 888, 880, 864, 968, 256, 888, 896, 808, 880, 256, 856, 840, 880, 256, 888, 952, 880, 256, 816, 840, 880, 776, 864, 256, 784, 776, 912, 808, 256, 920, 928, 776, 928, 840, 792, 256, 920, 928, 776, 912, 928, 256, 944, 888, 840, 800, 256, 880, 808, 952, 256, 840, 880, 928, 256, 864, 808, 928, 256, 840, 816, 256, 808, 864, 920, 808, 256, 952, 832, 840, 864, 808, 256, 912, 808, 928, 936, 912, 880, 256, 928, 832, 912, 888, 952, 256, 928, 912, 968, 256, 792, 776, 928, 792, 832, 256, 888, 936, 928, 256, 880, 936, 864, 864, 256, 928, 832, 840, 920, 256, 920, 936, 896, 808, 912, 256, 776, 920, 856, 256]
def zbs67 : List Nat := [888, 896, 808, 880]
def zbs69 : List Nat := [816, 840, 880, 776, 864]
def zbs71 : List Nat := [816, 776, 792, 808]
def zbs73 : List Nat := [840, 920]
def zbs75 : List Nat := [776, 920]
def zbs77 : List Nat := [840, 880]
def zbs79 : List Nat := [952, 840, 928, 832]
def zbs81 : List Nat := [888, 880, 864, 968]
def zbs83 : List Nat := [792, 864, 776, 920, 920]
def zbs85 : List Nat := [784, 776, 912, 808]
def zbs87 : List Nat := [856, 840, 880]
def zbs89 : List Nat := [888, 952, 880]
def zbs91 : List Nat := [920, 928, 776, 928, 840, 792]
def zbs93 : List Nat := [880, 808, 952]
def zbs95 : List Nat := [920, 928, 776, 912, 928]
def zbs97 : List Nat := [880, 936, 864, 864]
def zbs99 : List Nat := [928, 832, 840, 920]
def zbs101 : List Nat := [920, 936, 896, 808, 912]
def zbs103 : List Nat := [864, 808, 928]
def zbs105 : List Nat := [840, 816]
def zbs107 : List Nat := [952, 832, 840, 864, 808]
def zbs109 : List Nat := [912, 808, 928, 936, 912, 880]
def zbs111 : List Nat := [928, 832, 912, 888, 952]
def zbs113 : List Nat := [928, 912, 968]
def zbs115 : List Nat := [888, 936, 928]
def zbs117 : List Nat := [808, 864, 920, 808]
def zbs119 : List Nat := [792, 776, 928, 792, 832]
def zbs121 : List Nat := [776, 920, 856]
def zbs123 : List Nat := [792, 888, 800, 808]
def zbs125 : List Nat := [352]
def zbs127 : List Nat := [888, 896, 808, 880, 256]
def zbs129 : List Nat := [816, 840, 880, 776, 864, 256, 792, 864, 776, 920, 920, 256]
def zbs131 : List Nat := [256, 840, 920, 256]
def zbs133 : List Nat := [256, 776, 920, 256]
def zbs135 : List Nat := [256, 840, 880, 256]
def zbs137 : List Nat := [256, 952, 840, 928, 832, 256]
def zbs139 : List Nat := [256, 888, 880, 864, 968, 256]
def zbs141 : List Nat := [784, 776, 912, 808, 256, 792, 864, 776, 920, 920, 256]
def zbs143 : List Nat := [816, 776, 792, 808, 256]
def zbs145 : List Nat := [792, 864, 776, 920, 920, 256]
def zbs147 : List Nat := []
def zbs149 : List Nat := [784, 912, 840, 800, 824, 808, 256]
def zbs151 : List Nat := [920, 928, 776, 928, 840, 792, 256]
def zbs153 : List Nat := [816, 840, 880, 776, 864, 256]
def zbs155 : List Nat := [784, 776, 912, 808, 256]
def zbs157 : List Nat := [856, 840, 880, 256]
def zbs159 : List Nat := [888, 952, 880, 256]
def zO0 (b : Nat) (e : Nat → Value) (D : va_G) (A : Nat → ClassId) (X : State → Prop) : Prop :=
  (∀ s, X s → va_Z "java/lang/String" "COMPACT_STRINGS" "Z" (rx_v (zV b e D A X) 8) (fun q => b ≤ q) s s.heap) ∧
  (∀ s, X s → va_Z "jdk/internal/util/Preconditions" "SIOOBE_FORMATTER" "Ljava/util/function/BiFunction;" (rx_v (zV b e D A X) 44) (fun q => b ≤ q) s s.heap) ∧
  (∀ s, X s → ∀ args, (Cond.arrayOver (.array .int)).before args s = true) ∧
  (∀ s, X s → va_Z "LinkHouseModel" "GREAT" "[I" (rx_v (zV b e D A X) 3204) (fun q => b ≤ q) s s.heap) ∧
  (∀ s, X s → ∃ q, e 400 = .ref q ∧ va_T .int q 22 (fun j => rx_v (zV b e D A X) (rx_nth zbsG j 7)) (fun q => b ≤ q) s s.heap) ∧
  (∀ s, X s → va_Nw (Cond.methodLinkNest RX9 34 yX8_init "LinkHouse") s) ∧
  (∀ s, X s → va_Nw (Cond.methodLinkNest RX12 41 yX4_init "LinkHouse") s) ∧
  (∀ s, X s → va_Nw (Cond.methodLinkNest RX12 48 yX0_init "LinkHouse") s) ∧
  (∀ s, X s → va_Nw (Cond.methodLinkNest RX12 55 yX3_init "LinkHouse") s) ∧
  (∀ s, X s → va_Nw (Cond.methodLinkNest RX1 17 yX10_init "LinkHouse") s) ∧
  (∀ s, X s → va_Nw (Cond.methodLinkNest RX1 24 yX7_init "LinkHouse") s) ∧
  (∀ s, X s → va_Nw (Cond.methodLinkNest RX12 91 yX2_init "LinkHouse") s) ∧
  (∀ s, X s → va_Nw (Cond.methodLinkNest RX12 98 yX6_init "LinkHouse") s) ∧
  (∀ s, X s → va_Nw (Cond.methodLinkNest RX3 260 yX0_target "LinkHouse") s) ∧
  (∀ s, X s → ∀ args, (Cond.arrayOver (.object "LinkHouse$Row")).before args s = true) ∧
  (∀ s, X s → ∀ args, (Cond.arrayOver (.object "LinkHouse$Member")).before args s = true) ∧
  (∀ s, X s → ∀ args, (Cond.arrayOver (.object "LinkHouse$Build")).before args s = true) ∧
  (∀ s, X s → ∀ args, (Cond.arrayOver (.object "LinkHouse$Node")).before args s = true) ∧
  (∀ s, X s → ∃ q, e 6 = .ref q ∧ vk_R RX9 35 "class face as is in with only open kin own final bare static start void new int let if else while return throw try catch out null this super ask " q s) ∧
  (∀ s, X s → ∃ q, e 6 = .ref q ∧ va_OF "java/lang/String" "value" "[B" (rx_v (zV b e D A X) 60) q (fun q => b ≤ q) s s.heap)
def zO1 (b : Nat) (e : Nat → Value) (D : va_G) (A : Nat → ClassId) (X : State → Prop) : Prop :=
  (∀ s, X s → ∃ q, e 6 = .ref q ∧ va_OF "java/lang/String" "coder" "B" (rx_v (zV b e D A X) 0) q (fun q => b ≤ q) s s.heap) ∧
  (∀ s, X s → ∃ q, e 6 = .ref q ∧ va_O "java/lang/String" q (fun q => b ≤ q) s s.heap) ∧
  (∀ s, X s → ∃ q, e 7 = .ref q ∧ va_T .byte q 145 (fun j => rx_v (zV b e D A X) (rx_nth zbs7 j 7)) (fun q => b ≤ q) s s.heap) ∧
  (∀ s, X s → ∃ q, e 8 = .ref q ∧ vk_R RX12 255 "open " q s) ∧
  (∀ s, X s → ∃ q, e 8 = .ref q ∧ va_OF "java/lang/String" "value" "[B" (rx_v (zV b e D A X) 76) q (fun q => b ≤ q) s s.heap) ∧
  (∀ s, X s → ∃ q, e 8 = .ref q ∧ va_OF "java/lang/String" "coder" "B" (rx_v (zV b e D A X) 0) q (fun q => b ≤ q) s s.heap) ∧
  (∀ s, X s → ∃ q, e 8 = .ref q ∧ va_O "java/lang/String" q (fun q => b ≤ q) s s.heap) ∧
  (∀ s, X s → ∃ q, e 9 = .ref q ∧ va_T .byte q 5 (fun j => rx_v (zV b e D A X) (rx_nth zbs9 j 7)) (fun q => b ≤ q) s s.heap) ∧
  (∀ s, X s → ∃ q, e 10 = .ref q ∧ vk_R RX12 266 "final " q s) ∧
  (∀ s, X s → ∃ q, e 10 = .ref q ∧ va_OF "java/lang/String" "value" "[B" (rx_v (zV b e D A X) 92) q (fun q => b ≤ q) s s.heap) ∧
  (∀ s, X s → ∃ q, e 10 = .ref q ∧ va_OF "java/lang/String" "coder" "B" (rx_v (zV b e D A X) 0) q (fun q => b ≤ q) s s.heap) ∧
  (∀ s, X s → ∃ q, e 10 = .ref q ∧ va_O "java/lang/String" q (fun q => b ≤ q) s s.heap) ∧
  (∀ s, X s → ∃ q, e 11 = .ref q ∧ va_T .byte q 6 (fun j => rx_v (zV b e D A X) (rx_nth zbs11 j 7)) (fun q => b ≤ q) s s.heap) ∧
  (∀ s, X s → ∃ q, e 12 = .ref q ∧ vk_R RX12 276 "face " q s) ∧
  (∀ s, X s → ∃ q, e 12 = .ref q ∧ va_OF "java/lang/String" "value" "[B" (rx_v (zV b e D A X) 108) q (fun q => b ≤ q) s s.heap) ∧
  (∀ s, X s → ∃ q, e 12 = .ref q ∧ va_OF "java/lang/String" "coder" "B" (rx_v (zV b e D A X) 0) q (fun q => b ≤ q) s s.heap) ∧
  (∀ s, X s → ∃ q, e 12 = .ref q ∧ va_O "java/lang/String" q (fun q => b ≤ q) s s.heap) ∧
  (∀ s, X s → ∃ q, e 13 = .ref q ∧ va_T .byte q 5 (fun j => rx_v (zV b e D A X) (rx_nth zbs13 j 7)) (fun q => b ≤ q) s s.heap) ∧
  (∀ s, X s → ∃ q, e 14 = .ref q ∧ vk_R RX12 291 " is " q s) ∧
  (∀ s, X s → ∃ q, e 14 = .ref q ∧ va_OF "java/lang/String" "value" "[B" (rx_v (zV b e D A X) 124) q (fun q => b ≤ q) s s.heap)
def zO2 (b : Nat) (e : Nat → Value) (D : va_G) (A : Nat → ClassId) (X : State → Prop) : Prop :=
  (∀ s, X s → ∃ q, e 14 = .ref q ∧ va_OF "java/lang/String" "coder" "B" (rx_v (zV b e D A X) 0) q (fun q => b ≤ q) s s.heap) ∧
  (∀ s, X s → ∃ q, e 14 = .ref q ∧ va_O "java/lang/String" q (fun q => b ≤ q) s s.heap) ∧
  (∀ s, X s → ∃ q, e 15 = .ref q ∧ va_T .byte q 4 (fun j => rx_v (zV b e D A X) (rx_nth zbs15 j 7)) (fun q => b ≤ q) s s.heap) ∧
  (∀ s, X s → ∃ q, e 16 = .ref q ∧ vk_R RX12 296 " as " q s) ∧
  (∀ s, X s → ∃ q, e 16 = .ref q ∧ va_OF "java/lang/String" "value" "[B" (rx_v (zV b e D A X) 140) q (fun q => b ≤ q) s s.heap) ∧
  (∀ s, X s → ∃ q, e 16 = .ref q ∧ va_OF "java/lang/String" "coder" "B" (rx_v (zV b e D A X) 0) q (fun q => b ≤ q) s s.heap) ∧
  (∀ s, X s → ∃ q, e 16 = .ref q ∧ va_O "java/lang/String" q (fun q => b ≤ q) s s.heap) ∧
  (∀ s, X s → ∃ q, e 17 = .ref q ∧ va_T .byte q 4 (fun j => rx_v (zV b e D A X) (rx_nth zbs17 j 7)) (fun q => b ≤ q) s s.heap) ∧
  (∀ s, X s → ∃ q, e 18 = .ref q ∧ vk_R RX12 307 " in " q s) ∧
  (∀ s, X s → ∃ q, e 18 = .ref q ∧ va_OF "java/lang/String" "value" "[B" (rx_v (zV b e D A X) 156) q (fun q => b ≤ q) s s.heap) ∧
  (∀ s, X s → ∃ q, e 18 = .ref q ∧ va_OF "java/lang/String" "coder" "B" (rx_v (zV b e D A X) 0) q (fun q => b ≤ q) s s.heap) ∧
  (∀ s, X s → ∃ q, e 18 = .ref q ∧ va_O "java/lang/String" q (fun q => b ≤ q) s s.heap) ∧
  (∀ s, X s → ∃ q, e 19 = .ref q ∧ va_T .byte q 4 (fun j => rx_v (zV b e D A X) (rx_nth zbs19 j 7)) (fun q => b ≤ q) s s.heap) ∧
  (∀ s, X s → ∃ q, e 20 = .ref q ∧ vk_R RX12 309 " with " q s) ∧
  (∀ s, X s → ∃ q, e 20 = .ref q ∧ va_OF "java/lang/String" "value" "[B" (rx_v (zV b e D A X) 172) q (fun q => b ≤ q) s s.heap) ∧
  (∀ s, X s → ∃ q, e 20 = .ref q ∧ va_OF "java/lang/String" "coder" "B" (rx_v (zV b e D A X) 0) q (fun q => b ≤ q) s s.heap) ∧
  (∀ s, X s → ∃ q, e 20 = .ref q ∧ va_O "java/lang/String" q (fun q => b ≤ q) s s.heap) ∧
  (∀ s, X s → ∃ q, e 21 = .ref q ∧ va_T .byte q 6 (fun j => rx_v (zV b e D A X) (rx_nth zbs21 j 7)) (fun q => b ≤ q) s s.heap) ∧
  (∀ s, X s → ∃ q, e 22 = .ref q ∧ vk_R RX12 311 " only " q s) ∧
  (∀ s, X s → ∃ q, e 22 = .ref q ∧ va_OF "java/lang/String" "value" "[B" (rx_v (zV b e D A X) 188) q (fun q => b ≤ q) s s.heap)
def zO3 (b : Nat) (e : Nat → Value) (D : va_G) (A : Nat → ClassId) (X : State → Prop) : Prop :=
  (∀ s, X s → ∃ q, e 22 = .ref q ∧ va_OF "java/lang/String" "coder" "B" (rx_v (zV b e D A X) 0) q (fun q => b ≤ q) s s.heap) ∧
  (∀ s, X s → ∃ q, e 22 = .ref q ∧ va_O "java/lang/String" q (fun q => b ≤ q) s s.heap) ∧
  (∀ s, X s → ∃ q, e 23 = .ref q ∧ va_T .byte q 6 (fun j => rx_v (zV b e D A X) (rx_nth zbs23 j 7)) (fun q => b ≤ q) s s.heap) ∧
  (∀ s, X s → ∃ q, e 24 = .ref q ∧ vk_R RX12 278 "class " q s) ∧
  (∀ s, X s → ∃ q, e 24 = .ref q ∧ va_OF "java/lang/String" "value" "[B" (rx_v (zV b e D A X) 204) q (fun q => b ≤ q) s s.heap) ∧
  (∀ s, X s → ∃ q, e 24 = .ref q ∧ va_OF "java/lang/String" "coder" "B" (rx_v (zV b e D A X) 0) q (fun q => b ≤ q) s s.heap) ∧
  (∀ s, X s → ∃ q, e 24 = .ref q ∧ va_O "java/lang/String" q (fun q => b ≤ q) s s.heap) ∧
  (∀ s, X s → ∃ q, e 25 = .ref q ∧ va_T .byte q 6 (fun j => rx_v (zV b e D A X) (rx_nth zbs25 j 7)) (fun q => b ≤ q) s s.heap) ∧
  (∀ s, X s → ∃ q, e 26 = .ref q ∧ vk_R RX12 271 "bare " q s) ∧
  (∀ s, X s → ∃ q, e 26 = .ref q ∧ va_OF "java/lang/String" "value" "[B" (rx_v (zV b e D A X) 220) q (fun q => b ≤ q) s s.heap) ∧
  (∀ s, X s → ∃ q, e 26 = .ref q ∧ va_OF "java/lang/String" "coder" "B" (rx_v (zV b e D A X) 0) q (fun q => b ≤ q) s s.heap) ∧
  (∀ s, X s → ∃ q, e 26 = .ref q ∧ va_O "java/lang/String" q (fun q => b ≤ q) s s.heap) ∧
  (∀ s, X s → ∃ q, e 27 = .ref q ∧ va_T .byte q 5 (fun j => rx_v (zV b e D A X) (rx_nth zbs27 j 7)) (fun q => b ≤ q) s s.heap) ∧
  (∀ s, X s → ∃ q, e 28 = .ref q ∧ vk_R RX12 257 "" q s) ∧
  (∀ s, X s → ∃ q, e 28 = .ref q ∧ va_OF "java/lang/String" "value" "[B" (rx_v (zV b e D A X) 236) q (fun q => b ≤ q) s s.heap) ∧
  (∀ s, X s → ∃ q, e 28 = .ref q ∧ va_OF "java/lang/String" "coder" "B" (rx_v (zV b e D A X) 0) q (fun q => b ≤ q) s s.heap) ∧
  (∀ s, X s → ∃ q, e 28 = .ref q ∧ va_O "java/lang/String" q (fun q => b ≤ q) s s.heap) ∧
  (∀ s, X s → ∃ q, e 29 = .ref q ∧ va_T .byte q 0 (fun j => rx_v (zV b e D A X) (rx_nth zbs29 j 7)) (fun q => b ≤ q) s s.heap) ∧
  (∀ s, X s → ∃ q, e 30 = .ref q ∧ vk_R RX12 316 "," q s) ∧
  (∀ s, X s → ∃ q, e 30 = .ref q ∧ va_OF "java/lang/String" "value" "[B" (rx_v (zV b e D A X) 252) q (fun q => b ≤ q) s s.heap)
def zO4 (b : Nat) (e : Nat → Value) (D : va_G) (A : Nat → ClassId) (X : State → Prop) : Prop :=
  (∀ s, X s → ∃ q, e 30 = .ref q ∧ va_OF "java/lang/String" "coder" "B" (rx_v (zV b e D A X) 0) q (fun q => b ≤ q) s s.heap) ∧
  (∀ s, X s → ∃ q, e 30 = .ref q ∧ va_O "java/lang/String" q (fun q => b ≤ q) s s.heap) ∧
  (∀ s, X s → ∃ q, e 31 = .ref q ∧ va_T .byte q 1 (fun j => rx_v (zV b e D A X) (rx_nth zbs31 j 7)) (fun q => b ≤ q) s s.heap) ∧
  (∀ s, X s → ∃ q, e 32 = .ref q ∧ vk_R RX12 327 "bridge " q s) ∧
  (∀ s, X s → ∃ q, e 32 = .ref q ∧ va_OF "java/lang/String" "value" "[B" (rx_v (zV b e D A X) 268) q (fun q => b ≤ q) s s.heap) ∧
  (∀ s, X s → ∃ q, e 32 = .ref q ∧ va_OF "java/lang/String" "coder" "B" (rx_v (zV b e D A X) 0) q (fun q => b ≤ q) s s.heap) ∧
  (∀ s, X s → ∃ q, e 32 = .ref q ∧ va_O "java/lang/String" q (fun q => b ≤ q) s s.heap) ∧
  (∀ s, X s → ∃ q, e 33 = .ref q ∧ va_T .byte q 7 (fun j => rx_v (zV b e D A X) (rx_nth zbs33 j 7)) (fun q => b ≤ q) s s.heap) ∧
  (∀ s, X s → ∃ q, e 34 = .ref q ∧ vk_R RX12 339 "static " q s) ∧
  (∀ s, X s → ∃ q, e 34 = .ref q ∧ va_OF "java/lang/String" "value" "[B" (rx_v (zV b e D A X) 284) q (fun q => b ≤ q) s s.heap) ∧
  (∀ s, X s → ∃ q, e 34 = .ref q ∧ va_OF "java/lang/String" "coder" "B" (rx_v (zV b e D A X) 0) q (fun q => b ≤ q) s s.heap) ∧
  (∀ s, X s → ∃ q, e 34 = .ref q ∧ va_O "java/lang/String" q (fun q => b ≤ q) s s.heap) ∧
  (∀ s, X s → ∃ q, e 35 = .ref q ∧ va_T .byte q 7 (fun j => rx_v (zV b e D A X) (rx_nth zbs35 j 7)) (fun q => b ≤ q) s s.heap) ∧
  (∀ s, X s → ∃ q, e 36 = .ref q ∧ vk_R RX12 346 "new" q s) ∧
  (∀ s, X s → ∃ q, e 36 = .ref q ∧ va_OF "java/lang/String" "value" "[B" (rx_v (zV b e D A X) 300) q (fun q => b ≤ q) s s.heap) ∧
  (∀ s, X s → ∃ q, e 36 = .ref q ∧ va_OF "java/lang/String" "coder" "B" (rx_v (zV b e D A X) 0) q (fun q => b ≤ q) s s.heap) ∧
  (∀ s, X s → ∃ q, e 36 = .ref q ∧ va_O "java/lang/String" q (fun q => b ≤ q) s s.heap) ∧
  (∀ s, X s → ∃ q, e 37 = .ref q ∧ va_T .byte q 3 (fun j => rx_v (zV b e D A X) (rx_nth zbs37 j 7)) (fun q => b ≤ q) s s.heap) ∧
  (∀ s, X s → ∃ q, e 38 = .ref q ∧ vk_R RX12 354 " " q s) ∧
  (∀ s, X s → ∃ q, e 38 = .ref q ∧ va_OF "java/lang/String" "value" "[B" (rx_v (zV b e D A X) 316) q (fun q => b ≤ q) s s.heap)
def zO5 (b : Nat) (e : Nat → Value) (D : va_G) (A : Nat → ClassId) (X : State → Prop) : Prop :=
  (∀ s, X s → ∃ q, e 38 = .ref q ∧ va_OF "java/lang/String" "coder" "B" (rx_v (zV b e D A X) 0) q (fun q => b ≤ q) s s.heap) ∧
  (∀ s, X s → ∃ q, e 38 = .ref q ∧ va_O "java/lang/String" q (fun q => b ≤ q) s s.heap) ∧
  (∀ s, X s → ∃ q, e 39 = .ref q ∧ va_T .byte q 1 (fun j => rx_v (zV b e D A X) (rx_nth zbs39 j 7)) (fun q => b ≤ q) s s.heap) ∧
  (∀ s, X s → ∃ q, e 40 = .ref q ∧ vk_R RX12 363 "=" q s) ∧
  (∀ s, X s → ∃ q, e 40 = .ref q ∧ va_OF "java/lang/String" "value" "[B" (rx_v (zV b e D A X) 332) q (fun q => b ≤ q) s s.heap) ∧
  (∀ s, X s → ∃ q, e 40 = .ref q ∧ va_OF "java/lang/String" "coder" "B" (rx_v (zV b e D A X) 0) q (fun q => b ≤ q) s s.heap) ∧
  (∀ s, X s → ∃ q, e 40 = .ref q ∧ va_O "java/lang/String" q (fun q => b ≤ q) s s.heap) ∧
  (∀ s, X s → ∃ q, e 41 = .ref q ∧ va_T .byte q 1 (fun j => rx_v (zV b e D A X) (rx_nth zbs41 j 7)) (fun q => b ≤ q) s s.heap) ∧
  (∀ s, X s → ∃ q, e 42 = .ref q ∧ vk_R RX12 332 "kin " q s) ∧
  (∀ s, X s → ∃ q, e 42 = .ref q ∧ va_OF "java/lang/String" "value" "[B" (rx_v (zV b e D A X) 348) q (fun q => b ≤ q) s s.heap) ∧
  (∀ s, X s → ∃ q, e 42 = .ref q ∧ va_OF "java/lang/String" "coder" "B" (rx_v (zV b e D A X) 0) q (fun q => b ≤ q) s s.heap) ∧
  (∀ s, X s → ∃ q, e 42 = .ref q ∧ va_O "java/lang/String" q (fun q => b ≤ q) s s.heap) ∧
  (∀ s, X s → ∃ q, e 43 = .ref q ∧ va_T .byte q 4 (fun j => rx_v (zV b e D A X) (rx_nth zbs43 j 7)) (fun q => b ≤ q) s s.heap) ∧
  (∀ s, X s → ∃ q, e 44 = .ref q ∧ vk_R RX12 334 "own " q s) ∧
  (∀ s, X s → ∃ q, e 44 = .ref q ∧ va_OF "java/lang/String" "value" "[B" (rx_v (zV b e D A X) 364) q (fun q => b ≤ q) s s.heap) ∧
  (∀ s, X s → ∃ q, e 44 = .ref q ∧ va_OF "java/lang/String" "coder" "B" (rx_v (zV b e D A X) 0) q (fun q => b ≤ q) s s.heap) ∧
  (∀ s, X s → ∃ q, e 44 = .ref q ∧ va_O "java/lang/String" q (fun q => b ≤ q) s s.heap) ∧
  (∀ s, X s → ∃ q, e 45 = .ref q ∧ va_T .byte q 4 (fun j => rx_v (zV b e D A X) (rx_nth zbs45 j 7)) (fun q => b ≤ q) s s.heap) ∧
  (∀ s, X s → ∃ q, e 46 = .ref q ∧ vk_R RX12 388 "int" q s) ∧
  (∀ s, X s → ∃ q, e 46 = .ref q ∧ va_OF "java/lang/String" "value" "[B" (rx_v (zV b e D A X) 380) q (fun q => b ≤ q) s s.heap)
def zO6 (b : Nat) (e : Nat → Value) (D : va_G) (A : Nat → ClassId) (X : State → Prop) : Prop :=
  (∀ s, X s → ∃ q, e 46 = .ref q ∧ va_OF "java/lang/String" "coder" "B" (rx_v (zV b e D A X) 0) q (fun q => b ≤ q) s s.heap) ∧
  (∀ s, X s → ∃ q, e 46 = .ref q ∧ va_O "java/lang/String" q (fun q => b ≤ q) s s.heap) ∧
  (∀ s, X s → ∃ q, e 47 = .ref q ∧ va_T .byte q 3 (fun j => rx_v (zV b e D A X) (rx_nth zbs47 j 7)) (fun q => b ≤ q) s s.heap) ∧
  (∀ s, X s → ∃ q, e 48 = .ref q ∧ vk_R RX12 390 "void" q s) ∧
  (∀ s, X s → ∃ q, e 48 = .ref q ∧ va_OF "java/lang/String" "value" "[B" (rx_v (zV b e D A X) 396) q (fun q => b ≤ q) s s.heap) ∧
  (∀ s, X s → ∃ q, e 48 = .ref q ∧ va_OF "java/lang/String" "coder" "B" (rx_v (zV b e D A X) 0) q (fun q => b ≤ q) s s.heap) ∧
  (∀ s, X s → ∃ q, e 48 = .ref q ∧ va_O "java/lang/String" q (fun q => b ≤ q) s s.heap) ∧
  (∀ s, X s → ∃ q, e 49 = .ref q ∧ va_T .byte q 4 (fun j => rx_v (zV b e D A X) (rx_nth zbs49 j 7)) (fun q => b ≤ q) s s.heap) ∧
  (∀ s, X s → ∃ q, e 50 = .ref q ∧ vk_R RX12 399 "(" q s) ∧
  (∀ s, X s → ∃ q, e 50 = .ref q ∧ va_OF "java/lang/String" "value" "[B" (rx_v (zV b e D A X) 412) q (fun q => b ≤ q) s s.heap) ∧
  (∀ s, X s → ∃ q, e 50 = .ref q ∧ va_OF "java/lang/String" "coder" "B" (rx_v (zV b e D A X) 0) q (fun q => b ≤ q) s s.heap) ∧
  (∀ s, X s → ∃ q, e 50 = .ref q ∧ va_O "java/lang/String" q (fun q => b ≤ q) s s.heap) ∧
  (∀ s, X s → ∃ q, e 51 = .ref q ∧ va_T .byte q 1 (fun j => rx_v (zV b e D A X) (rx_nth zbs51 j 7)) (fun q => b ≤ q) s s.heap) ∧
  (∀ s, X s → ∃ q, e 52 = .ref q ∧ vk_R RX12 408 ")" q s) ∧
  (∀ s, X s → ∃ q, e 52 = .ref q ∧ va_OF "java/lang/String" "value" "[B" (rx_v (zV b e D A X) 428) q (fun q => b ≤ q) s s.heap) ∧
  (∀ s, X s → ∃ q, e 52 = .ref q ∧ va_OF "java/lang/String" "coder" "B" (rx_v (zV b e D A X) 0) q (fun q => b ≤ q) s s.heap) ∧
  (∀ s, X s → ∃ q, e 52 = .ref q ∧ va_O "java/lang/String" q (fun q => b ≤ q) s s.heap) ∧
  (∀ s, X s → ∃ q, e 53 = .ref q ∧ va_T .byte q 1 (fun j => rx_v (zV b e D A X) (rx_nth zbs53 j 7)) (fun q => b ≤ q) s s.heap) ∧
  (∀ s, X s → ∃ q, e 54 = .ref q ∧ vk_R RX12 410 "." q s) ∧
  (∀ s, X s → ∃ q, e 54 = .ref q ∧ va_OF "java/lang/String" "value" "[B" (rx_v (zV b e D A X) 444) q (fun q => b ≤ q) s s.heap)
def zO7 (b : Nat) (e : Nat → Value) (D : va_G) (A : Nat → ClassId) (X : State → Prop) : Prop :=
  (∀ s, X s → ∃ q, e 54 = .ref q ∧ va_OF "java/lang/String" "coder" "B" (rx_v (zV b e D A X) 0) q (fun q => b ≤ q) s s.heap) ∧
  (∀ s, X s → ∃ q, e 54 = .ref q ∧ va_O "java/lang/String" q (fun q => b ≤ q) s s.heap) ∧
  (∀ s, X s → ∃ q, e 55 = .ref q ∧ va_T .byte q 1 (fun j => rx_v (zV b e D A X) (rx_nth zbs55 j 7)) (fun q => b ≤ q) s s.heap) ∧
  (∀ s, X s → ∃ q, e 56 = .ref q ∧ vk_R RX12 412 ":" q s) ∧
  (∀ s, X s → ∃ q, e 56 = .ref q ∧ va_OF "java/lang/String" "value" "[B" (rx_v (zV b e D A X) 460) q (fun q => b ≤ q) s s.heap) ∧
  (∀ s, X s → ∃ q, e 56 = .ref q ∧ va_OF "java/lang/String" "coder" "B" (rx_v (zV b e D A X) 0) q (fun q => b ≤ q) s s.heap) ∧
  (∀ s, X s → ∃ q, e 56 = .ref q ∧ va_O "java/lang/String" q (fun q => b ≤ q) s s.heap) ∧
  (∀ s, X s → ∃ q, e 57 = .ref q ∧ va_T .byte q 1 (fun j => rx_v (zV b e D A X) (rx_nth zbs57 j 7)) (fun q => b ≤ q) s s.heap) ∧
  (∀ s, X s → ∃ q, e 58 = .ref q ∧ vk_R RX12 440 ">" q s) ∧
  (∀ s, X s → ∃ q, e 58 = .ref q ∧ va_OF "java/lang/String" "value" "[B" (rx_v (zV b e D A X) 476) q (fun q => b ≤ q) s s.heap) ∧
  (∀ s, X s → ∃ q, e 58 = .ref q ∧ va_OF "java/lang/String" "coder" "B" (rx_v (zV b e D A X) 0) q (fun q => b ≤ q) s s.heap) ∧
  (∀ s, X s → ∃ q, e 58 = .ref q ∧ va_O "java/lang/String" q (fun q => b ≤ q) s s.heap) ∧
  (∀ s, X s → ∃ q, e 59 = .ref q ∧ va_T .byte q 1 (fun j => rx_v (zV b e D A X) (rx_nth zbs59 j 7)) (fun q => b ≤ q) s s.heap) ∧
  (∀ s, X s → ∃ q, e 60 = .ref q ∧ vk_R RX13 45 "int" q s) ∧
  (∀ s, X s → ∃ q, e 60 = .ref q ∧ va_OF "java/lang/String" "value" "[B" (rx_v (zV b e D A X) 492) q (fun q => b ≤ q) s s.heap) ∧
  (∀ s, X s → ∃ q, e 60 = .ref q ∧ va_OF "java/lang/String" "coder" "B" (rx_v (zV b e D A X) 0) q (fun q => b ≤ q) s s.heap) ∧
  (∀ s, X s → ∃ q, e 60 = .ref q ∧ va_O "java/lang/String" q (fun q => b ≤ q) s s.heap) ∧
  (∀ s, X s → ∃ q, e 61 = .ref q ∧ va_T .byte q 3 (fun j => rx_v (zV b e D A X) (rx_nth zbs61 j 7)) (fun q => b ≤ q) s s.heap) ∧
  (∀ s, X s → ∃ q, e 62 = .ref q ∧ vk_R RX13 51 "void" q s) ∧
  (∀ s, X s → ∃ q, e 62 = .ref q ∧ va_OF "java/lang/String" "value" "[B" (rx_v (zV b e D A X) 508) q (fun q => b ≤ q) s s.heap)
def zO8 (b : Nat) (e : Nat → Value) (D : va_G) (A : Nat → ClassId) (X : State → Prop) : Prop :=
  (∀ s, X s → ∃ q, e 62 = .ref q ∧ va_OF "java/lang/String" "coder" "B" (rx_v (zV b e D A X) 0) q (fun q => b ≤ q) s s.heap) ∧
  (∀ s, X s → ∃ q, e 62 = .ref q ∧ va_O "java/lang/String" q (fun q => b ≤ q) s s.heap) ∧
  (∀ s, X s → ∃ q, e 63 = .ref q ∧ va_T .byte q 4 (fun j => rx_v (zV b e D A X) (rx_nth zbs63 j 7)) (fun q => b ≤ q) s s.heap) ∧
  (∀ s, X s → ∃ q, e 64 = .ref q ∧ vk_R RX13 69 " class face is as in with only open kin own final bare static start void new int let if else while return throw try catch out null this super ask " q s) ∧
  (∀ s, X s → ∃ q, e 64 = .ref q ∧ va_OF "java/lang/String" "value" "[B" (rx_v (zV b e D A X) 524) q (fun q => b ≤ q) s s.heap) ∧
  (∀ s, X s → ∃ q, e 64 = .ref q ∧ va_OF "java/lang/String" "coder" "B" (rx_v (zV b e D A X) 0) q (fun q => b ≤ q) s s.heap) ∧
  (∀ s, X s → ∃ q, e 64 = .ref q ∧ va_O "java/lang/String" q (fun q => b ≤ q) s s.heap) ∧
  (∀ s, X s → ∃ q, e 65 = .ref q ∧ va_T .byte q 146 (fun j => rx_v (zV b e D A X) (rx_nth zbs65 j 7)) (fun q => b ≤ q) s s.heap) ∧
  (∀ s, X s → ∃ q, e 66 = .ref q ∧ vk_R RX13 236 "open" q s) ∧
  (∀ s, X s → ∃ q, e 66 = .ref q ∧ va_OF "java/lang/String" "value" "[B" (rx_v (zV b e D A X) 540) q (fun q => b ≤ q) s s.heap) ∧
  (∀ s, X s → ∃ q, e 66 = .ref q ∧ va_OF "java/lang/String" "coder" "B" (rx_v (zV b e D A X) 0) q (fun q => b ≤ q) s s.heap) ∧
  (∀ s, X s → ∃ q, e 66 = .ref q ∧ va_O "java/lang/String" q (fun q => b ≤ q) s s.heap) ∧
  (∀ s, X s → ∃ q, e 67 = .ref q ∧ va_T .byte q 4 (fun j => rx_v (zV b e D A X) (rx_nth zbs67 j 7)) (fun q => b ≤ q) s s.heap) ∧
  (∀ s, X s → ∃ q, e 68 = .ref q ∧ vk_R RX13 241 "final" q s) ∧
  (∀ s, X s → ∃ q, e 68 = .ref q ∧ va_OF "java/lang/String" "value" "[B" (rx_v (zV b e D A X) 556) q (fun q => b ≤ q) s s.heap) ∧
  (∀ s, X s → ∃ q, e 68 = .ref q ∧ va_OF "java/lang/String" "coder" "B" (rx_v (zV b e D A X) 0) q (fun q => b ≤ q) s s.heap) ∧
  (∀ s, X s → ∃ q, e 68 = .ref q ∧ va_O "java/lang/String" q (fun q => b ≤ q) s s.heap) ∧
  (∀ s, X s → ∃ q, e 69 = .ref q ∧ va_T .byte q 5 (fun j => rx_v (zV b e D A X) (rx_nth zbs69 j 7)) (fun q => b ≤ q) s s.heap) ∧
  (∀ s, X s → ∃ q, e 70 = .ref q ∧ vk_R RX13 245 "face" q s) ∧
  (∀ s, X s → ∃ q, e 70 = .ref q ∧ va_OF "java/lang/String" "value" "[B" (rx_v (zV b e D A X) 572) q (fun q => b ≤ q) s s.heap)
def zO9 (b : Nat) (e : Nat → Value) (D : va_G) (A : Nat → ClassId) (X : State → Prop) : Prop :=
  (∀ s, X s → ∃ q, e 70 = .ref q ∧ va_OF "java/lang/String" "coder" "B" (rx_v (zV b e D A X) 0) q (fun q => b ≤ q) s s.heap) ∧
  (∀ s, X s → ∃ q, e 70 = .ref q ∧ va_O "java/lang/String" q (fun q => b ≤ q) s s.heap) ∧
  (∀ s, X s → ∃ q, e 71 = .ref q ∧ va_T .byte q 4 (fun j => rx_v (zV b e D A X) (rx_nth zbs71 j 7)) (fun q => b ≤ q) s s.heap) ∧
  (∀ s, X s → ∃ q, e 72 = .ref q ∧ vk_R RX13 278 "is" q s) ∧
  (∀ s, X s → ∃ q, e 72 = .ref q ∧ va_OF "java/lang/String" "value" "[B" (rx_v (zV b e D A X) 588) q (fun q => b ≤ q) s s.heap) ∧
  (∀ s, X s → ∃ q, e 72 = .ref q ∧ va_OF "java/lang/String" "coder" "B" (rx_v (zV b e D A X) 0) q (fun q => b ≤ q) s s.heap) ∧
  (∀ s, X s → ∃ q, e 72 = .ref q ∧ va_O "java/lang/String" q (fun q => b ≤ q) s s.heap) ∧
  (∀ s, X s → ∃ q, e 73 = .ref q ∧ va_T .byte q 2 (fun j => rx_v (zV b e D A X) (rx_nth zbs73 j 7)) (fun q => b ≤ q) s s.heap) ∧
  (∀ s, X s → ∃ q, e 74 = .ref q ∧ vk_R RX13 286 "as" q s) ∧
  (∀ s, X s → ∃ q, e 74 = .ref q ∧ va_OF "java/lang/String" "value" "[B" (rx_v (zV b e D A X) 604) q (fun q => b ≤ q) s s.heap) ∧
  (∀ s, X s → ∃ q, e 74 = .ref q ∧ va_OF "java/lang/String" "coder" "B" (rx_v (zV b e D A X) 0) q (fun q => b ≤ q) s s.heap) ∧
  (∀ s, X s → ∃ q, e 74 = .ref q ∧ va_O "java/lang/String" q (fun q => b ≤ q) s s.heap) ∧
  (∀ s, X s → ∃ q, e 75 = .ref q ∧ va_T .byte q 2 (fun j => rx_v (zV b e D A X) (rx_nth zbs75 j 7)) (fun q => b ≤ q) s s.heap) ∧
  (∀ s, X s → ∃ q, e 76 = .ref q ∧ vk_R RX13 298 "in" q s) ∧
  (∀ s, X s → ∃ q, e 76 = .ref q ∧ va_OF "java/lang/String" "value" "[B" (rx_v (zV b e D A X) 620) q (fun q => b ≤ q) s s.heap) ∧
  (∀ s, X s → ∃ q, e 76 = .ref q ∧ va_OF "java/lang/String" "coder" "B" (rx_v (zV b e D A X) 0) q (fun q => b ≤ q) s s.heap) ∧
  (∀ s, X s → ∃ q, e 76 = .ref q ∧ va_O "java/lang/String" q (fun q => b ≤ q) s s.heap) ∧
  (∀ s, X s → ∃ q, e 77 = .ref q ∧ va_T .byte q 2 (fun j => rx_v (zV b e D A X) (rx_nth zbs77 j 7)) (fun q => b ≤ q) s s.heap) ∧
  (∀ s, X s → ∃ q, e 78 = .ref q ∧ vk_R RX13 306 "with" q s) ∧
  (∀ s, X s → ∃ q, e 78 = .ref q ∧ va_OF "java/lang/String" "value" "[B" (rx_v (zV b e D A X) 636) q (fun q => b ≤ q) s s.heap)
def zO10 (b : Nat) (e : Nat → Value) (D : va_G) (A : Nat → ClassId) (X : State → Prop) : Prop :=
  (∀ s, X s → ∃ q, e 78 = .ref q ∧ va_OF "java/lang/String" "coder" "B" (rx_v (zV b e D A X) 0) q (fun q => b ≤ q) s s.heap) ∧
  (∀ s, X s → ∃ q, e 78 = .ref q ∧ va_O "java/lang/String" q (fun q => b ≤ q) s s.heap) ∧
  (∀ s, X s → ∃ q, e 79 = .ref q ∧ va_T .byte q 4 (fun j => rx_v (zV b e D A X) (rx_nth zbs79 j 7)) (fun q => b ≤ q) s s.heap) ∧
  (∀ s, X s → ∃ q, e 80 = .ref q ∧ vk_R RX13 317 "only" q s) ∧
  (∀ s, X s → ∃ q, e 80 = .ref q ∧ va_OF "java/lang/String" "value" "[B" (rx_v (zV b e D A X) 652) q (fun q => b ≤ q) s s.heap) ∧
  (∀ s, X s → ∃ q, e 80 = .ref q ∧ va_OF "java/lang/String" "coder" "B" (rx_v (zV b e D A X) 0) q (fun q => b ≤ q) s s.heap) ∧
  (∀ s, X s → ∃ q, e 80 = .ref q ∧ va_O "java/lang/String" q (fun q => b ≤ q) s s.heap) ∧
  (∀ s, X s → ∃ q, e 81 = .ref q ∧ va_T .byte q 4 (fun j => rx_v (zV b e D A X) (rx_nth zbs81 j 7)) (fun q => b ≤ q) s s.heap) ∧
  (∀ s, X s → ∃ q, e 82 = .ref q ∧ vk_R RX13 247 "class" q s) ∧
  (∀ s, X s → ∃ q, e 82 = .ref q ∧ va_OF "java/lang/String" "value" "[B" (rx_v (zV b e D A X) 668) q (fun q => b ≤ q) s s.heap) ∧
  (∀ s, X s → ∃ q, e 82 = .ref q ∧ va_OF "java/lang/String" "coder" "B" (rx_v (zV b e D A X) 0) q (fun q => b ≤ q) s s.heap) ∧
  (∀ s, X s → ∃ q, e 82 = .ref q ∧ va_O "java/lang/String" q (fun q => b ≤ q) s s.heap) ∧
  (∀ s, X s → ∃ q, e 83 = .ref q ∧ va_T .byte q 5 (fun j => rx_v (zV b e D A X) (rx_nth zbs83 j 7)) (fun q => b ≤ q) s s.heap) ∧
  (∀ s, X s → ∃ q, e 84 = .ref q ∧ vk_R RX13 243 "bare" q s) ∧
  (∀ s, X s → ∃ q, e 84 = .ref q ∧ va_OF "java/lang/String" "value" "[B" (rx_v (zV b e D A X) 684) q (fun q => b ≤ q) s s.heap) ∧
  (∀ s, X s → ∃ q, e 84 = .ref q ∧ va_OF "java/lang/String" "coder" "B" (rx_v (zV b e D A X) 0) q (fun q => b ≤ q) s s.heap) ∧
  (∀ s, X s → ∃ q, e 84 = .ref q ∧ va_O "java/lang/String" q (fun q => b ≤ q) s s.heap) ∧
  (∀ s, X s → ∃ q, e 85 = .ref q ∧ va_T .byte q 4 (fun j => rx_v (zV b e D A X) (rx_nth zbs85 j 7)) (fun q => b ≤ q) s s.heap) ∧
  (∀ s, X s → ∃ q, e 86 = .ref q ∧ vk_R RX13 331 "kin" q s) ∧
  (∀ s, X s → ∃ q, e 86 = .ref q ∧ va_OF "java/lang/String" "value" "[B" (rx_v (zV b e D A X) 700) q (fun q => b ≤ q) s s.heap)
def zO11 (b : Nat) (e : Nat → Value) (D : va_G) (A : Nat → ClassId) (X : State → Prop) : Prop :=
  (∀ s, X s → ∃ q, e 86 = .ref q ∧ va_OF "java/lang/String" "coder" "B" (rx_v (zV b e D A X) 0) q (fun q => b ≤ q) s s.heap) ∧
  (∀ s, X s → ∃ q, e 86 = .ref q ∧ va_O "java/lang/String" q (fun q => b ≤ q) s s.heap) ∧
  (∀ s, X s → ∃ q, e 87 = .ref q ∧ va_T .byte q 3 (fun j => rx_v (zV b e D A X) (rx_nth zbs87 j 7)) (fun q => b ≤ q) s s.heap) ∧
  (∀ s, X s → ∃ q, e 88 = .ref q ∧ vk_R RX13 333 "own" q s) ∧
  (∀ s, X s → ∃ q, e 88 = .ref q ∧ va_OF "java/lang/String" "value" "[B" (rx_v (zV b e D A X) 716) q (fun q => b ≤ q) s s.heap) ∧
  (∀ s, X s → ∃ q, e 88 = .ref q ∧ va_OF "java/lang/String" "coder" "B" (rx_v (zV b e D A X) 0) q (fun q => b ≤ q) s s.heap) ∧
  (∀ s, X s → ∃ q, e 88 = .ref q ∧ va_O "java/lang/String" q (fun q => b ≤ q) s s.heap) ∧
  (∀ s, X s → ∃ q, e 89 = .ref q ∧ va_T .byte q 3 (fun j => rx_v (zV b e D A X) (rx_nth zbs89 j 7)) (fun q => b ≤ q) s s.heap) ∧
  (∀ s, X s → ∃ q, e 90 = .ref q ∧ vk_R RX13 335 "static" q s) ∧
  (∀ s, X s → ∃ q, e 90 = .ref q ∧ va_OF "java/lang/String" "value" "[B" (rx_v (zV b e D A X) 732) q (fun q => b ≤ q) s s.heap) ∧
  (∀ s, X s → ∃ q, e 90 = .ref q ∧ va_OF "java/lang/String" "coder" "B" (rx_v (zV b e D A X) 0) q (fun q => b ≤ q) s s.heap) ∧
  (∀ s, X s → ∃ q, e 90 = .ref q ∧ va_O "java/lang/String" q (fun q => b ≤ q) s s.heap) ∧
  (∀ s, X s → ∃ q, e 91 = .ref q ∧ va_T .byte q 6 (fun j => rx_v (zV b e D A X) (rx_nth zbs91 j 7)) (fun q => b ≤ q) s s.heap) ∧
  (∀ s, X s → ∃ q, e 92 = .ref q ∧ vk_R RX13 337 "new" q s) ∧
  (∀ s, X s → ∃ q, e 92 = .ref q ∧ va_OF "java/lang/String" "value" "[B" (rx_v (zV b e D A X) 748) q (fun q => b ≤ q) s s.heap) ∧
  (∀ s, X s → ∃ q, e 92 = .ref q ∧ va_OF "java/lang/String" "coder" "B" (rx_v (zV b e D A X) 0) q (fun q => b ≤ q) s s.heap) ∧
  (∀ s, X s → ∃ q, e 92 = .ref q ∧ va_O "java/lang/String" q (fun q => b ≤ q) s s.heap) ∧
  (∀ s, X s → ∃ q, e 93 = .ref q ∧ va_T .byte q 3 (fun j => rx_v (zV b e D A X) (rx_nth zbs93 j 7)) (fun q => b ≤ q) s s.heap) ∧
  (∀ s, X s → ∃ q, e 94 = .ref q ∧ vk_R RX13 339 "start" q s) ∧
  (∀ s, X s → ∃ q, e 94 = .ref q ∧ va_OF "java/lang/String" "value" "[B" (rx_v (zV b e D A X) 764) q (fun q => b ≤ q) s s.heap)
def zO12 (b : Nat) (e : Nat → Value) (D : va_G) (A : Nat → ClassId) (X : State → Prop) : Prop :=
  (∀ s, X s → ∃ q, e 94 = .ref q ∧ va_OF "java/lang/String" "coder" "B" (rx_v (zV b e D A X) 0) q (fun q => b ≤ q) s s.heap) ∧
  (∀ s, X s → ∃ q, e 94 = .ref q ∧ va_O "java/lang/String" q (fun q => b ≤ q) s s.heap) ∧
  (∀ s, X s → ∃ q, e 95 = .ref q ∧ va_T .byte q 5 (fun j => rx_v (zV b e D A X) (rx_nth zbs95 j 7)) (fun q => b ≤ q) s s.heap) ∧
  (∀ s, X s → ∃ q, e 96 = .ref q ∧ vk_R RX13 451 "null" q s) ∧
  (∀ s, X s → ∃ q, e 96 = .ref q ∧ va_OF "java/lang/String" "value" "[B" (rx_v (zV b e D A X) 780) q (fun q => b ≤ q) s s.heap) ∧
  (∀ s, X s → ∃ q, e 96 = .ref q ∧ va_OF "java/lang/String" "coder" "B" (rx_v (zV b e D A X) 0) q (fun q => b ≤ q) s s.heap) ∧
  (∀ s, X s → ∃ q, e 96 = .ref q ∧ va_O "java/lang/String" q (fun q => b ≤ q) s s.heap) ∧
  (∀ s, X s → ∃ q, e 97 = .ref q ∧ va_T .byte q 4 (fun j => rx_v (zV b e D A X) (rx_nth zbs97 j 7)) (fun q => b ≤ q) s s.heap) ∧
  (∀ s, X s → ∃ q, e 98 = .ref q ∧ vk_R RX13 453 "this" q s) ∧
  (∀ s, X s → ∃ q, e 98 = .ref q ∧ va_OF "java/lang/String" "value" "[B" (rx_v (zV b e D A X) 796) q (fun q => b ≤ q) s s.heap) ∧
  (∀ s, X s → ∃ q, e 98 = .ref q ∧ va_OF "java/lang/String" "coder" "B" (rx_v (zV b e D A X) 0) q (fun q => b ≤ q) s s.heap) ∧
  (∀ s, X s → ∃ q, e 98 = .ref q ∧ va_O "java/lang/String" q (fun q => b ≤ q) s s.heap) ∧
  (∀ s, X s → ∃ q, e 99 = .ref q ∧ va_T .byte q 4 (fun j => rx_v (zV b e D A X) (rx_nth zbs99 j 7)) (fun q => b ≤ q) s s.heap) ∧
  (∀ s, X s → ∃ q, e 100 = .ref q ∧ vk_R RX13 455 "super" q s) ∧
  (∀ s, X s → ∃ q, e 100 = .ref q ∧ va_OF "java/lang/String" "value" "[B" (rx_v (zV b e D A X) 812) q (fun q => b ≤ q) s s.heap) ∧
  (∀ s, X s → ∃ q, e 100 = .ref q ∧ va_OF "java/lang/String" "coder" "B" (rx_v (zV b e D A X) 0) q (fun q => b ≤ q) s s.heap) ∧
  (∀ s, X s → ∃ q, e 100 = .ref q ∧ va_O "java/lang/String" q (fun q => b ≤ q) s s.heap) ∧
  (∀ s, X s → ∃ q, e 101 = .ref q ∧ va_T .byte q 5 (fun j => rx_v (zV b e D A X) (rx_nth zbs101 j 7)) (fun q => b ≤ q) s s.heap) ∧
  (∀ s, X s → ∃ q, e 102 = .ref q ∧ vk_R RX13 460 "let" q s) ∧
  (∀ s, X s → ∃ q, e 102 = .ref q ∧ va_OF "java/lang/String" "value" "[B" (rx_v (zV b e D A X) 828) q (fun q => b ≤ q) s s.heap)
def zO13 (b : Nat) (e : Nat → Value) (D : va_G) (A : Nat → ClassId) (X : State → Prop) : Prop :=
  (∀ s, X s → ∃ q, e 102 = .ref q ∧ va_OF "java/lang/String" "coder" "B" (rx_v (zV b e D A X) 0) q (fun q => b ≤ q) s s.heap) ∧
  (∀ s, X s → ∃ q, e 102 = .ref q ∧ va_O "java/lang/String" q (fun q => b ≤ q) s s.heap) ∧
  (∀ s, X s → ∃ q, e 103 = .ref q ∧ va_T .byte q 3 (fun j => rx_v (zV b e D A X) (rx_nth zbs103 j 7)) (fun q => b ≤ q) s s.heap) ∧
  (∀ s, X s → ∃ q, e 104 = .ref q ∧ vk_R RX13 462 "if" q s) ∧
  (∀ s, X s → ∃ q, e 104 = .ref q ∧ va_OF "java/lang/String" "value" "[B" (rx_v (zV b e D A X) 844) q (fun q => b ≤ q) s s.heap) ∧
  (∀ s, X s → ∃ q, e 104 = .ref q ∧ va_OF "java/lang/String" "coder" "B" (rx_v (zV b e D A X) 0) q (fun q => b ≤ q) s s.heap) ∧
  (∀ s, X s → ∃ q, e 104 = .ref q ∧ va_O "java/lang/String" q (fun q => b ≤ q) s s.heap) ∧
  (∀ s, X s → ∃ q, e 105 = .ref q ∧ va_T .byte q 2 (fun j => rx_v (zV b e D A X) (rx_nth zbs105 j 7)) (fun q => b ≤ q) s s.heap) ∧
  (∀ s, X s → ∃ q, e 106 = .ref q ∧ vk_R RX13 464 "while" q s) ∧
  (∀ s, X s → ∃ q, e 106 = .ref q ∧ va_OF "java/lang/String" "value" "[B" (rx_v (zV b e D A X) 860) q (fun q => b ≤ q) s s.heap) ∧
  (∀ s, X s → ∃ q, e 106 = .ref q ∧ va_OF "java/lang/String" "coder" "B" (rx_v (zV b e D A X) 0) q (fun q => b ≤ q) s s.heap) ∧
  (∀ s, X s → ∃ q, e 106 = .ref q ∧ va_O "java/lang/String" q (fun q => b ≤ q) s s.heap) ∧
  (∀ s, X s → ∃ q, e 107 = .ref q ∧ va_T .byte q 5 (fun j => rx_v (zV b e D A X) (rx_nth zbs107 j 7)) (fun q => b ≤ q) s s.heap) ∧
  (∀ s, X s → ∃ q, e 108 = .ref q ∧ vk_R RX13 466 "return" q s) ∧
  (∀ s, X s → ∃ q, e 108 = .ref q ∧ va_OF "java/lang/String" "value" "[B" (rx_v (zV b e D A X) 876) q (fun q => b ≤ q) s s.heap) ∧
  (∀ s, X s → ∃ q, e 108 = .ref q ∧ va_OF "java/lang/String" "coder" "B" (rx_v (zV b e D A X) 0) q (fun q => b ≤ q) s s.heap) ∧
  (∀ s, X s → ∃ q, e 108 = .ref q ∧ va_O "java/lang/String" q (fun q => b ≤ q) s s.heap) ∧
  (∀ s, X s → ∃ q, e 109 = .ref q ∧ va_T .byte q 6 (fun j => rx_v (zV b e D A X) (rx_nth zbs109 j 7)) (fun q => b ≤ q) s s.heap) ∧
  (∀ s, X s → ∃ q, e 110 = .ref q ∧ vk_R RX13 468 "throw" q s) ∧
  (∀ s, X s → ∃ q, e 110 = .ref q ∧ va_OF "java/lang/String" "value" "[B" (rx_v (zV b e D A X) 892) q (fun q => b ≤ q) s s.heap)
def zO14 (b : Nat) (e : Nat → Value) (D : va_G) (A : Nat → ClassId) (X : State → Prop) : Prop :=
  (∀ s, X s → ∃ q, e 110 = .ref q ∧ va_OF "java/lang/String" "coder" "B" (rx_v (zV b e D A X) 0) q (fun q => b ≤ q) s s.heap) ∧
  (∀ s, X s → ∃ q, e 110 = .ref q ∧ va_O "java/lang/String" q (fun q => b ≤ q) s s.heap) ∧
  (∀ s, X s → ∃ q, e 111 = .ref q ∧ va_T .byte q 5 (fun j => rx_v (zV b e D A X) (rx_nth zbs111 j 7)) (fun q => b ≤ q) s s.heap) ∧
  (∀ s, X s → ∃ q, e 112 = .ref q ∧ vk_R RX13 470 "try" q s) ∧
  (∀ s, X s → ∃ q, e 112 = .ref q ∧ va_OF "java/lang/String" "value" "[B" (rx_v (zV b e D A X) 908) q (fun q => b ≤ q) s s.heap) ∧
  (∀ s, X s → ∃ q, e 112 = .ref q ∧ va_OF "java/lang/String" "coder" "B" (rx_v (zV b e D A X) 0) q (fun q => b ≤ q) s s.heap) ∧
  (∀ s, X s → ∃ q, e 112 = .ref q ∧ va_O "java/lang/String" q (fun q => b ≤ q) s s.heap) ∧
  (∀ s, X s → ∃ q, e 113 = .ref q ∧ va_T .byte q 3 (fun j => rx_v (zV b e D A X) (rx_nth zbs113 j 7)) (fun q => b ≤ q) s s.heap) ∧
  (∀ s, X s → ∃ q, e 114 = .ref q ∧ vk_R RX13 472 "out" q s) ∧
  (∀ s, X s → ∃ q, e 114 = .ref q ∧ va_OF "java/lang/String" "value" "[B" (rx_v (zV b e D A X) 924) q (fun q => b ≤ q) s s.heap) ∧
  (∀ s, X s → ∃ q, e 114 = .ref q ∧ va_OF "java/lang/String" "coder" "B" (rx_v (zV b e D A X) 0) q (fun q => b ≤ q) s s.heap) ∧
  (∀ s, X s → ∃ q, e 114 = .ref q ∧ va_O "java/lang/String" q (fun q => b ≤ q) s s.heap) ∧
  (∀ s, X s → ∃ q, e 115 = .ref q ∧ va_T .byte q 3 (fun j => rx_v (zV b e D A X) (rx_nth zbs115 j 7)) (fun q => b ≤ q) s s.heap) ∧
  (∀ s, X s → ∃ q, e 116 = .ref q ∧ vk_R RX13 486 "else" q s) ∧
  (∀ s, X s → ∃ q, e 116 = .ref q ∧ va_OF "java/lang/String" "value" "[B" (rx_v (zV b e D A X) 940) q (fun q => b ≤ q) s s.heap) ∧
  (∀ s, X s → ∃ q, e 116 = .ref q ∧ va_OF "java/lang/String" "coder" "B" (rx_v (zV b e D A X) 0) q (fun q => b ≤ q) s s.heap) ∧
  (∀ s, X s → ∃ q, e 116 = .ref q ∧ va_O "java/lang/String" q (fun q => b ≤ q) s s.heap) ∧
  (∀ s, X s → ∃ q, e 117 = .ref q ∧ va_T .byte q 4 (fun j => rx_v (zV b e D A X) (rx_nth zbs117 j 7)) (fun q => b ≤ q) s s.heap) ∧
  (∀ s, X s → ∃ q, e 118 = .ref q ∧ vk_R RX13 500 "catch" q s) ∧
  (∀ s, X s → ∃ q, e 118 = .ref q ∧ va_OF "java/lang/String" "value" "[B" (rx_v (zV b e D A X) 956) q (fun q => b ≤ q) s s.heap)
def zO15 (b : Nat) (e : Nat → Value) (D : va_G) (A : Nat → ClassId) (X : State → Prop) : Prop :=
  (∀ s, X s → ∃ q, e 118 = .ref q ∧ va_OF "java/lang/String" "coder" "B" (rx_v (zV b e D A X) 0) q (fun q => b ≤ q) s s.heap) ∧
  (∀ s, X s → ∃ q, e 118 = .ref q ∧ va_O "java/lang/String" q (fun q => b ≤ q) s s.heap) ∧
  (∀ s, X s → ∃ q, e 119 = .ref q ∧ va_T .byte q 5 (fun j => rx_v (zV b e D A X) (rx_nth zbs119 j 7)) (fun q => b ≤ q) s s.heap) ∧
  (∀ s, X s → ∃ q, e 120 = .ref q ∧ vk_R RX13 514 "ask" q s) ∧
  (∀ s, X s → ∃ q, e 120 = .ref q ∧ va_OF "java/lang/String" "value" "[B" (rx_v (zV b e D A X) 972) q (fun q => b ≤ q) s s.heap) ∧
  (∀ s, X s → ∃ q, e 120 = .ref q ∧ va_OF "java/lang/String" "coder" "B" (rx_v (zV b e D A X) 0) q (fun q => b ≤ q) s s.heap) ∧
  (∀ s, X s → ∃ q, e 120 = .ref q ∧ va_O "java/lang/String" q (fun q => b ≤ q) s s.heap) ∧
  (∀ s, X s → ∃ q, e 121 = .ref q ∧ va_T .byte q 3 (fun j => rx_v (zV b e D A X) (rx_nth zbs121 j 7)) (fun q => b ≤ q) s s.heap) ∧
  (∀ s, X s → ∃ q, e 122 = .ref q ∧ vk_R RX13 526 "code" q s) ∧
  (∀ s, X s → ∃ q, e 122 = .ref q ∧ va_OF "java/lang/String" "value" "[B" (rx_v (zV b e D A X) 988) q (fun q => b ≤ q) s s.heap) ∧
  (∀ s, X s → ∃ q, e 122 = .ref q ∧ va_OF "java/lang/String" "coder" "B" (rx_v (zV b e D A X) 0) q (fun q => b ≤ q) s s.heap) ∧
  (∀ s, X s → ∃ q, e 122 = .ref q ∧ va_O "java/lang/String" q (fun q => b ≤ q) s s.heap) ∧
  (∀ s, X s → ∃ q, e 123 = .ref q ∧ va_T .byte q 4 (fun j => rx_v (zV b e D A X) (rx_nth zbs123 j 7)) (fun q => b ≤ q) s s.heap) ∧
  (∀ s, X s → ∃ q, e 124 = .ref q ∧ vk_R RX13 1013 "," q s) ∧
  (∀ s, X s → ∃ q, e 124 = .ref q ∧ va_OF "java/lang/String" "value" "[B" (rx_v (zV b e D A X) 1004) q (fun q => b ≤ q) s s.heap) ∧
  (∀ s, X s → ∃ q, e 124 = .ref q ∧ va_OF "java/lang/String" "coder" "B" (rx_v (zV b e D A X) 0) q (fun q => b ≤ q) s s.heap) ∧
  (∀ s, X s → ∃ q, e 124 = .ref q ∧ va_O "java/lang/String" q (fun q => b ≤ q) s s.heap) ∧
  (∀ s, X s → ∃ q, e 125 = .ref q ∧ va_T .byte q 1 (fun j => rx_v (zV b e D A X) (rx_nth zbs125 j 7)) (fun q => b ≤ q) s s.heap) ∧
  (∀ s, X s → ∃ q, e 126 = .ref q ∧ vk_R RX13 1018 "open " q s) ∧
  (∀ s, X s → ∃ q, e 126 = .ref q ∧ va_OF "java/lang/String" "value" "[B" (rx_v (zV b e D A X) 1020) q (fun q => b ≤ q) s s.heap)
def zO16 (b : Nat) (e : Nat → Value) (D : va_G) (A : Nat → ClassId) (X : State → Prop) : Prop :=
  (∀ s, X s → ∃ q, e 126 = .ref q ∧ va_OF "java/lang/String" "coder" "B" (rx_v (zV b e D A X) 0) q (fun q => b ≤ q) s s.heap) ∧
  (∀ s, X s → ∃ q, e 126 = .ref q ∧ va_O "java/lang/String" q (fun q => b ≤ q) s s.heap) ∧
  (∀ s, X s → ∃ q, e 127 = .ref q ∧ va_T .byte q 5 (fun j => rx_v (zV b e D A X) (rx_nth zbs127 j 7)) (fun q => b ≤ q) s s.heap) ∧
  (∀ s, X s → ∃ q, e 128 = .ref q ∧ vk_R RX13 1022 "final class " q s) ∧
  (∀ s, X s → ∃ q, e 128 = .ref q ∧ va_OF "java/lang/String" "value" "[B" (rx_v (zV b e D A X) 1036) q (fun q => b ≤ q) s s.heap) ∧
  (∀ s, X s → ∃ q, e 128 = .ref q ∧ va_OF "java/lang/String" "coder" "B" (rx_v (zV b e D A X) 0) q (fun q => b ≤ q) s s.heap) ∧
  (∀ s, X s → ∃ q, e 128 = .ref q ∧ va_O "java/lang/String" q (fun q => b ≤ q) s s.heap) ∧
  (∀ s, X s → ∃ q, e 129 = .ref q ∧ va_T .byte q 12 (fun j => rx_v (zV b e D A X) (rx_nth zbs129 j 7)) (fun q => b ≤ q) s s.heap) ∧
  (∀ s, X s → ∃ q, e 130 = .ref q ∧ vk_R RX13 1030 " is " q s) ∧
  (∀ s, X s → ∃ q, e 130 = .ref q ∧ va_OF "java/lang/String" "value" "[B" (rx_v (zV b e D A X) 1052) q (fun q => b ≤ q) s s.heap) ∧
  (∀ s, X s → ∃ q, e 130 = .ref q ∧ va_OF "java/lang/String" "coder" "B" (rx_v (zV b e D A X) 0) q (fun q => b ≤ q) s s.heap) ∧
  (∀ s, X s → ∃ q, e 130 = .ref q ∧ va_O "java/lang/String" q (fun q => b ≤ q) s s.heap) ∧
  (∀ s, X s → ∃ q, e 131 = .ref q ∧ va_T .byte q 4 (fun j => rx_v (zV b e D A X) (rx_nth zbs131 j 7)) (fun q => b ≤ q) s s.heap) ∧
  (∀ s, X s → ∃ q, e 132 = .ref q ∧ vk_R RX13 1032 " as " q s) ∧
  (∀ s, X s → ∃ q, e 132 = .ref q ∧ va_OF "java/lang/String" "value" "[B" (rx_v (zV b e D A X) 1068) q (fun q => b ≤ q) s s.heap) ∧
  (∀ s, X s → ∃ q, e 132 = .ref q ∧ va_OF "java/lang/String" "coder" "B" (rx_v (zV b e D A X) 0) q (fun q => b ≤ q) s s.heap) ∧
  (∀ s, X s → ∃ q, e 132 = .ref q ∧ va_O "java/lang/String" q (fun q => b ≤ q) s s.heap) ∧
  (∀ s, X s → ∃ q, e 133 = .ref q ∧ va_T .byte q 4 (fun j => rx_v (zV b e D A X) (rx_nth zbs133 j 7)) (fun q => b ≤ q) s s.heap) ∧
  (∀ s, X s → ∃ q, e 134 = .ref q ∧ vk_R RX13 1038 " in " q s) ∧
  (∀ s, X s → ∃ q, e 134 = .ref q ∧ va_OF "java/lang/String" "value" "[B" (rx_v (zV b e D A X) 1084) q (fun q => b ≤ q) s s.heap)
def zO17 (b : Nat) (e : Nat → Value) (D : va_G) (A : Nat → ClassId) (X : State → Prop) : Prop :=
  (∀ s, X s → ∃ q, e 134 = .ref q ∧ va_OF "java/lang/String" "coder" "B" (rx_v (zV b e D A X) 0) q (fun q => b ≤ q) s s.heap) ∧
  (∀ s, X s → ∃ q, e 134 = .ref q ∧ va_O "java/lang/String" q (fun q => b ≤ q) s s.heap) ∧
  (∀ s, X s → ∃ q, e 135 = .ref q ∧ va_T .byte q 4 (fun j => rx_v (zV b e D A X) (rx_nth zbs135 j 7)) (fun q => b ≤ q) s s.heap) ∧
  (∀ s, X s → ∃ q, e 136 = .ref q ∧ vk_R RX13 1040 " with " q s) ∧
  (∀ s, X s → ∃ q, e 136 = .ref q ∧ va_OF "java/lang/String" "value" "[B" (rx_v (zV b e D A X) 1100) q (fun q => b ≤ q) s s.heap) ∧
  (∀ s, X s → ∃ q, e 136 = .ref q ∧ va_OF "java/lang/String" "coder" "B" (rx_v (zV b e D A X) 0) q (fun q => b ≤ q) s s.heap) ∧
  (∀ s, X s → ∃ q, e 136 = .ref q ∧ va_O "java/lang/String" q (fun q => b ≤ q) s s.heap) ∧
  (∀ s, X s → ∃ q, e 137 = .ref q ∧ va_T .byte q 6 (fun j => rx_v (zV b e D A X) (rx_nth zbs137 j 7)) (fun q => b ≤ q) s s.heap) ∧
  (∀ s, X s → ∃ q, e 138 = .ref q ∧ vk_R RX13 1042 " only " q s) ∧
  (∀ s, X s → ∃ q, e 138 = .ref q ∧ va_OF "java/lang/String" "value" "[B" (rx_v (zV b e D A X) 1116) q (fun q => b ≤ q) s s.heap) ∧
  (∀ s, X s → ∃ q, e 138 = .ref q ∧ va_OF "java/lang/String" "coder" "B" (rx_v (zV b e D A X) 0) q (fun q => b ≤ q) s s.heap) ∧
  (∀ s, X s → ∃ q, e 138 = .ref q ∧ va_O "java/lang/String" q (fun q => b ≤ q) s s.heap) ∧
  (∀ s, X s → ∃ q, e 139 = .ref q ∧ va_T .byte q 6 (fun j => rx_v (zV b e D A X) (rx_nth zbs139 j 7)) (fun q => b ≤ q) s s.heap) ∧
  (∀ s, X s → ∃ q, e 140 = .ref q ∧ vk_R RX13 1024 "bare class " q s) ∧
  (∀ s, X s → ∃ q, e 140 = .ref q ∧ va_OF "java/lang/String" "value" "[B" (rx_v (zV b e D A X) 1132) q (fun q => b ≤ q) s s.heap) ∧
  (∀ s, X s → ∃ q, e 140 = .ref q ∧ va_OF "java/lang/String" "coder" "B" (rx_v (zV b e D A X) 0) q (fun q => b ≤ q) s s.heap) ∧
  (∀ s, X s → ∃ q, e 140 = .ref q ∧ va_O "java/lang/String" q (fun q => b ≤ q) s s.heap) ∧
  (∀ s, X s → ∃ q, e 141 = .ref q ∧ va_T .byte q 11 (fun j => rx_v (zV b e D A X) (rx_nth zbs141 j 7)) (fun q => b ≤ q) s s.heap) ∧
  (∀ s, X s → ∃ q, e 142 = .ref q ∧ vk_R RX13 1026 "face " q s) ∧
  (∀ s, X s → ∃ q, e 142 = .ref q ∧ va_OF "java/lang/String" "value" "[B" (rx_v (zV b e D A X) 1148) q (fun q => b ≤ q) s s.heap)
def zO18 (b : Nat) (e : Nat → Value) (D : va_G) (A : Nat → ClassId) (X : State → Prop) : Prop :=
  (∀ s, X s → ∃ q, e 142 = .ref q ∧ va_OF "java/lang/String" "coder" "B" (rx_v (zV b e D A X) 0) q (fun q => b ≤ q) s s.heap) ∧
  (∀ s, X s → ∃ q, e 142 = .ref q ∧ va_O "java/lang/String" q (fun q => b ≤ q) s s.heap) ∧
  (∀ s, X s → ∃ q, e 143 = .ref q ∧ va_T .byte q 5 (fun j => rx_v (zV b e D A X) (rx_nth zbs143 j 7)) (fun q => b ≤ q) s s.heap) ∧
  (∀ s, X s → ∃ q, e 144 = .ref q ∧ vk_R RX13 1028 "class " q s) ∧
  (∀ s, X s → ∃ q, e 144 = .ref q ∧ va_OF "java/lang/String" "value" "[B" (rx_v (zV b e D A X) 1164) q (fun q => b ≤ q) s s.heap) ∧
  (∀ s, X s → ∃ q, e 144 = .ref q ∧ va_OF "java/lang/String" "coder" "B" (rx_v (zV b e D A X) 0) q (fun q => b ≤ q) s s.heap) ∧
  (∀ s, X s → ∃ q, e 144 = .ref q ∧ va_O "java/lang/String" q (fun q => b ≤ q) s s.heap) ∧
  (∀ s, X s → ∃ q, e 145 = .ref q ∧ va_T .byte q 6 (fun j => rx_v (zV b e D A X) (rx_nth zbs145 j 7)) (fun q => b ≤ q) s s.heap) ∧
  (∀ s, X s → ∃ q, e 146 = .ref q ∧ vk_R RX13 1020 "" q s) ∧
  (∀ s, X s → ∃ q, e 146 = .ref q ∧ va_OF "java/lang/String" "value" "[B" (rx_v (zV b e D A X) 1180) q (fun q => b ≤ q) s s.heap) ∧
  (∀ s, X s → ∃ q, e 146 = .ref q ∧ va_OF "java/lang/String" "coder" "B" (rx_v (zV b e D A X) 0) q (fun q => b ≤ q) s s.heap) ∧
  (∀ s, X s → ∃ q, e 146 = .ref q ∧ va_O "java/lang/String" q (fun q => b ≤ q) s s.heap) ∧
  (∀ s, X s → ∃ q, e 147 = .ref q ∧ va_T .byte q 0 (fun j => rx_v (zV b e D A X) (rx_nth zbs147 j 7)) (fun q => b ≤ q) s s.heap) ∧
  (∀ s, X s → ∃ q, e 148 = .ref q ∧ vk_R RX13 1044 "bridge " q s) ∧
  (∀ s, X s → ∃ q, e 148 = .ref q ∧ va_OF "java/lang/String" "value" "[B" (rx_v (zV b e D A X) 1196) q (fun q => b ≤ q) s s.heap) ∧
  (∀ s, X s → ∃ q, e 148 = .ref q ∧ va_OF "java/lang/String" "coder" "B" (rx_v (zV b e D A X) 0) q (fun q => b ≤ q) s s.heap) ∧
  (∀ s, X s → ∃ q, e 148 = .ref q ∧ va_O "java/lang/String" q (fun q => b ≤ q) s s.heap) ∧
  (∀ s, X s → ∃ q, e 149 = .ref q ∧ va_T .byte q 7 (fun j => rx_v (zV b e D A X) (rx_nth zbs149 j 7)) (fun q => b ≤ q) s s.heap) ∧
  (∀ s, X s → ∃ q, e 150 = .ref q ∧ vk_R RX13 1050 "static " q s) ∧
  (∀ s, X s → ∃ q, e 150 = .ref q ∧ va_OF "java/lang/String" "value" "[B" (rx_v (zV b e D A X) 1212) q (fun q => b ≤ q) s s.heap)
def zO19 (b : Nat) (e : Nat → Value) (D : va_G) (A : Nat → ClassId) (X : State → Prop) : Prop :=
  (∀ s, X s → ∃ q, e 150 = .ref q ∧ va_OF "java/lang/String" "coder" "B" (rx_v (zV b e D A X) 0) q (fun q => b ≤ q) s s.heap) ∧
  (∀ s, X s → ∃ q, e 150 = .ref q ∧ va_O "java/lang/String" q (fun q => b ≤ q) s s.heap) ∧
  (∀ s, X s → ∃ q, e 151 = .ref q ∧ va_T .byte q 7 (fun j => rx_v (zV b e D A X) (rx_nth zbs151 j 7)) (fun q => b ≤ q) s s.heap) ∧
  (∀ s, X s → ∃ q, e 152 = .ref q ∧ vk_R RX13 1052 "final " q s) ∧
  (∀ s, X s → ∃ q, e 152 = .ref q ∧ va_OF "java/lang/String" "value" "[B" (rx_v (zV b e D A X) 1228) q (fun q => b ≤ q) s s.heap) ∧
  (∀ s, X s → ∃ q, e 152 = .ref q ∧ va_OF "java/lang/String" "coder" "B" (rx_v (zV b e D A X) 0) q (fun q => b ≤ q) s s.heap) ∧
  (∀ s, X s → ∃ q, e 152 = .ref q ∧ va_O "java/lang/String" q (fun q => b ≤ q) s s.heap) ∧
  (∀ s, X s → ∃ q, e 153 = .ref q ∧ va_T .byte q 6 (fun j => rx_v (zV b e D A X) (rx_nth zbs153 j 7)) (fun q => b ≤ q) s s.heap) ∧
  (∀ s, X s → ∃ q, e 154 = .ref q ∧ vk_R RX13 1054 "bare " q s) ∧
  (∀ s, X s → ∃ q, e 154 = .ref q ∧ va_OF "java/lang/String" "value" "[B" (rx_v (zV b e D A X) 1244) q (fun q => b ≤ q) s s.heap) ∧
  (∀ s, X s → ∃ q, e 154 = .ref q ∧ va_OF "java/lang/String" "coder" "B" (rx_v (zV b e D A X) 0) q (fun q => b ≤ q) s s.heap) ∧
  (∀ s, X s → ∃ q, e 154 = .ref q ∧ va_O "java/lang/String" q (fun q => b ≤ q) s s.heap) ∧
  (∀ s, X s → ∃ q, e 155 = .ref q ∧ va_T .byte q 5 (fun j => rx_v (zV b e D A X) (rx_nth zbs155 j 7)) (fun q => b ≤ q) s s.heap) ∧
  (∀ s, X s → ∃ q, e 156 = .ref q ∧ vk_R RX13 1046 "kin " q s) ∧
  (∀ s, X s → ∃ q, e 156 = .ref q ∧ va_OF "java/lang/String" "value" "[B" (rx_v (zV b e D A X) 1260) q (fun q => b ≤ q) s s.heap) ∧
  (∀ s, X s → ∃ q, e 156 = .ref q ∧ va_OF "java/lang/String" "coder" "B" (rx_v (zV b e D A X) 0) q (fun q => b ≤ q) s s.heap) ∧
  (∀ s, X s → ∃ q, e 156 = .ref q ∧ va_O "java/lang/String" q (fun q => b ≤ q) s s.heap) ∧
  (∀ s, X s → ∃ q, e 157 = .ref q ∧ va_T .byte q 4 (fun j => rx_v (zV b e D A X) (rx_nth zbs157 j 7)) (fun q => b ≤ q) s s.heap) ∧
  (∀ s, X s → ∃ q, e 158 = .ref q ∧ vk_R RX13 1048 "own " q s) ∧
  (∀ s, X s → ∃ q, e 158 = .ref q ∧ va_OF "java/lang/String" "value" "[B" (rx_v (zV b e D A X) 1276) q (fun q => b ≤ q) s s.heap)
def zO20 (b : Nat) (e : Nat → Value) (D : va_G) (A : Nat → ClassId) (X : State → Prop) : Prop :=
  (∀ s, X s → ∃ q, e 158 = .ref q ∧ va_OF "java/lang/String" "coder" "B" (rx_v (zV b e D A X) 0) q (fun q => b ≤ q) s s.heap) ∧
  (∀ s, X s → ∃ q, e 158 = .ref q ∧ va_O "java/lang/String" q (fun q => b ≤ q) s s.heap) ∧
  (∀ s, X s → ∃ q, e 159 = .ref q ∧ va_T .byte q 4 (fun j => rx_v (zV b e D A X) (rx_nth zbs159 j 7)) (fun q => b ≤ q) s s.heap)
def zO (b : Nat) (e : Nat → Value) (D : va_G) (A : Nat → ClassId) (X : State → Prop) : Prop := rx_Ok (zV b e D A X) ∧ zO0 b e D A X ∧ zO1 b e D A X ∧ zO2 b e D A X ∧ zO3 b e D A X ∧ zO4 b e D A X ∧ zO5 b e D A X ∧ zO6 b e D A X ∧ zO7 b e D A X ∧ zO8 b e D A X ∧ zO9 b e D A X ∧ zO10 b e D A X ∧ zO11 b e D A X ∧ zO12 b e D A X ∧ zO13 b e D A X ∧ zO14 b e D A X ∧ zO15 b e D A X ∧ zO16 b e D A X ∧ zO17 b e D A X ∧ zO18 b e D A X ∧ zO19 b e D A X ∧ zO20 b e D A X
theorem zo_K (h : zO b e D A X) : (∀ s, X s → va_Z "java/lang/String" "COMPACT_STRINGS" "Z" (rx_v (zV b e D A X) 8) (fun q => b ≤ q) s s.heap) := h.2.1.1
theorem zo_F (h : zO b e D A X) : (∀ s, X s → va_Z "jdk/internal/util/Preconditions" "SIOOBE_FORMATTER" "Ljava/util/function/BiFunction;" (rx_v (zV b e D A X) 44) (fun q => b ≤ q) s s.heap) := h.2.1.2.1
theorem zo_A (h : zO b e D A X) : (∀ s, X s → ∀ args, (Cond.arrayOver (.array .int)).before args s = true) := h.2.1.2.2.1
theorem zo_G (h : zO b e D A X) : (∀ s, X s → va_Z "LinkHouseModel" "GREAT" "[I" (rx_v (zV b e D A X) 3204) (fun q => b ≤ q) s s.heap) := h.2.1.2.2.2.1
theorem zo_GB (h : zO b e D A X) : (∀ s, X s → ∃ q, e 400 = .ref q ∧ va_T .int q 22 (fun j => rx_v (zV b e D A X) (rx_nth zbsG j 7)) (fun q => b ≤ q) s s.heap) := h.2.1.2.2.2.2.1
theorem zo_N453 (h : zO b e D A X) : (∀ s, X s → va_Nw (Cond.methodLinkNest RX9 34 yX8_init "LinkHouse") s) := h.2.1.2.2.2.2.2.1
theorem zo_N634 (h : zO b e D A X) : (∀ s, X s → va_Nw (Cond.methodLinkNest RX12 41 yX4_init "LinkHouse") s) := h.2.1.2.2.2.2.2.2.1
theorem zo_N655 (h : zO b e D A X) : (∀ s, X s → va_Nw (Cond.methodLinkNest RX12 48 yX0_init "LinkHouse") s) := h.2.1.2.2.2.2.2.2.2.1
theorem zo_N717 (h : zO b e D A X) : (∀ s, X s → va_Nw (Cond.methodLinkNest RX12 55 yX3_init "LinkHouse") s) := h.2.1.2.2.2.2.2.2.2.2.1
theorem zo_N760 (h : zO b e D A X) : (∀ s, X s → va_Nw (Cond.methodLinkNest RX1 17 yX10_init "LinkHouse") s) := h.2.1.2.2.2.2.2.2.2.2.2.1
theorem zo_N938 (h : zO b e D A X) : (∀ s, X s → va_Nw (Cond.methodLinkNest RX1 24 yX7_init "LinkHouse") s) := h.2.1.2.2.2.2.2.2.2.2.2.2.1
theorem zo_N1425 (h : zO b e D A X) : (∀ s, X s → va_Nw (Cond.methodLinkNest RX12 91 yX2_init "LinkHouse") s) := h.2.1.2.2.2.2.2.2.2.2.2.2.2.1
theorem zo_N1465 (h : zO b e D A X) : (∀ s, X s → va_Nw (Cond.methodLinkNest RX12 98 yX6_init "LinkHouse") s) := h.2.1.2.2.2.2.2.2.2.2.2.2.2.2.1
theorem zo_N2311 (h : zO b e D A X) : (∀ s, X s → va_Nw (Cond.methodLinkNest RX3 260 yX0_target "LinkHouse") s) := h.2.1.2.2.2.2.2.2.2.2.2.2.2.2.2.1
theorem zo_W4 (h : zO b e D A X) : (∀ s, X s → ∀ args, (Cond.arrayOver (.object "LinkHouse$Row")).before args s = true) := h.2.1.2.2.2.2.2.2.2.2.2.2.2.2.2.2.1
theorem zo_W5 (h : zO b e D A X) : (∀ s, X s → ∀ args, (Cond.arrayOver (.object "LinkHouse$Member")).before args s = true) := h.2.1.2.2.2.2.2.2.2.2.2.2.2.2.2.2.2.1
theorem zo_W6 (h : zO b e D A X) : (∀ s, X s → ∀ args, (Cond.arrayOver (.object "LinkHouse$Build")).before args s = true) := h.2.1.2.2.2.2.2.2.2.2.2.2.2.2.2.2.2.2.1
theorem zo_W7 (h : zO b e D A X) : (∀ s, X s → ∀ args, (Cond.arrayOver (.object "LinkHouse$Node")).before args s = true) := h.2.1.2.2.2.2.2.2.2.2.2.2.2.2.2.2.2.2.2.1
theorem zo_R6 (h : zO b e D A X) : (∀ s, X s → ∃ q, e 6 = .ref q ∧ vk_R RX9 35 "class face as is in with only open kin own final bare static start void new int let if else while return throw try catch out null this super ask " q s) := h.2.1.2.2.2.2.2.2.2.2.2.2.2.2.2.2.2.2.2.2.1
theorem zo_V6 (h : zO b e D A X) : (∀ s, X s → ∃ q, e 6 = .ref q ∧ va_OF "java/lang/String" "value" "[B" (rx_v (zV b e D A X) 60) q (fun q => b ≤ q) s s.heap) := h.2.1.2.2.2.2.2.2.2.2.2.2.2.2.2.2.2.2.2.2.2
theorem zo_C6 (h : zO b e D A X) : (∀ s, X s → ∃ q, e 6 = .ref q ∧ va_OF "java/lang/String" "coder" "B" (rx_v (zV b e D A X) 0) q (fun q => b ≤ q) s s.heap) := h.2.2.1.1
theorem zo_O6 (h : zO b e D A X) : (∀ s, X s → ∃ q, e 6 = .ref q ∧ va_O "java/lang/String" q (fun q => b ≤ q) s s.heap) := h.2.2.1.2.1
theorem zo_B7 (h : zO b e D A X) : (∀ s, X s → ∃ q, e 7 = .ref q ∧ va_T .byte q 145 (fun j => rx_v (zV b e D A X) (rx_nth zbs7 j 7)) (fun q => b ≤ q) s s.heap) := h.2.2.1.2.2.1
theorem zo_R8 (h : zO b e D A X) : (∀ s, X s → ∃ q, e 8 = .ref q ∧ vk_R RX12 255 "open " q s) := h.2.2.1.2.2.2.1
theorem zo_V8 (h : zO b e D A X) : (∀ s, X s → ∃ q, e 8 = .ref q ∧ va_OF "java/lang/String" "value" "[B" (rx_v (zV b e D A X) 76) q (fun q => b ≤ q) s s.heap) := h.2.2.1.2.2.2.2.1
theorem zo_C8 (h : zO b e D A X) : (∀ s, X s → ∃ q, e 8 = .ref q ∧ va_OF "java/lang/String" "coder" "B" (rx_v (zV b e D A X) 0) q (fun q => b ≤ q) s s.heap) := h.2.2.1.2.2.2.2.2.1
theorem zo_O8 (h : zO b e D A X) : (∀ s, X s → ∃ q, e 8 = .ref q ∧ va_O "java/lang/String" q (fun q => b ≤ q) s s.heap) := h.2.2.1.2.2.2.2.2.2.1
theorem zo_B9 (h : zO b e D A X) : (∀ s, X s → ∃ q, e 9 = .ref q ∧ va_T .byte q 5 (fun j => rx_v (zV b e D A X) (rx_nth zbs9 j 7)) (fun q => b ≤ q) s s.heap) := h.2.2.1.2.2.2.2.2.2.2.1
theorem zo_R10 (h : zO b e D A X) : (∀ s, X s → ∃ q, e 10 = .ref q ∧ vk_R RX12 266 "final " q s) := h.2.2.1.2.2.2.2.2.2.2.2.1
theorem zo_V10 (h : zO b e D A X) : (∀ s, X s → ∃ q, e 10 = .ref q ∧ va_OF "java/lang/String" "value" "[B" (rx_v (zV b e D A X) 92) q (fun q => b ≤ q) s s.heap) := h.2.2.1.2.2.2.2.2.2.2.2.2.1
theorem zo_C10 (h : zO b e D A X) : (∀ s, X s → ∃ q, e 10 = .ref q ∧ va_OF "java/lang/String" "coder" "B" (rx_v (zV b e D A X) 0) q (fun q => b ≤ q) s s.heap) := h.2.2.1.2.2.2.2.2.2.2.2.2.2.1
theorem zo_O10 (h : zO b e D A X) : (∀ s, X s → ∃ q, e 10 = .ref q ∧ va_O "java/lang/String" q (fun q => b ≤ q) s s.heap) := h.2.2.1.2.2.2.2.2.2.2.2.2.2.2.1
theorem zo_B11 (h : zO b e D A X) : (∀ s, X s → ∃ q, e 11 = .ref q ∧ va_T .byte q 6 (fun j => rx_v (zV b e D A X) (rx_nth zbs11 j 7)) (fun q => b ≤ q) s s.heap) := h.2.2.1.2.2.2.2.2.2.2.2.2.2.2.2.1
theorem zo_R12 (h : zO b e D A X) : (∀ s, X s → ∃ q, e 12 = .ref q ∧ vk_R RX12 276 "face " q s) := h.2.2.1.2.2.2.2.2.2.2.2.2.2.2.2.2.1
theorem zo_V12 (h : zO b e D A X) : (∀ s, X s → ∃ q, e 12 = .ref q ∧ va_OF "java/lang/String" "value" "[B" (rx_v (zV b e D A X) 108) q (fun q => b ≤ q) s s.heap) := h.2.2.1.2.2.2.2.2.2.2.2.2.2.2.2.2.2.1
theorem zo_C12 (h : zO b e D A X) : (∀ s, X s → ∃ q, e 12 = .ref q ∧ va_OF "java/lang/String" "coder" "B" (rx_v (zV b e D A X) 0) q (fun q => b ≤ q) s s.heap) := h.2.2.1.2.2.2.2.2.2.2.2.2.2.2.2.2.2.2.1
theorem zo_O12 (h : zO b e D A X) : (∀ s, X s → ∃ q, e 12 = .ref q ∧ va_O "java/lang/String" q (fun q => b ≤ q) s s.heap) := h.2.2.1.2.2.2.2.2.2.2.2.2.2.2.2.2.2.2.2.1
theorem zo_B13 (h : zO b e D A X) : (∀ s, X s → ∃ q, e 13 = .ref q ∧ va_T .byte q 5 (fun j => rx_v (zV b e D A X) (rx_nth zbs13 j 7)) (fun q => b ≤ q) s s.heap) := h.2.2.1.2.2.2.2.2.2.2.2.2.2.2.2.2.2.2.2.2.1
theorem zo_R14 (h : zO b e D A X) : (∀ s, X s → ∃ q, e 14 = .ref q ∧ vk_R RX12 291 " is " q s) := h.2.2.1.2.2.2.2.2.2.2.2.2.2.2.2.2.2.2.2.2.2.1
theorem zo_V14 (h : zO b e D A X) : (∀ s, X s → ∃ q, e 14 = .ref q ∧ va_OF "java/lang/String" "value" "[B" (rx_v (zV b e D A X) 124) q (fun q => b ≤ q) s s.heap) := h.2.2.1.2.2.2.2.2.2.2.2.2.2.2.2.2.2.2.2.2.2.2
theorem zo_C14 (h : zO b e D A X) : (∀ s, X s → ∃ q, e 14 = .ref q ∧ va_OF "java/lang/String" "coder" "B" (rx_v (zV b e D A X) 0) q (fun q => b ≤ q) s s.heap) := h.2.2.2.1.1
theorem zo_O14 (h : zO b e D A X) : (∀ s, X s → ∃ q, e 14 = .ref q ∧ va_O "java/lang/String" q (fun q => b ≤ q) s s.heap) := h.2.2.2.1.2.1
theorem zo_B15 (h : zO b e D A X) : (∀ s, X s → ∃ q, e 15 = .ref q ∧ va_T .byte q 4 (fun j => rx_v (zV b e D A X) (rx_nth zbs15 j 7)) (fun q => b ≤ q) s s.heap) := h.2.2.2.1.2.2.1
theorem zo_R16 (h : zO b e D A X) : (∀ s, X s → ∃ q, e 16 = .ref q ∧ vk_R RX12 296 " as " q s) := h.2.2.2.1.2.2.2.1
theorem zo_V16 (h : zO b e D A X) : (∀ s, X s → ∃ q, e 16 = .ref q ∧ va_OF "java/lang/String" "value" "[B" (rx_v (zV b e D A X) 140) q (fun q => b ≤ q) s s.heap) := h.2.2.2.1.2.2.2.2.1
theorem zo_C16 (h : zO b e D A X) : (∀ s, X s → ∃ q, e 16 = .ref q ∧ va_OF "java/lang/String" "coder" "B" (rx_v (zV b e D A X) 0) q (fun q => b ≤ q) s s.heap) := h.2.2.2.1.2.2.2.2.2.1
theorem zo_O16 (h : zO b e D A X) : (∀ s, X s → ∃ q, e 16 = .ref q ∧ va_O "java/lang/String" q (fun q => b ≤ q) s s.heap) := h.2.2.2.1.2.2.2.2.2.2.1
theorem zo_B17 (h : zO b e D A X) : (∀ s, X s → ∃ q, e 17 = .ref q ∧ va_T .byte q 4 (fun j => rx_v (zV b e D A X) (rx_nth zbs17 j 7)) (fun q => b ≤ q) s s.heap) := h.2.2.2.1.2.2.2.2.2.2.2.1
theorem zo_R18 (h : zO b e D A X) : (∀ s, X s → ∃ q, e 18 = .ref q ∧ vk_R RX12 307 " in " q s) := h.2.2.2.1.2.2.2.2.2.2.2.2.1
theorem zo_V18 (h : zO b e D A X) : (∀ s, X s → ∃ q, e 18 = .ref q ∧ va_OF "java/lang/String" "value" "[B" (rx_v (zV b e D A X) 156) q (fun q => b ≤ q) s s.heap) := h.2.2.2.1.2.2.2.2.2.2.2.2.2.1
theorem zo_C18 (h : zO b e D A X) : (∀ s, X s → ∃ q, e 18 = .ref q ∧ va_OF "java/lang/String" "coder" "B" (rx_v (zV b e D A X) 0) q (fun q => b ≤ q) s s.heap) := h.2.2.2.1.2.2.2.2.2.2.2.2.2.2.1
theorem zo_O18 (h : zO b e D A X) : (∀ s, X s → ∃ q, e 18 = .ref q ∧ va_O "java/lang/String" q (fun q => b ≤ q) s s.heap) := h.2.2.2.1.2.2.2.2.2.2.2.2.2.2.2.1
theorem zo_B19 (h : zO b e D A X) : (∀ s, X s → ∃ q, e 19 = .ref q ∧ va_T .byte q 4 (fun j => rx_v (zV b e D A X) (rx_nth zbs19 j 7)) (fun q => b ≤ q) s s.heap) := h.2.2.2.1.2.2.2.2.2.2.2.2.2.2.2.2.1
theorem zo_R20 (h : zO b e D A X) : (∀ s, X s → ∃ q, e 20 = .ref q ∧ vk_R RX12 309 " with " q s) := h.2.2.2.1.2.2.2.2.2.2.2.2.2.2.2.2.2.1
theorem zo_V20 (h : zO b e D A X) : (∀ s, X s → ∃ q, e 20 = .ref q ∧ va_OF "java/lang/String" "value" "[B" (rx_v (zV b e D A X) 172) q (fun q => b ≤ q) s s.heap) := h.2.2.2.1.2.2.2.2.2.2.2.2.2.2.2.2.2.2.1
theorem zo_C20 (h : zO b e D A X) : (∀ s, X s → ∃ q, e 20 = .ref q ∧ va_OF "java/lang/String" "coder" "B" (rx_v (zV b e D A X) 0) q (fun q => b ≤ q) s s.heap) := h.2.2.2.1.2.2.2.2.2.2.2.2.2.2.2.2.2.2.2.1
theorem zo_O20 (h : zO b e D A X) : (∀ s, X s → ∃ q, e 20 = .ref q ∧ va_O "java/lang/String" q (fun q => b ≤ q) s s.heap) := h.2.2.2.1.2.2.2.2.2.2.2.2.2.2.2.2.2.2.2.2.1
theorem zo_B21 (h : zO b e D A X) : (∀ s, X s → ∃ q, e 21 = .ref q ∧ va_T .byte q 6 (fun j => rx_v (zV b e D A X) (rx_nth zbs21 j 7)) (fun q => b ≤ q) s s.heap) := h.2.2.2.1.2.2.2.2.2.2.2.2.2.2.2.2.2.2.2.2.2.1
theorem zo_R22 (h : zO b e D A X) : (∀ s, X s → ∃ q, e 22 = .ref q ∧ vk_R RX12 311 " only " q s) := h.2.2.2.1.2.2.2.2.2.2.2.2.2.2.2.2.2.2.2.2.2.2.1
theorem zo_V22 (h : zO b e D A X) : (∀ s, X s → ∃ q, e 22 = .ref q ∧ va_OF "java/lang/String" "value" "[B" (rx_v (zV b e D A X) 188) q (fun q => b ≤ q) s s.heap) := h.2.2.2.1.2.2.2.2.2.2.2.2.2.2.2.2.2.2.2.2.2.2.2
theorem zo_C22 (h : zO b e D A X) : (∀ s, X s → ∃ q, e 22 = .ref q ∧ va_OF "java/lang/String" "coder" "B" (rx_v (zV b e D A X) 0) q (fun q => b ≤ q) s s.heap) := h.2.2.2.2.1.1
theorem zo_O22 (h : zO b e D A X) : (∀ s, X s → ∃ q, e 22 = .ref q ∧ va_O "java/lang/String" q (fun q => b ≤ q) s s.heap) := h.2.2.2.2.1.2.1
theorem zo_B23 (h : zO b e D A X) : (∀ s, X s → ∃ q, e 23 = .ref q ∧ va_T .byte q 6 (fun j => rx_v (zV b e D A X) (rx_nth zbs23 j 7)) (fun q => b ≤ q) s s.heap) := h.2.2.2.2.1.2.2.1
theorem zo_R24 (h : zO b e D A X) : (∀ s, X s → ∃ q, e 24 = .ref q ∧ vk_R RX12 278 "class " q s) := h.2.2.2.2.1.2.2.2.1
theorem zo_V24 (h : zO b e D A X) : (∀ s, X s → ∃ q, e 24 = .ref q ∧ va_OF "java/lang/String" "value" "[B" (rx_v (zV b e D A X) 204) q (fun q => b ≤ q) s s.heap) := h.2.2.2.2.1.2.2.2.2.1
theorem zo_C24 (h : zO b e D A X) : (∀ s, X s → ∃ q, e 24 = .ref q ∧ va_OF "java/lang/String" "coder" "B" (rx_v (zV b e D A X) 0) q (fun q => b ≤ q) s s.heap) := h.2.2.2.2.1.2.2.2.2.2.1
theorem zo_O24 (h : zO b e D A X) : (∀ s, X s → ∃ q, e 24 = .ref q ∧ va_O "java/lang/String" q (fun q => b ≤ q) s s.heap) := h.2.2.2.2.1.2.2.2.2.2.2.1
theorem zo_B25 (h : zO b e D A X) : (∀ s, X s → ∃ q, e 25 = .ref q ∧ va_T .byte q 6 (fun j => rx_v (zV b e D A X) (rx_nth zbs25 j 7)) (fun q => b ≤ q) s s.heap) := h.2.2.2.2.1.2.2.2.2.2.2.2.1
theorem zo_R26 (h : zO b e D A X) : (∀ s, X s → ∃ q, e 26 = .ref q ∧ vk_R RX12 271 "bare " q s) := h.2.2.2.2.1.2.2.2.2.2.2.2.2.1
theorem zo_V26 (h : zO b e D A X) : (∀ s, X s → ∃ q, e 26 = .ref q ∧ va_OF "java/lang/String" "value" "[B" (rx_v (zV b e D A X) 220) q (fun q => b ≤ q) s s.heap) := h.2.2.2.2.1.2.2.2.2.2.2.2.2.2.1
theorem zo_C26 (h : zO b e D A X) : (∀ s, X s → ∃ q, e 26 = .ref q ∧ va_OF "java/lang/String" "coder" "B" (rx_v (zV b e D A X) 0) q (fun q => b ≤ q) s s.heap) := h.2.2.2.2.1.2.2.2.2.2.2.2.2.2.2.1
theorem zo_O26 (h : zO b e D A X) : (∀ s, X s → ∃ q, e 26 = .ref q ∧ va_O "java/lang/String" q (fun q => b ≤ q) s s.heap) := h.2.2.2.2.1.2.2.2.2.2.2.2.2.2.2.2.1
theorem zo_B27 (h : zO b e D A X) : (∀ s, X s → ∃ q, e 27 = .ref q ∧ va_T .byte q 5 (fun j => rx_v (zV b e D A X) (rx_nth zbs27 j 7)) (fun q => b ≤ q) s s.heap) := h.2.2.2.2.1.2.2.2.2.2.2.2.2.2.2.2.2.1
theorem zo_R28 (h : zO b e D A X) : (∀ s, X s → ∃ q, e 28 = .ref q ∧ vk_R RX12 257 "" q s) := h.2.2.2.2.1.2.2.2.2.2.2.2.2.2.2.2.2.2.1
theorem zo_V28 (h : zO b e D A X) : (∀ s, X s → ∃ q, e 28 = .ref q ∧ va_OF "java/lang/String" "value" "[B" (rx_v (zV b e D A X) 236) q (fun q => b ≤ q) s s.heap) := h.2.2.2.2.1.2.2.2.2.2.2.2.2.2.2.2.2.2.2.1
theorem zo_C28 (h : zO b e D A X) : (∀ s, X s → ∃ q, e 28 = .ref q ∧ va_OF "java/lang/String" "coder" "B" (rx_v (zV b e D A X) 0) q (fun q => b ≤ q) s s.heap) := h.2.2.2.2.1.2.2.2.2.2.2.2.2.2.2.2.2.2.2.2.1
theorem zo_O28 (h : zO b e D A X) : (∀ s, X s → ∃ q, e 28 = .ref q ∧ va_O "java/lang/String" q (fun q => b ≤ q) s s.heap) := h.2.2.2.2.1.2.2.2.2.2.2.2.2.2.2.2.2.2.2.2.2.1
theorem zo_B29 (h : zO b e D A X) : (∀ s, X s → ∃ q, e 29 = .ref q ∧ va_T .byte q 0 (fun j => rx_v (zV b e D A X) (rx_nth zbs29 j 7)) (fun q => b ≤ q) s s.heap) := h.2.2.2.2.1.2.2.2.2.2.2.2.2.2.2.2.2.2.2.2.2.2.1
theorem zo_R30 (h : zO b e D A X) : (∀ s, X s → ∃ q, e 30 = .ref q ∧ vk_R RX12 316 "," q s) := h.2.2.2.2.1.2.2.2.2.2.2.2.2.2.2.2.2.2.2.2.2.2.2.1
theorem zo_V30 (h : zO b e D A X) : (∀ s, X s → ∃ q, e 30 = .ref q ∧ va_OF "java/lang/String" "value" "[B" (rx_v (zV b e D A X) 252) q (fun q => b ≤ q) s s.heap) := h.2.2.2.2.1.2.2.2.2.2.2.2.2.2.2.2.2.2.2.2.2.2.2.2
theorem zo_C30 (h : zO b e D A X) : (∀ s, X s → ∃ q, e 30 = .ref q ∧ va_OF "java/lang/String" "coder" "B" (rx_v (zV b e D A X) 0) q (fun q => b ≤ q) s s.heap) := h.2.2.2.2.2.1.1
theorem zo_O30 (h : zO b e D A X) : (∀ s, X s → ∃ q, e 30 = .ref q ∧ va_O "java/lang/String" q (fun q => b ≤ q) s s.heap) := h.2.2.2.2.2.1.2.1
theorem zo_B31 (h : zO b e D A X) : (∀ s, X s → ∃ q, e 31 = .ref q ∧ va_T .byte q 1 (fun j => rx_v (zV b e D A X) (rx_nth zbs31 j 7)) (fun q => b ≤ q) s s.heap) := h.2.2.2.2.2.1.2.2.1
theorem zo_R32 (h : zO b e D A X) : (∀ s, X s → ∃ q, e 32 = .ref q ∧ vk_R RX12 327 "bridge " q s) := h.2.2.2.2.2.1.2.2.2.1
theorem zo_V32 (h : zO b e D A X) : (∀ s, X s → ∃ q, e 32 = .ref q ∧ va_OF "java/lang/String" "value" "[B" (rx_v (zV b e D A X) 268) q (fun q => b ≤ q) s s.heap) := h.2.2.2.2.2.1.2.2.2.2.1
theorem zo_C32 (h : zO b e D A X) : (∀ s, X s → ∃ q, e 32 = .ref q ∧ va_OF "java/lang/String" "coder" "B" (rx_v (zV b e D A X) 0) q (fun q => b ≤ q) s s.heap) := h.2.2.2.2.2.1.2.2.2.2.2.1
theorem zo_O32 (h : zO b e D A X) : (∀ s, X s → ∃ q, e 32 = .ref q ∧ va_O "java/lang/String" q (fun q => b ≤ q) s s.heap) := h.2.2.2.2.2.1.2.2.2.2.2.2.1
theorem zo_B33 (h : zO b e D A X) : (∀ s, X s → ∃ q, e 33 = .ref q ∧ va_T .byte q 7 (fun j => rx_v (zV b e D A X) (rx_nth zbs33 j 7)) (fun q => b ≤ q) s s.heap) := h.2.2.2.2.2.1.2.2.2.2.2.2.2.1
theorem zo_R34 (h : zO b e D A X) : (∀ s, X s → ∃ q, e 34 = .ref q ∧ vk_R RX12 339 "static " q s) := h.2.2.2.2.2.1.2.2.2.2.2.2.2.2.1
theorem zo_V34 (h : zO b e D A X) : (∀ s, X s → ∃ q, e 34 = .ref q ∧ va_OF "java/lang/String" "value" "[B" (rx_v (zV b e D A X) 284) q (fun q => b ≤ q) s s.heap) := h.2.2.2.2.2.1.2.2.2.2.2.2.2.2.2.1
theorem zo_C34 (h : zO b e D A X) : (∀ s, X s → ∃ q, e 34 = .ref q ∧ va_OF "java/lang/String" "coder" "B" (rx_v (zV b e D A X) 0) q (fun q => b ≤ q) s s.heap) := h.2.2.2.2.2.1.2.2.2.2.2.2.2.2.2.2.1
theorem zo_O34 (h : zO b e D A X) : (∀ s, X s → ∃ q, e 34 = .ref q ∧ va_O "java/lang/String" q (fun q => b ≤ q) s s.heap) := h.2.2.2.2.2.1.2.2.2.2.2.2.2.2.2.2.2.1
theorem zo_B35 (h : zO b e D A X) : (∀ s, X s → ∃ q, e 35 = .ref q ∧ va_T .byte q 7 (fun j => rx_v (zV b e D A X) (rx_nth zbs35 j 7)) (fun q => b ≤ q) s s.heap) := h.2.2.2.2.2.1.2.2.2.2.2.2.2.2.2.2.2.2.1
theorem zo_R36 (h : zO b e D A X) : (∀ s, X s → ∃ q, e 36 = .ref q ∧ vk_R RX12 346 "new" q s) := h.2.2.2.2.2.1.2.2.2.2.2.2.2.2.2.2.2.2.2.1
theorem zo_V36 (h : zO b e D A X) : (∀ s, X s → ∃ q, e 36 = .ref q ∧ va_OF "java/lang/String" "value" "[B" (rx_v (zV b e D A X) 300) q (fun q => b ≤ q) s s.heap) := h.2.2.2.2.2.1.2.2.2.2.2.2.2.2.2.2.2.2.2.2.1
theorem zo_C36 (h : zO b e D A X) : (∀ s, X s → ∃ q, e 36 = .ref q ∧ va_OF "java/lang/String" "coder" "B" (rx_v (zV b e D A X) 0) q (fun q => b ≤ q) s s.heap) := h.2.2.2.2.2.1.2.2.2.2.2.2.2.2.2.2.2.2.2.2.2.1
theorem zo_O36 (h : zO b e D A X) : (∀ s, X s → ∃ q, e 36 = .ref q ∧ va_O "java/lang/String" q (fun q => b ≤ q) s s.heap) := h.2.2.2.2.2.1.2.2.2.2.2.2.2.2.2.2.2.2.2.2.2.2.1
theorem zo_B37 (h : zO b e D A X) : (∀ s, X s → ∃ q, e 37 = .ref q ∧ va_T .byte q 3 (fun j => rx_v (zV b e D A X) (rx_nth zbs37 j 7)) (fun q => b ≤ q) s s.heap) := h.2.2.2.2.2.1.2.2.2.2.2.2.2.2.2.2.2.2.2.2.2.2.2.1
theorem zo_R38 (h : zO b e D A X) : (∀ s, X s → ∃ q, e 38 = .ref q ∧ vk_R RX12 354 " " q s) := h.2.2.2.2.2.1.2.2.2.2.2.2.2.2.2.2.2.2.2.2.2.2.2.2.1
theorem zo_V38 (h : zO b e D A X) : (∀ s, X s → ∃ q, e 38 = .ref q ∧ va_OF "java/lang/String" "value" "[B" (rx_v (zV b e D A X) 316) q (fun q => b ≤ q) s s.heap) := h.2.2.2.2.2.1.2.2.2.2.2.2.2.2.2.2.2.2.2.2.2.2.2.2.2
theorem zo_C38 (h : zO b e D A X) : (∀ s, X s → ∃ q, e 38 = .ref q ∧ va_OF "java/lang/String" "coder" "B" (rx_v (zV b e D A X) 0) q (fun q => b ≤ q) s s.heap) := h.2.2.2.2.2.2.1.1
theorem zo_O38 (h : zO b e D A X) : (∀ s, X s → ∃ q, e 38 = .ref q ∧ va_O "java/lang/String" q (fun q => b ≤ q) s s.heap) := h.2.2.2.2.2.2.1.2.1
theorem zo_B39 (h : zO b e D A X) : (∀ s, X s → ∃ q, e 39 = .ref q ∧ va_T .byte q 1 (fun j => rx_v (zV b e D A X) (rx_nth zbs39 j 7)) (fun q => b ≤ q) s s.heap) := h.2.2.2.2.2.2.1.2.2.1
theorem zo_R40 (h : zO b e D A X) : (∀ s, X s → ∃ q, e 40 = .ref q ∧ vk_R RX12 363 "=" q s) := h.2.2.2.2.2.2.1.2.2.2.1
theorem zo_V40 (h : zO b e D A X) : (∀ s, X s → ∃ q, e 40 = .ref q ∧ va_OF "java/lang/String" "value" "[B" (rx_v (zV b e D A X) 332) q (fun q => b ≤ q) s s.heap) := h.2.2.2.2.2.2.1.2.2.2.2.1
theorem zo_C40 (h : zO b e D A X) : (∀ s, X s → ∃ q, e 40 = .ref q ∧ va_OF "java/lang/String" "coder" "B" (rx_v (zV b e D A X) 0) q (fun q => b ≤ q) s s.heap) := h.2.2.2.2.2.2.1.2.2.2.2.2.1
theorem zo_O40 (h : zO b e D A X) : (∀ s, X s → ∃ q, e 40 = .ref q ∧ va_O "java/lang/String" q (fun q => b ≤ q) s s.heap) := h.2.2.2.2.2.2.1.2.2.2.2.2.2.1
theorem zo_B41 (h : zO b e D A X) : (∀ s, X s → ∃ q, e 41 = .ref q ∧ va_T .byte q 1 (fun j => rx_v (zV b e D A X) (rx_nth zbs41 j 7)) (fun q => b ≤ q) s s.heap) := h.2.2.2.2.2.2.1.2.2.2.2.2.2.2.1
theorem zo_R42 (h : zO b e D A X) : (∀ s, X s → ∃ q, e 42 = .ref q ∧ vk_R RX12 332 "kin " q s) := h.2.2.2.2.2.2.1.2.2.2.2.2.2.2.2.1
theorem zo_V42 (h : zO b e D A X) : (∀ s, X s → ∃ q, e 42 = .ref q ∧ va_OF "java/lang/String" "value" "[B" (rx_v (zV b e D A X) 348) q (fun q => b ≤ q) s s.heap) := h.2.2.2.2.2.2.1.2.2.2.2.2.2.2.2.2.1
theorem zo_C42 (h : zO b e D A X) : (∀ s, X s → ∃ q, e 42 = .ref q ∧ va_OF "java/lang/String" "coder" "B" (rx_v (zV b e D A X) 0) q (fun q => b ≤ q) s s.heap) := h.2.2.2.2.2.2.1.2.2.2.2.2.2.2.2.2.2.1
theorem zo_O42 (h : zO b e D A X) : (∀ s, X s → ∃ q, e 42 = .ref q ∧ va_O "java/lang/String" q (fun q => b ≤ q) s s.heap) := h.2.2.2.2.2.2.1.2.2.2.2.2.2.2.2.2.2.2.1
theorem zo_B43 (h : zO b e D A X) : (∀ s, X s → ∃ q, e 43 = .ref q ∧ va_T .byte q 4 (fun j => rx_v (zV b e D A X) (rx_nth zbs43 j 7)) (fun q => b ≤ q) s s.heap) := h.2.2.2.2.2.2.1.2.2.2.2.2.2.2.2.2.2.2.2.1
theorem zo_R44 (h : zO b e D A X) : (∀ s, X s → ∃ q, e 44 = .ref q ∧ vk_R RX12 334 "own " q s) := h.2.2.2.2.2.2.1.2.2.2.2.2.2.2.2.2.2.2.2.2.1
theorem zo_V44 (h : zO b e D A X) : (∀ s, X s → ∃ q, e 44 = .ref q ∧ va_OF "java/lang/String" "value" "[B" (rx_v (zV b e D A X) 364) q (fun q => b ≤ q) s s.heap) := h.2.2.2.2.2.2.1.2.2.2.2.2.2.2.2.2.2.2.2.2.2.1
theorem zo_C44 (h : zO b e D A X) : (∀ s, X s → ∃ q, e 44 = .ref q ∧ va_OF "java/lang/String" "coder" "B" (rx_v (zV b e D A X) 0) q (fun q => b ≤ q) s s.heap) := h.2.2.2.2.2.2.1.2.2.2.2.2.2.2.2.2.2.2.2.2.2.2.1
theorem zo_O44 (h : zO b e D A X) : (∀ s, X s → ∃ q, e 44 = .ref q ∧ va_O "java/lang/String" q (fun q => b ≤ q) s s.heap) := h.2.2.2.2.2.2.1.2.2.2.2.2.2.2.2.2.2.2.2.2.2.2.2.1
theorem zo_B45 (h : zO b e D A X) : (∀ s, X s → ∃ q, e 45 = .ref q ∧ va_T .byte q 4 (fun j => rx_v (zV b e D A X) (rx_nth zbs45 j 7)) (fun q => b ≤ q) s s.heap) := h.2.2.2.2.2.2.1.2.2.2.2.2.2.2.2.2.2.2.2.2.2.2.2.2.1
theorem zo_R46 (h : zO b e D A X) : (∀ s, X s → ∃ q, e 46 = .ref q ∧ vk_R RX12 388 "int" q s) := h.2.2.2.2.2.2.1.2.2.2.2.2.2.2.2.2.2.2.2.2.2.2.2.2.2.1
theorem zo_V46 (h : zO b e D A X) : (∀ s, X s → ∃ q, e 46 = .ref q ∧ va_OF "java/lang/String" "value" "[B" (rx_v (zV b e D A X) 380) q (fun q => b ≤ q) s s.heap) := h.2.2.2.2.2.2.1.2.2.2.2.2.2.2.2.2.2.2.2.2.2.2.2.2.2.2
theorem zo_C46 (h : zO b e D A X) : (∀ s, X s → ∃ q, e 46 = .ref q ∧ va_OF "java/lang/String" "coder" "B" (rx_v (zV b e D A X) 0) q (fun q => b ≤ q) s s.heap) := h.2.2.2.2.2.2.2.1.1
theorem zo_O46 (h : zO b e D A X) : (∀ s, X s → ∃ q, e 46 = .ref q ∧ va_O "java/lang/String" q (fun q => b ≤ q) s s.heap) := h.2.2.2.2.2.2.2.1.2.1
theorem zo_B47 (h : zO b e D A X) : (∀ s, X s → ∃ q, e 47 = .ref q ∧ va_T .byte q 3 (fun j => rx_v (zV b e D A X) (rx_nth zbs47 j 7)) (fun q => b ≤ q) s s.heap) := h.2.2.2.2.2.2.2.1.2.2.1
theorem zo_R48 (h : zO b e D A X) : (∀ s, X s → ∃ q, e 48 = .ref q ∧ vk_R RX12 390 "void" q s) := h.2.2.2.2.2.2.2.1.2.2.2.1
theorem zo_V48 (h : zO b e D A X) : (∀ s, X s → ∃ q, e 48 = .ref q ∧ va_OF "java/lang/String" "value" "[B" (rx_v (zV b e D A X) 396) q (fun q => b ≤ q) s s.heap) := h.2.2.2.2.2.2.2.1.2.2.2.2.1
theorem zo_C48 (h : zO b e D A X) : (∀ s, X s → ∃ q, e 48 = .ref q ∧ va_OF "java/lang/String" "coder" "B" (rx_v (zV b e D A X) 0) q (fun q => b ≤ q) s s.heap) := h.2.2.2.2.2.2.2.1.2.2.2.2.2.1
theorem zo_O48 (h : zO b e D A X) : (∀ s, X s → ∃ q, e 48 = .ref q ∧ va_O "java/lang/String" q (fun q => b ≤ q) s s.heap) := h.2.2.2.2.2.2.2.1.2.2.2.2.2.2.1
theorem zo_B49 (h : zO b e D A X) : (∀ s, X s → ∃ q, e 49 = .ref q ∧ va_T .byte q 4 (fun j => rx_v (zV b e D A X) (rx_nth zbs49 j 7)) (fun q => b ≤ q) s s.heap) := h.2.2.2.2.2.2.2.1.2.2.2.2.2.2.2.1
theorem zo_R50 (h : zO b e D A X) : (∀ s, X s → ∃ q, e 50 = .ref q ∧ vk_R RX12 399 "(" q s) := h.2.2.2.2.2.2.2.1.2.2.2.2.2.2.2.2.1
theorem zo_V50 (h : zO b e D A X) : (∀ s, X s → ∃ q, e 50 = .ref q ∧ va_OF "java/lang/String" "value" "[B" (rx_v (zV b e D A X) 412) q (fun q => b ≤ q) s s.heap) := h.2.2.2.2.2.2.2.1.2.2.2.2.2.2.2.2.2.1
theorem zo_C50 (h : zO b e D A X) : (∀ s, X s → ∃ q, e 50 = .ref q ∧ va_OF "java/lang/String" "coder" "B" (rx_v (zV b e D A X) 0) q (fun q => b ≤ q) s s.heap) := h.2.2.2.2.2.2.2.1.2.2.2.2.2.2.2.2.2.2.1
theorem zo_O50 (h : zO b e D A X) : (∀ s, X s → ∃ q, e 50 = .ref q ∧ va_O "java/lang/String" q (fun q => b ≤ q) s s.heap) := h.2.2.2.2.2.2.2.1.2.2.2.2.2.2.2.2.2.2.2.1
theorem zo_B51 (h : zO b e D A X) : (∀ s, X s → ∃ q, e 51 = .ref q ∧ va_T .byte q 1 (fun j => rx_v (zV b e D A X) (rx_nth zbs51 j 7)) (fun q => b ≤ q) s s.heap) := h.2.2.2.2.2.2.2.1.2.2.2.2.2.2.2.2.2.2.2.2.1
theorem zo_R52 (h : zO b e D A X) : (∀ s, X s → ∃ q, e 52 = .ref q ∧ vk_R RX12 408 ")" q s) := h.2.2.2.2.2.2.2.1.2.2.2.2.2.2.2.2.2.2.2.2.2.1
theorem zo_V52 (h : zO b e D A X) : (∀ s, X s → ∃ q, e 52 = .ref q ∧ va_OF "java/lang/String" "value" "[B" (rx_v (zV b e D A X) 428) q (fun q => b ≤ q) s s.heap) := h.2.2.2.2.2.2.2.1.2.2.2.2.2.2.2.2.2.2.2.2.2.2.1
theorem zo_C52 (h : zO b e D A X) : (∀ s, X s → ∃ q, e 52 = .ref q ∧ va_OF "java/lang/String" "coder" "B" (rx_v (zV b e D A X) 0) q (fun q => b ≤ q) s s.heap) := h.2.2.2.2.2.2.2.1.2.2.2.2.2.2.2.2.2.2.2.2.2.2.2.1
theorem zo_O52 (h : zO b e D A X) : (∀ s, X s → ∃ q, e 52 = .ref q ∧ va_O "java/lang/String" q (fun q => b ≤ q) s s.heap) := h.2.2.2.2.2.2.2.1.2.2.2.2.2.2.2.2.2.2.2.2.2.2.2.2.1
theorem zo_B53 (h : zO b e D A X) : (∀ s, X s → ∃ q, e 53 = .ref q ∧ va_T .byte q 1 (fun j => rx_v (zV b e D A X) (rx_nth zbs53 j 7)) (fun q => b ≤ q) s s.heap) := h.2.2.2.2.2.2.2.1.2.2.2.2.2.2.2.2.2.2.2.2.2.2.2.2.2.1
theorem zo_R54 (h : zO b e D A X) : (∀ s, X s → ∃ q, e 54 = .ref q ∧ vk_R RX12 410 "." q s) := h.2.2.2.2.2.2.2.1.2.2.2.2.2.2.2.2.2.2.2.2.2.2.2.2.2.2.1
theorem zo_V54 (h : zO b e D A X) : (∀ s, X s → ∃ q, e 54 = .ref q ∧ va_OF "java/lang/String" "value" "[B" (rx_v (zV b e D A X) 444) q (fun q => b ≤ q) s s.heap) := h.2.2.2.2.2.2.2.1.2.2.2.2.2.2.2.2.2.2.2.2.2.2.2.2.2.2.2
theorem zo_C54 (h : zO b e D A X) : (∀ s, X s → ∃ q, e 54 = .ref q ∧ va_OF "java/lang/String" "coder" "B" (rx_v (zV b e D A X) 0) q (fun q => b ≤ q) s s.heap) := h.2.2.2.2.2.2.2.2.1.1
theorem zo_O54 (h : zO b e D A X) : (∀ s, X s → ∃ q, e 54 = .ref q ∧ va_O "java/lang/String" q (fun q => b ≤ q) s s.heap) := h.2.2.2.2.2.2.2.2.1.2.1
theorem zo_B55 (h : zO b e D A X) : (∀ s, X s → ∃ q, e 55 = .ref q ∧ va_T .byte q 1 (fun j => rx_v (zV b e D A X) (rx_nth zbs55 j 7)) (fun q => b ≤ q) s s.heap) := h.2.2.2.2.2.2.2.2.1.2.2.1
theorem zo_R56 (h : zO b e D A X) : (∀ s, X s → ∃ q, e 56 = .ref q ∧ vk_R RX12 412 ":" q s) := h.2.2.2.2.2.2.2.2.1.2.2.2.1
theorem zo_V56 (h : zO b e D A X) : (∀ s, X s → ∃ q, e 56 = .ref q ∧ va_OF "java/lang/String" "value" "[B" (rx_v (zV b e D A X) 460) q (fun q => b ≤ q) s s.heap) := h.2.2.2.2.2.2.2.2.1.2.2.2.2.1
theorem zo_C56 (h : zO b e D A X) : (∀ s, X s → ∃ q, e 56 = .ref q ∧ va_OF "java/lang/String" "coder" "B" (rx_v (zV b e D A X) 0) q (fun q => b ≤ q) s s.heap) := h.2.2.2.2.2.2.2.2.1.2.2.2.2.2.1
theorem zo_O56 (h : zO b e D A X) : (∀ s, X s → ∃ q, e 56 = .ref q ∧ va_O "java/lang/String" q (fun q => b ≤ q) s s.heap) := h.2.2.2.2.2.2.2.2.1.2.2.2.2.2.2.1
theorem zo_B57 (h : zO b e D A X) : (∀ s, X s → ∃ q, e 57 = .ref q ∧ va_T .byte q 1 (fun j => rx_v (zV b e D A X) (rx_nth zbs57 j 7)) (fun q => b ≤ q) s s.heap) := h.2.2.2.2.2.2.2.2.1.2.2.2.2.2.2.2.1
theorem zo_R58 (h : zO b e D A X) : (∀ s, X s → ∃ q, e 58 = .ref q ∧ vk_R RX12 440 ">" q s) := h.2.2.2.2.2.2.2.2.1.2.2.2.2.2.2.2.2.1
theorem zo_V58 (h : zO b e D A X) : (∀ s, X s → ∃ q, e 58 = .ref q ∧ va_OF "java/lang/String" "value" "[B" (rx_v (zV b e D A X) 476) q (fun q => b ≤ q) s s.heap) := h.2.2.2.2.2.2.2.2.1.2.2.2.2.2.2.2.2.2.1
theorem zo_C58 (h : zO b e D A X) : (∀ s, X s → ∃ q, e 58 = .ref q ∧ va_OF "java/lang/String" "coder" "B" (rx_v (zV b e D A X) 0) q (fun q => b ≤ q) s s.heap) := h.2.2.2.2.2.2.2.2.1.2.2.2.2.2.2.2.2.2.2.1
theorem zo_O58 (h : zO b e D A X) : (∀ s, X s → ∃ q, e 58 = .ref q ∧ va_O "java/lang/String" q (fun q => b ≤ q) s s.heap) := h.2.2.2.2.2.2.2.2.1.2.2.2.2.2.2.2.2.2.2.2.1
theorem zo_B59 (h : zO b e D A X) : (∀ s, X s → ∃ q, e 59 = .ref q ∧ va_T .byte q 1 (fun j => rx_v (zV b e D A X) (rx_nth zbs59 j 7)) (fun q => b ≤ q) s s.heap) := h.2.2.2.2.2.2.2.2.1.2.2.2.2.2.2.2.2.2.2.2.2.1
theorem zo_R60 (h : zO b e D A X) : (∀ s, X s → ∃ q, e 60 = .ref q ∧ vk_R RX13 45 "int" q s) := h.2.2.2.2.2.2.2.2.1.2.2.2.2.2.2.2.2.2.2.2.2.2.1
theorem zo_V60 (h : zO b e D A X) : (∀ s, X s → ∃ q, e 60 = .ref q ∧ va_OF "java/lang/String" "value" "[B" (rx_v (zV b e D A X) 492) q (fun q => b ≤ q) s s.heap) := h.2.2.2.2.2.2.2.2.1.2.2.2.2.2.2.2.2.2.2.2.2.2.2.1
theorem zo_C60 (h : zO b e D A X) : (∀ s, X s → ∃ q, e 60 = .ref q ∧ va_OF "java/lang/String" "coder" "B" (rx_v (zV b e D A X) 0) q (fun q => b ≤ q) s s.heap) := h.2.2.2.2.2.2.2.2.1.2.2.2.2.2.2.2.2.2.2.2.2.2.2.2.1
theorem zo_O60 (h : zO b e D A X) : (∀ s, X s → ∃ q, e 60 = .ref q ∧ va_O "java/lang/String" q (fun q => b ≤ q) s s.heap) := h.2.2.2.2.2.2.2.2.1.2.2.2.2.2.2.2.2.2.2.2.2.2.2.2.2.1
theorem zo_B61 (h : zO b e D A X) : (∀ s, X s → ∃ q, e 61 = .ref q ∧ va_T .byte q 3 (fun j => rx_v (zV b e D A X) (rx_nth zbs61 j 7)) (fun q => b ≤ q) s s.heap) := h.2.2.2.2.2.2.2.2.1.2.2.2.2.2.2.2.2.2.2.2.2.2.2.2.2.2.1
theorem zo_R62 (h : zO b e D A X) : (∀ s, X s → ∃ q, e 62 = .ref q ∧ vk_R RX13 51 "void" q s) := h.2.2.2.2.2.2.2.2.1.2.2.2.2.2.2.2.2.2.2.2.2.2.2.2.2.2.2.1
theorem zo_V62 (h : zO b e D A X) : (∀ s, X s → ∃ q, e 62 = .ref q ∧ va_OF "java/lang/String" "value" "[B" (rx_v (zV b e D A X) 508) q (fun q => b ≤ q) s s.heap) := h.2.2.2.2.2.2.2.2.1.2.2.2.2.2.2.2.2.2.2.2.2.2.2.2.2.2.2.2
theorem zo_C62 (h : zO b e D A X) : (∀ s, X s → ∃ q, e 62 = .ref q ∧ va_OF "java/lang/String" "coder" "B" (rx_v (zV b e D A X) 0) q (fun q => b ≤ q) s s.heap) := h.2.2.2.2.2.2.2.2.2.1.1
theorem zo_O62 (h : zO b e D A X) : (∀ s, X s → ∃ q, e 62 = .ref q ∧ va_O "java/lang/String" q (fun q => b ≤ q) s s.heap) := h.2.2.2.2.2.2.2.2.2.1.2.1
theorem zo_B63 (h : zO b e D A X) : (∀ s, X s → ∃ q, e 63 = .ref q ∧ va_T .byte q 4 (fun j => rx_v (zV b e D A X) (rx_nth zbs63 j 7)) (fun q => b ≤ q) s s.heap) := h.2.2.2.2.2.2.2.2.2.1.2.2.1
theorem zo_R64 (h : zO b e D A X) : (∀ s, X s → ∃ q, e 64 = .ref q ∧ vk_R RX13 69 " class face is as in with only open kin own final bare static start void new int let if else while return throw try catch out null this super ask " q s) := h.2.2.2.2.2.2.2.2.2.1.2.2.2.1
theorem zo_V64 (h : zO b e D A X) : (∀ s, X s → ∃ q, e 64 = .ref q ∧ va_OF "java/lang/String" "value" "[B" (rx_v (zV b e D A X) 524) q (fun q => b ≤ q) s s.heap) := h.2.2.2.2.2.2.2.2.2.1.2.2.2.2.1
theorem zo_C64 (h : zO b e D A X) : (∀ s, X s → ∃ q, e 64 = .ref q ∧ va_OF "java/lang/String" "coder" "B" (rx_v (zV b e D A X) 0) q (fun q => b ≤ q) s s.heap) := h.2.2.2.2.2.2.2.2.2.1.2.2.2.2.2.1
theorem zo_O64 (h : zO b e D A X) : (∀ s, X s → ∃ q, e 64 = .ref q ∧ va_O "java/lang/String" q (fun q => b ≤ q) s s.heap) := h.2.2.2.2.2.2.2.2.2.1.2.2.2.2.2.2.1
theorem zo_B65 (h : zO b e D A X) : (∀ s, X s → ∃ q, e 65 = .ref q ∧ va_T .byte q 146 (fun j => rx_v (zV b e D A X) (rx_nth zbs65 j 7)) (fun q => b ≤ q) s s.heap) := h.2.2.2.2.2.2.2.2.2.1.2.2.2.2.2.2.2.1
theorem zo_R66 (h : zO b e D A X) : (∀ s, X s → ∃ q, e 66 = .ref q ∧ vk_R RX13 236 "open" q s) := h.2.2.2.2.2.2.2.2.2.1.2.2.2.2.2.2.2.2.1
theorem zo_V66 (h : zO b e D A X) : (∀ s, X s → ∃ q, e 66 = .ref q ∧ va_OF "java/lang/String" "value" "[B" (rx_v (zV b e D A X) 540) q (fun q => b ≤ q) s s.heap) := h.2.2.2.2.2.2.2.2.2.1.2.2.2.2.2.2.2.2.2.1
theorem zo_C66 (h : zO b e D A X) : (∀ s, X s → ∃ q, e 66 = .ref q ∧ va_OF "java/lang/String" "coder" "B" (rx_v (zV b e D A X) 0) q (fun q => b ≤ q) s s.heap) := h.2.2.2.2.2.2.2.2.2.1.2.2.2.2.2.2.2.2.2.2.1
theorem zo_O66 (h : zO b e D A X) : (∀ s, X s → ∃ q, e 66 = .ref q ∧ va_O "java/lang/String" q (fun q => b ≤ q) s s.heap) := h.2.2.2.2.2.2.2.2.2.1.2.2.2.2.2.2.2.2.2.2.2.1
theorem zo_B67 (h : zO b e D A X) : (∀ s, X s → ∃ q, e 67 = .ref q ∧ va_T .byte q 4 (fun j => rx_v (zV b e D A X) (rx_nth zbs67 j 7)) (fun q => b ≤ q) s s.heap) := h.2.2.2.2.2.2.2.2.2.1.2.2.2.2.2.2.2.2.2.2.2.2.1
theorem zo_R68 (h : zO b e D A X) : (∀ s, X s → ∃ q, e 68 = .ref q ∧ vk_R RX13 241 "final" q s) := h.2.2.2.2.2.2.2.2.2.1.2.2.2.2.2.2.2.2.2.2.2.2.2.1
theorem zo_V68 (h : zO b e D A X) : (∀ s, X s → ∃ q, e 68 = .ref q ∧ va_OF "java/lang/String" "value" "[B" (rx_v (zV b e D A X) 556) q (fun q => b ≤ q) s s.heap) := h.2.2.2.2.2.2.2.2.2.1.2.2.2.2.2.2.2.2.2.2.2.2.2.2.1
theorem zo_C68 (h : zO b e D A X) : (∀ s, X s → ∃ q, e 68 = .ref q ∧ va_OF "java/lang/String" "coder" "B" (rx_v (zV b e D A X) 0) q (fun q => b ≤ q) s s.heap) := h.2.2.2.2.2.2.2.2.2.1.2.2.2.2.2.2.2.2.2.2.2.2.2.2.2.1
theorem zo_O68 (h : zO b e D A X) : (∀ s, X s → ∃ q, e 68 = .ref q ∧ va_O "java/lang/String" q (fun q => b ≤ q) s s.heap) := h.2.2.2.2.2.2.2.2.2.1.2.2.2.2.2.2.2.2.2.2.2.2.2.2.2.2.1
theorem zo_B69 (h : zO b e D A X) : (∀ s, X s → ∃ q, e 69 = .ref q ∧ va_T .byte q 5 (fun j => rx_v (zV b e D A X) (rx_nth zbs69 j 7)) (fun q => b ≤ q) s s.heap) := h.2.2.2.2.2.2.2.2.2.1.2.2.2.2.2.2.2.2.2.2.2.2.2.2.2.2.2.1
theorem zo_R70 (h : zO b e D A X) : (∀ s, X s → ∃ q, e 70 = .ref q ∧ vk_R RX13 245 "face" q s) := h.2.2.2.2.2.2.2.2.2.1.2.2.2.2.2.2.2.2.2.2.2.2.2.2.2.2.2.2.1
theorem zo_V70 (h : zO b e D A X) : (∀ s, X s → ∃ q, e 70 = .ref q ∧ va_OF "java/lang/String" "value" "[B" (rx_v (zV b e D A X) 572) q (fun q => b ≤ q) s s.heap) := h.2.2.2.2.2.2.2.2.2.1.2.2.2.2.2.2.2.2.2.2.2.2.2.2.2.2.2.2.2
theorem zo_C70 (h : zO b e D A X) : (∀ s, X s → ∃ q, e 70 = .ref q ∧ va_OF "java/lang/String" "coder" "B" (rx_v (zV b e D A X) 0) q (fun q => b ≤ q) s s.heap) := h.2.2.2.2.2.2.2.2.2.2.1.1
theorem zo_O70 (h : zO b e D A X) : (∀ s, X s → ∃ q, e 70 = .ref q ∧ va_O "java/lang/String" q (fun q => b ≤ q) s s.heap) := h.2.2.2.2.2.2.2.2.2.2.1.2.1
theorem zo_B71 (h : zO b e D A X) : (∀ s, X s → ∃ q, e 71 = .ref q ∧ va_T .byte q 4 (fun j => rx_v (zV b e D A X) (rx_nth zbs71 j 7)) (fun q => b ≤ q) s s.heap) := h.2.2.2.2.2.2.2.2.2.2.1.2.2.1
theorem zo_R72 (h : zO b e D A X) : (∀ s, X s → ∃ q, e 72 = .ref q ∧ vk_R RX13 278 "is" q s) := h.2.2.2.2.2.2.2.2.2.2.1.2.2.2.1
theorem zo_V72 (h : zO b e D A X) : (∀ s, X s → ∃ q, e 72 = .ref q ∧ va_OF "java/lang/String" "value" "[B" (rx_v (zV b e D A X) 588) q (fun q => b ≤ q) s s.heap) := h.2.2.2.2.2.2.2.2.2.2.1.2.2.2.2.1
theorem zo_C72 (h : zO b e D A X) : (∀ s, X s → ∃ q, e 72 = .ref q ∧ va_OF "java/lang/String" "coder" "B" (rx_v (zV b e D A X) 0) q (fun q => b ≤ q) s s.heap) := h.2.2.2.2.2.2.2.2.2.2.1.2.2.2.2.2.1
theorem zo_O72 (h : zO b e D A X) : (∀ s, X s → ∃ q, e 72 = .ref q ∧ va_O "java/lang/String" q (fun q => b ≤ q) s s.heap) := h.2.2.2.2.2.2.2.2.2.2.1.2.2.2.2.2.2.1
theorem zo_B73 (h : zO b e D A X) : (∀ s, X s → ∃ q, e 73 = .ref q ∧ va_T .byte q 2 (fun j => rx_v (zV b e D A X) (rx_nth zbs73 j 7)) (fun q => b ≤ q) s s.heap) := h.2.2.2.2.2.2.2.2.2.2.1.2.2.2.2.2.2.2.1
theorem zo_R74 (h : zO b e D A X) : (∀ s, X s → ∃ q, e 74 = .ref q ∧ vk_R RX13 286 "as" q s) := h.2.2.2.2.2.2.2.2.2.2.1.2.2.2.2.2.2.2.2.1
theorem zo_V74 (h : zO b e D A X) : (∀ s, X s → ∃ q, e 74 = .ref q ∧ va_OF "java/lang/String" "value" "[B" (rx_v (zV b e D A X) 604) q (fun q => b ≤ q) s s.heap) := h.2.2.2.2.2.2.2.2.2.2.1.2.2.2.2.2.2.2.2.2.1
theorem zo_C74 (h : zO b e D A X) : (∀ s, X s → ∃ q, e 74 = .ref q ∧ va_OF "java/lang/String" "coder" "B" (rx_v (zV b e D A X) 0) q (fun q => b ≤ q) s s.heap) := h.2.2.2.2.2.2.2.2.2.2.1.2.2.2.2.2.2.2.2.2.2.1
theorem zo_O74 (h : zO b e D A X) : (∀ s, X s → ∃ q, e 74 = .ref q ∧ va_O "java/lang/String" q (fun q => b ≤ q) s s.heap) := h.2.2.2.2.2.2.2.2.2.2.1.2.2.2.2.2.2.2.2.2.2.2.1
theorem zo_B75 (h : zO b e D A X) : (∀ s, X s → ∃ q, e 75 = .ref q ∧ va_T .byte q 2 (fun j => rx_v (zV b e D A X) (rx_nth zbs75 j 7)) (fun q => b ≤ q) s s.heap) := h.2.2.2.2.2.2.2.2.2.2.1.2.2.2.2.2.2.2.2.2.2.2.2.1
theorem zo_R76 (h : zO b e D A X) : (∀ s, X s → ∃ q, e 76 = .ref q ∧ vk_R RX13 298 "in" q s) := h.2.2.2.2.2.2.2.2.2.2.1.2.2.2.2.2.2.2.2.2.2.2.2.2.1
theorem zo_V76 (h : zO b e D A X) : (∀ s, X s → ∃ q, e 76 = .ref q ∧ va_OF "java/lang/String" "value" "[B" (rx_v (zV b e D A X) 620) q (fun q => b ≤ q) s s.heap) := h.2.2.2.2.2.2.2.2.2.2.1.2.2.2.2.2.2.2.2.2.2.2.2.2.2.1
theorem zo_C76 (h : zO b e D A X) : (∀ s, X s → ∃ q, e 76 = .ref q ∧ va_OF "java/lang/String" "coder" "B" (rx_v (zV b e D A X) 0) q (fun q => b ≤ q) s s.heap) := h.2.2.2.2.2.2.2.2.2.2.1.2.2.2.2.2.2.2.2.2.2.2.2.2.2.2.1
theorem zo_O76 (h : zO b e D A X) : (∀ s, X s → ∃ q, e 76 = .ref q ∧ va_O "java/lang/String" q (fun q => b ≤ q) s s.heap) := h.2.2.2.2.2.2.2.2.2.2.1.2.2.2.2.2.2.2.2.2.2.2.2.2.2.2.2.1
theorem zo_B77 (h : zO b e D A X) : (∀ s, X s → ∃ q, e 77 = .ref q ∧ va_T .byte q 2 (fun j => rx_v (zV b e D A X) (rx_nth zbs77 j 7)) (fun q => b ≤ q) s s.heap) := h.2.2.2.2.2.2.2.2.2.2.1.2.2.2.2.2.2.2.2.2.2.2.2.2.2.2.2.2.1
theorem zo_R78 (h : zO b e D A X) : (∀ s, X s → ∃ q, e 78 = .ref q ∧ vk_R RX13 306 "with" q s) := h.2.2.2.2.2.2.2.2.2.2.1.2.2.2.2.2.2.2.2.2.2.2.2.2.2.2.2.2.2.1
theorem zo_V78 (h : zO b e D A X) : (∀ s, X s → ∃ q, e 78 = .ref q ∧ va_OF "java/lang/String" "value" "[B" (rx_v (zV b e D A X) 636) q (fun q => b ≤ q) s s.heap) := h.2.2.2.2.2.2.2.2.2.2.1.2.2.2.2.2.2.2.2.2.2.2.2.2.2.2.2.2.2.2
theorem zo_C78 (h : zO b e D A X) : (∀ s, X s → ∃ q, e 78 = .ref q ∧ va_OF "java/lang/String" "coder" "B" (rx_v (zV b e D A X) 0) q (fun q => b ≤ q) s s.heap) := h.2.2.2.2.2.2.2.2.2.2.2.1.1
theorem zo_O78 (h : zO b e D A X) : (∀ s, X s → ∃ q, e 78 = .ref q ∧ va_O "java/lang/String" q (fun q => b ≤ q) s s.heap) := h.2.2.2.2.2.2.2.2.2.2.2.1.2.1
theorem zo_B79 (h : zO b e D A X) : (∀ s, X s → ∃ q, e 79 = .ref q ∧ va_T .byte q 4 (fun j => rx_v (zV b e D A X) (rx_nth zbs79 j 7)) (fun q => b ≤ q) s s.heap) := h.2.2.2.2.2.2.2.2.2.2.2.1.2.2.1
theorem zo_R80 (h : zO b e D A X) : (∀ s, X s → ∃ q, e 80 = .ref q ∧ vk_R RX13 317 "only" q s) := h.2.2.2.2.2.2.2.2.2.2.2.1.2.2.2.1
theorem zo_V80 (h : zO b e D A X) : (∀ s, X s → ∃ q, e 80 = .ref q ∧ va_OF "java/lang/String" "value" "[B" (rx_v (zV b e D A X) 652) q (fun q => b ≤ q) s s.heap) := h.2.2.2.2.2.2.2.2.2.2.2.1.2.2.2.2.1
theorem zo_C80 (h : zO b e D A X) : (∀ s, X s → ∃ q, e 80 = .ref q ∧ va_OF "java/lang/String" "coder" "B" (rx_v (zV b e D A X) 0) q (fun q => b ≤ q) s s.heap) := h.2.2.2.2.2.2.2.2.2.2.2.1.2.2.2.2.2.1
theorem zo_O80 (h : zO b e D A X) : (∀ s, X s → ∃ q, e 80 = .ref q ∧ va_O "java/lang/String" q (fun q => b ≤ q) s s.heap) := h.2.2.2.2.2.2.2.2.2.2.2.1.2.2.2.2.2.2.1
theorem zo_B81 (h : zO b e D A X) : (∀ s, X s → ∃ q, e 81 = .ref q ∧ va_T .byte q 4 (fun j => rx_v (zV b e D A X) (rx_nth zbs81 j 7)) (fun q => b ≤ q) s s.heap) := h.2.2.2.2.2.2.2.2.2.2.2.1.2.2.2.2.2.2.2.1
theorem zo_R82 (h : zO b e D A X) : (∀ s, X s → ∃ q, e 82 = .ref q ∧ vk_R RX13 247 "class" q s) := h.2.2.2.2.2.2.2.2.2.2.2.1.2.2.2.2.2.2.2.2.1
theorem zo_V82 (h : zO b e D A X) : (∀ s, X s → ∃ q, e 82 = .ref q ∧ va_OF "java/lang/String" "value" "[B" (rx_v (zV b e D A X) 668) q (fun q => b ≤ q) s s.heap) := h.2.2.2.2.2.2.2.2.2.2.2.1.2.2.2.2.2.2.2.2.2.1
theorem zo_C82 (h : zO b e D A X) : (∀ s, X s → ∃ q, e 82 = .ref q ∧ va_OF "java/lang/String" "coder" "B" (rx_v (zV b e D A X) 0) q (fun q => b ≤ q) s s.heap) := h.2.2.2.2.2.2.2.2.2.2.2.1.2.2.2.2.2.2.2.2.2.2.1
theorem zo_O82 (h : zO b e D A X) : (∀ s, X s → ∃ q, e 82 = .ref q ∧ va_O "java/lang/String" q (fun q => b ≤ q) s s.heap) := h.2.2.2.2.2.2.2.2.2.2.2.1.2.2.2.2.2.2.2.2.2.2.2.1
theorem zo_B83 (h : zO b e D A X) : (∀ s, X s → ∃ q, e 83 = .ref q ∧ va_T .byte q 5 (fun j => rx_v (zV b e D A X) (rx_nth zbs83 j 7)) (fun q => b ≤ q) s s.heap) := h.2.2.2.2.2.2.2.2.2.2.2.1.2.2.2.2.2.2.2.2.2.2.2.2.1
theorem zo_R84 (h : zO b e D A X) : (∀ s, X s → ∃ q, e 84 = .ref q ∧ vk_R RX13 243 "bare" q s) := h.2.2.2.2.2.2.2.2.2.2.2.1.2.2.2.2.2.2.2.2.2.2.2.2.2.1
theorem zo_V84 (h : zO b e D A X) : (∀ s, X s → ∃ q, e 84 = .ref q ∧ va_OF "java/lang/String" "value" "[B" (rx_v (zV b e D A X) 684) q (fun q => b ≤ q) s s.heap) := h.2.2.2.2.2.2.2.2.2.2.2.1.2.2.2.2.2.2.2.2.2.2.2.2.2.2.1
theorem zo_C84 (h : zO b e D A X) : (∀ s, X s → ∃ q, e 84 = .ref q ∧ va_OF "java/lang/String" "coder" "B" (rx_v (zV b e D A X) 0) q (fun q => b ≤ q) s s.heap) := h.2.2.2.2.2.2.2.2.2.2.2.1.2.2.2.2.2.2.2.2.2.2.2.2.2.2.2.1
theorem zo_O84 (h : zO b e D A X) : (∀ s, X s → ∃ q, e 84 = .ref q ∧ va_O "java/lang/String" q (fun q => b ≤ q) s s.heap) := h.2.2.2.2.2.2.2.2.2.2.2.1.2.2.2.2.2.2.2.2.2.2.2.2.2.2.2.2.1
theorem zo_B85 (h : zO b e D A X) : (∀ s, X s → ∃ q, e 85 = .ref q ∧ va_T .byte q 4 (fun j => rx_v (zV b e D A X) (rx_nth zbs85 j 7)) (fun q => b ≤ q) s s.heap) := h.2.2.2.2.2.2.2.2.2.2.2.1.2.2.2.2.2.2.2.2.2.2.2.2.2.2.2.2.2.1
theorem zo_R86 (h : zO b e D A X) : (∀ s, X s → ∃ q, e 86 = .ref q ∧ vk_R RX13 331 "kin" q s) := h.2.2.2.2.2.2.2.2.2.2.2.1.2.2.2.2.2.2.2.2.2.2.2.2.2.2.2.2.2.2.1
theorem zo_V86 (h : zO b e D A X) : (∀ s, X s → ∃ q, e 86 = .ref q ∧ va_OF "java/lang/String" "value" "[B" (rx_v (zV b e D A X) 700) q (fun q => b ≤ q) s s.heap) := h.2.2.2.2.2.2.2.2.2.2.2.1.2.2.2.2.2.2.2.2.2.2.2.2.2.2.2.2.2.2.2
theorem zo_C86 (h : zO b e D A X) : (∀ s, X s → ∃ q, e 86 = .ref q ∧ va_OF "java/lang/String" "coder" "B" (rx_v (zV b e D A X) 0) q (fun q => b ≤ q) s s.heap) := h.2.2.2.2.2.2.2.2.2.2.2.2.1.1
theorem zo_O86 (h : zO b e D A X) : (∀ s, X s → ∃ q, e 86 = .ref q ∧ va_O "java/lang/String" q (fun q => b ≤ q) s s.heap) := h.2.2.2.2.2.2.2.2.2.2.2.2.1.2.1
theorem zo_B87 (h : zO b e D A X) : (∀ s, X s → ∃ q, e 87 = .ref q ∧ va_T .byte q 3 (fun j => rx_v (zV b e D A X) (rx_nth zbs87 j 7)) (fun q => b ≤ q) s s.heap) := h.2.2.2.2.2.2.2.2.2.2.2.2.1.2.2.1
theorem zo_R88 (h : zO b e D A X) : (∀ s, X s → ∃ q, e 88 = .ref q ∧ vk_R RX13 333 "own" q s) := h.2.2.2.2.2.2.2.2.2.2.2.2.1.2.2.2.1
theorem zo_V88 (h : zO b e D A X) : (∀ s, X s → ∃ q, e 88 = .ref q ∧ va_OF "java/lang/String" "value" "[B" (rx_v (zV b e D A X) 716) q (fun q => b ≤ q) s s.heap) := h.2.2.2.2.2.2.2.2.2.2.2.2.1.2.2.2.2.1
theorem zo_C88 (h : zO b e D A X) : (∀ s, X s → ∃ q, e 88 = .ref q ∧ va_OF "java/lang/String" "coder" "B" (rx_v (zV b e D A X) 0) q (fun q => b ≤ q) s s.heap) := h.2.2.2.2.2.2.2.2.2.2.2.2.1.2.2.2.2.2.1
theorem zo_O88 (h : zO b e D A X) : (∀ s, X s → ∃ q, e 88 = .ref q ∧ va_O "java/lang/String" q (fun q => b ≤ q) s s.heap) := h.2.2.2.2.2.2.2.2.2.2.2.2.1.2.2.2.2.2.2.1
theorem zo_B89 (h : zO b e D A X) : (∀ s, X s → ∃ q, e 89 = .ref q ∧ va_T .byte q 3 (fun j => rx_v (zV b e D A X) (rx_nth zbs89 j 7)) (fun q => b ≤ q) s s.heap) := h.2.2.2.2.2.2.2.2.2.2.2.2.1.2.2.2.2.2.2.2.1
theorem zo_R90 (h : zO b e D A X) : (∀ s, X s → ∃ q, e 90 = .ref q ∧ vk_R RX13 335 "static" q s) := h.2.2.2.2.2.2.2.2.2.2.2.2.1.2.2.2.2.2.2.2.2.1
theorem zo_V90 (h : zO b e D A X) : (∀ s, X s → ∃ q, e 90 = .ref q ∧ va_OF "java/lang/String" "value" "[B" (rx_v (zV b e D A X) 732) q (fun q => b ≤ q) s s.heap) := h.2.2.2.2.2.2.2.2.2.2.2.2.1.2.2.2.2.2.2.2.2.2.1
theorem zo_C90 (h : zO b e D A X) : (∀ s, X s → ∃ q, e 90 = .ref q ∧ va_OF "java/lang/String" "coder" "B" (rx_v (zV b e D A X) 0) q (fun q => b ≤ q) s s.heap) := h.2.2.2.2.2.2.2.2.2.2.2.2.1.2.2.2.2.2.2.2.2.2.2.1
theorem zo_O90 (h : zO b e D A X) : (∀ s, X s → ∃ q, e 90 = .ref q ∧ va_O "java/lang/String" q (fun q => b ≤ q) s s.heap) := h.2.2.2.2.2.2.2.2.2.2.2.2.1.2.2.2.2.2.2.2.2.2.2.2.1
theorem zo_B91 (h : zO b e D A X) : (∀ s, X s → ∃ q, e 91 = .ref q ∧ va_T .byte q 6 (fun j => rx_v (zV b e D A X) (rx_nth zbs91 j 7)) (fun q => b ≤ q) s s.heap) := h.2.2.2.2.2.2.2.2.2.2.2.2.1.2.2.2.2.2.2.2.2.2.2.2.2.1
theorem zo_R92 (h : zO b e D A X) : (∀ s, X s → ∃ q, e 92 = .ref q ∧ vk_R RX13 337 "new" q s) := h.2.2.2.2.2.2.2.2.2.2.2.2.1.2.2.2.2.2.2.2.2.2.2.2.2.2.1
theorem zo_V92 (h : zO b e D A X) : (∀ s, X s → ∃ q, e 92 = .ref q ∧ va_OF "java/lang/String" "value" "[B" (rx_v (zV b e D A X) 748) q (fun q => b ≤ q) s s.heap) := h.2.2.2.2.2.2.2.2.2.2.2.2.1.2.2.2.2.2.2.2.2.2.2.2.2.2.2.1
theorem zo_C92 (h : zO b e D A X) : (∀ s, X s → ∃ q, e 92 = .ref q ∧ va_OF "java/lang/String" "coder" "B" (rx_v (zV b e D A X) 0) q (fun q => b ≤ q) s s.heap) := h.2.2.2.2.2.2.2.2.2.2.2.2.1.2.2.2.2.2.2.2.2.2.2.2.2.2.2.2.1
theorem zo_O92 (h : zO b e D A X) : (∀ s, X s → ∃ q, e 92 = .ref q ∧ va_O "java/lang/String" q (fun q => b ≤ q) s s.heap) := h.2.2.2.2.2.2.2.2.2.2.2.2.1.2.2.2.2.2.2.2.2.2.2.2.2.2.2.2.2.1
theorem zo_B93 (h : zO b e D A X) : (∀ s, X s → ∃ q, e 93 = .ref q ∧ va_T .byte q 3 (fun j => rx_v (zV b e D A X) (rx_nth zbs93 j 7)) (fun q => b ≤ q) s s.heap) := h.2.2.2.2.2.2.2.2.2.2.2.2.1.2.2.2.2.2.2.2.2.2.2.2.2.2.2.2.2.2.1
theorem zo_R94 (h : zO b e D A X) : (∀ s, X s → ∃ q, e 94 = .ref q ∧ vk_R RX13 339 "start" q s) := h.2.2.2.2.2.2.2.2.2.2.2.2.1.2.2.2.2.2.2.2.2.2.2.2.2.2.2.2.2.2.2.1
theorem zo_V94 (h : zO b e D A X) : (∀ s, X s → ∃ q, e 94 = .ref q ∧ va_OF "java/lang/String" "value" "[B" (rx_v (zV b e D A X) 764) q (fun q => b ≤ q) s s.heap) := h.2.2.2.2.2.2.2.2.2.2.2.2.1.2.2.2.2.2.2.2.2.2.2.2.2.2.2.2.2.2.2.2
theorem zo_C94 (h : zO b e D A X) : (∀ s, X s → ∃ q, e 94 = .ref q ∧ va_OF "java/lang/String" "coder" "B" (rx_v (zV b e D A X) 0) q (fun q => b ≤ q) s s.heap) := h.2.2.2.2.2.2.2.2.2.2.2.2.2.1.1
theorem zo_O94 (h : zO b e D A X) : (∀ s, X s → ∃ q, e 94 = .ref q ∧ va_O "java/lang/String" q (fun q => b ≤ q) s s.heap) := h.2.2.2.2.2.2.2.2.2.2.2.2.2.1.2.1
theorem zo_B95 (h : zO b e D A X) : (∀ s, X s → ∃ q, e 95 = .ref q ∧ va_T .byte q 5 (fun j => rx_v (zV b e D A X) (rx_nth zbs95 j 7)) (fun q => b ≤ q) s s.heap) := h.2.2.2.2.2.2.2.2.2.2.2.2.2.1.2.2.1
theorem zo_R96 (h : zO b e D A X) : (∀ s, X s → ∃ q, e 96 = .ref q ∧ vk_R RX13 451 "null" q s) := h.2.2.2.2.2.2.2.2.2.2.2.2.2.1.2.2.2.1
theorem zo_V96 (h : zO b e D A X) : (∀ s, X s → ∃ q, e 96 = .ref q ∧ va_OF "java/lang/String" "value" "[B" (rx_v (zV b e D A X) 780) q (fun q => b ≤ q) s s.heap) := h.2.2.2.2.2.2.2.2.2.2.2.2.2.1.2.2.2.2.1
theorem zo_C96 (h : zO b e D A X) : (∀ s, X s → ∃ q, e 96 = .ref q ∧ va_OF "java/lang/String" "coder" "B" (rx_v (zV b e D A X) 0) q (fun q => b ≤ q) s s.heap) := h.2.2.2.2.2.2.2.2.2.2.2.2.2.1.2.2.2.2.2.1
theorem zo_O96 (h : zO b e D A X) : (∀ s, X s → ∃ q, e 96 = .ref q ∧ va_O "java/lang/String" q (fun q => b ≤ q) s s.heap) := h.2.2.2.2.2.2.2.2.2.2.2.2.2.1.2.2.2.2.2.2.1
theorem zo_B97 (h : zO b e D A X) : (∀ s, X s → ∃ q, e 97 = .ref q ∧ va_T .byte q 4 (fun j => rx_v (zV b e D A X) (rx_nth zbs97 j 7)) (fun q => b ≤ q) s s.heap) := h.2.2.2.2.2.2.2.2.2.2.2.2.2.1.2.2.2.2.2.2.2.1
theorem zo_R98 (h : zO b e D A X) : (∀ s, X s → ∃ q, e 98 = .ref q ∧ vk_R RX13 453 "this" q s) := h.2.2.2.2.2.2.2.2.2.2.2.2.2.1.2.2.2.2.2.2.2.2.1
theorem zo_V98 (h : zO b e D A X) : (∀ s, X s → ∃ q, e 98 = .ref q ∧ va_OF "java/lang/String" "value" "[B" (rx_v (zV b e D A X) 796) q (fun q => b ≤ q) s s.heap) := h.2.2.2.2.2.2.2.2.2.2.2.2.2.1.2.2.2.2.2.2.2.2.2.1
theorem zo_C98 (h : zO b e D A X) : (∀ s, X s → ∃ q, e 98 = .ref q ∧ va_OF "java/lang/String" "coder" "B" (rx_v (zV b e D A X) 0) q (fun q => b ≤ q) s s.heap) := h.2.2.2.2.2.2.2.2.2.2.2.2.2.1.2.2.2.2.2.2.2.2.2.2.1
theorem zo_O98 (h : zO b e D A X) : (∀ s, X s → ∃ q, e 98 = .ref q ∧ va_O "java/lang/String" q (fun q => b ≤ q) s s.heap) := h.2.2.2.2.2.2.2.2.2.2.2.2.2.1.2.2.2.2.2.2.2.2.2.2.2.1
theorem zo_B99 (h : zO b e D A X) : (∀ s, X s → ∃ q, e 99 = .ref q ∧ va_T .byte q 4 (fun j => rx_v (zV b e D A X) (rx_nth zbs99 j 7)) (fun q => b ≤ q) s s.heap) := h.2.2.2.2.2.2.2.2.2.2.2.2.2.1.2.2.2.2.2.2.2.2.2.2.2.2.1
theorem zo_R100 (h : zO b e D A X) : (∀ s, X s → ∃ q, e 100 = .ref q ∧ vk_R RX13 455 "super" q s) := h.2.2.2.2.2.2.2.2.2.2.2.2.2.1.2.2.2.2.2.2.2.2.2.2.2.2.2.1
theorem zo_V100 (h : zO b e D A X) : (∀ s, X s → ∃ q, e 100 = .ref q ∧ va_OF "java/lang/String" "value" "[B" (rx_v (zV b e D A X) 812) q (fun q => b ≤ q) s s.heap) := h.2.2.2.2.2.2.2.2.2.2.2.2.2.1.2.2.2.2.2.2.2.2.2.2.2.2.2.2.1
theorem zo_C100 (h : zO b e D A X) : (∀ s, X s → ∃ q, e 100 = .ref q ∧ va_OF "java/lang/String" "coder" "B" (rx_v (zV b e D A X) 0) q (fun q => b ≤ q) s s.heap) := h.2.2.2.2.2.2.2.2.2.2.2.2.2.1.2.2.2.2.2.2.2.2.2.2.2.2.2.2.2.1
theorem zo_O100 (h : zO b e D A X) : (∀ s, X s → ∃ q, e 100 = .ref q ∧ va_O "java/lang/String" q (fun q => b ≤ q) s s.heap) := h.2.2.2.2.2.2.2.2.2.2.2.2.2.1.2.2.2.2.2.2.2.2.2.2.2.2.2.2.2.2.1
theorem zo_B101 (h : zO b e D A X) : (∀ s, X s → ∃ q, e 101 = .ref q ∧ va_T .byte q 5 (fun j => rx_v (zV b e D A X) (rx_nth zbs101 j 7)) (fun q => b ≤ q) s s.heap) := h.2.2.2.2.2.2.2.2.2.2.2.2.2.1.2.2.2.2.2.2.2.2.2.2.2.2.2.2.2.2.2.1
theorem zo_R102 (h : zO b e D A X) : (∀ s, X s → ∃ q, e 102 = .ref q ∧ vk_R RX13 460 "let" q s) := h.2.2.2.2.2.2.2.2.2.2.2.2.2.1.2.2.2.2.2.2.2.2.2.2.2.2.2.2.2.2.2.2.1
theorem zo_V102 (h : zO b e D A X) : (∀ s, X s → ∃ q, e 102 = .ref q ∧ va_OF "java/lang/String" "value" "[B" (rx_v (zV b e D A X) 828) q (fun q => b ≤ q) s s.heap) := h.2.2.2.2.2.2.2.2.2.2.2.2.2.1.2.2.2.2.2.2.2.2.2.2.2.2.2.2.2.2.2.2.2
theorem zo_C102 (h : zO b e D A X) : (∀ s, X s → ∃ q, e 102 = .ref q ∧ va_OF "java/lang/String" "coder" "B" (rx_v (zV b e D A X) 0) q (fun q => b ≤ q) s s.heap) := h.2.2.2.2.2.2.2.2.2.2.2.2.2.2.1.1
theorem zo_O102 (h : zO b e D A X) : (∀ s, X s → ∃ q, e 102 = .ref q ∧ va_O "java/lang/String" q (fun q => b ≤ q) s s.heap) := h.2.2.2.2.2.2.2.2.2.2.2.2.2.2.1.2.1
theorem zo_B103 (h : zO b e D A X) : (∀ s, X s → ∃ q, e 103 = .ref q ∧ va_T .byte q 3 (fun j => rx_v (zV b e D A X) (rx_nth zbs103 j 7)) (fun q => b ≤ q) s s.heap) := h.2.2.2.2.2.2.2.2.2.2.2.2.2.2.1.2.2.1
theorem zo_R104 (h : zO b e D A X) : (∀ s, X s → ∃ q, e 104 = .ref q ∧ vk_R RX13 462 "if" q s) := h.2.2.2.2.2.2.2.2.2.2.2.2.2.2.1.2.2.2.1
theorem zo_V104 (h : zO b e D A X) : (∀ s, X s → ∃ q, e 104 = .ref q ∧ va_OF "java/lang/String" "value" "[B" (rx_v (zV b e D A X) 844) q (fun q => b ≤ q) s s.heap) := h.2.2.2.2.2.2.2.2.2.2.2.2.2.2.1.2.2.2.2.1
theorem zo_C104 (h : zO b e D A X) : (∀ s, X s → ∃ q, e 104 = .ref q ∧ va_OF "java/lang/String" "coder" "B" (rx_v (zV b e D A X) 0) q (fun q => b ≤ q) s s.heap) := h.2.2.2.2.2.2.2.2.2.2.2.2.2.2.1.2.2.2.2.2.1
theorem zo_O104 (h : zO b e D A X) : (∀ s, X s → ∃ q, e 104 = .ref q ∧ va_O "java/lang/String" q (fun q => b ≤ q) s s.heap) := h.2.2.2.2.2.2.2.2.2.2.2.2.2.2.1.2.2.2.2.2.2.1
theorem zo_B105 (h : zO b e D A X) : (∀ s, X s → ∃ q, e 105 = .ref q ∧ va_T .byte q 2 (fun j => rx_v (zV b e D A X) (rx_nth zbs105 j 7)) (fun q => b ≤ q) s s.heap) := h.2.2.2.2.2.2.2.2.2.2.2.2.2.2.1.2.2.2.2.2.2.2.1
theorem zo_R106 (h : zO b e D A X) : (∀ s, X s → ∃ q, e 106 = .ref q ∧ vk_R RX13 464 "while" q s) := h.2.2.2.2.2.2.2.2.2.2.2.2.2.2.1.2.2.2.2.2.2.2.2.1
theorem zo_V106 (h : zO b e D A X) : (∀ s, X s → ∃ q, e 106 = .ref q ∧ va_OF "java/lang/String" "value" "[B" (rx_v (zV b e D A X) 860) q (fun q => b ≤ q) s s.heap) := h.2.2.2.2.2.2.2.2.2.2.2.2.2.2.1.2.2.2.2.2.2.2.2.2.1
theorem zo_C106 (h : zO b e D A X) : (∀ s, X s → ∃ q, e 106 = .ref q ∧ va_OF "java/lang/String" "coder" "B" (rx_v (zV b e D A X) 0) q (fun q => b ≤ q) s s.heap) := h.2.2.2.2.2.2.2.2.2.2.2.2.2.2.1.2.2.2.2.2.2.2.2.2.2.1
theorem zo_O106 (h : zO b e D A X) : (∀ s, X s → ∃ q, e 106 = .ref q ∧ va_O "java/lang/String" q (fun q => b ≤ q) s s.heap) := h.2.2.2.2.2.2.2.2.2.2.2.2.2.2.1.2.2.2.2.2.2.2.2.2.2.2.1
theorem zo_B107 (h : zO b e D A X) : (∀ s, X s → ∃ q, e 107 = .ref q ∧ va_T .byte q 5 (fun j => rx_v (zV b e D A X) (rx_nth zbs107 j 7)) (fun q => b ≤ q) s s.heap) := h.2.2.2.2.2.2.2.2.2.2.2.2.2.2.1.2.2.2.2.2.2.2.2.2.2.2.2.1
theorem zo_R108 (h : zO b e D A X) : (∀ s, X s → ∃ q, e 108 = .ref q ∧ vk_R RX13 466 "return" q s) := h.2.2.2.2.2.2.2.2.2.2.2.2.2.2.1.2.2.2.2.2.2.2.2.2.2.2.2.2.1
theorem zo_V108 (h : zO b e D A X) : (∀ s, X s → ∃ q, e 108 = .ref q ∧ va_OF "java/lang/String" "value" "[B" (rx_v (zV b e D A X) 876) q (fun q => b ≤ q) s s.heap) := h.2.2.2.2.2.2.2.2.2.2.2.2.2.2.1.2.2.2.2.2.2.2.2.2.2.2.2.2.2.1
theorem zo_C108 (h : zO b e D A X) : (∀ s, X s → ∃ q, e 108 = .ref q ∧ va_OF "java/lang/String" "coder" "B" (rx_v (zV b e D A X) 0) q (fun q => b ≤ q) s s.heap) := h.2.2.2.2.2.2.2.2.2.2.2.2.2.2.1.2.2.2.2.2.2.2.2.2.2.2.2.2.2.2.1
theorem zo_O108 (h : zO b e D A X) : (∀ s, X s → ∃ q, e 108 = .ref q ∧ va_O "java/lang/String" q (fun q => b ≤ q) s s.heap) := h.2.2.2.2.2.2.2.2.2.2.2.2.2.2.1.2.2.2.2.2.2.2.2.2.2.2.2.2.2.2.2.1
theorem zo_B109 (h : zO b e D A X) : (∀ s, X s → ∃ q, e 109 = .ref q ∧ va_T .byte q 6 (fun j => rx_v (zV b e D A X) (rx_nth zbs109 j 7)) (fun q => b ≤ q) s s.heap) := h.2.2.2.2.2.2.2.2.2.2.2.2.2.2.1.2.2.2.2.2.2.2.2.2.2.2.2.2.2.2.2.2.1
theorem zo_R110 (h : zO b e D A X) : (∀ s, X s → ∃ q, e 110 = .ref q ∧ vk_R RX13 468 "throw" q s) := h.2.2.2.2.2.2.2.2.2.2.2.2.2.2.1.2.2.2.2.2.2.2.2.2.2.2.2.2.2.2.2.2.2.1
theorem zo_V110 (h : zO b e D A X) : (∀ s, X s → ∃ q, e 110 = .ref q ∧ va_OF "java/lang/String" "value" "[B" (rx_v (zV b e D A X) 892) q (fun q => b ≤ q) s s.heap) := h.2.2.2.2.2.2.2.2.2.2.2.2.2.2.1.2.2.2.2.2.2.2.2.2.2.2.2.2.2.2.2.2.2.2
theorem zo_C110 (h : zO b e D A X) : (∀ s, X s → ∃ q, e 110 = .ref q ∧ va_OF "java/lang/String" "coder" "B" (rx_v (zV b e D A X) 0) q (fun q => b ≤ q) s s.heap) := h.2.2.2.2.2.2.2.2.2.2.2.2.2.2.2.1.1
theorem zo_O110 (h : zO b e D A X) : (∀ s, X s → ∃ q, e 110 = .ref q ∧ va_O "java/lang/String" q (fun q => b ≤ q) s s.heap) := h.2.2.2.2.2.2.2.2.2.2.2.2.2.2.2.1.2.1
theorem zo_B111 (h : zO b e D A X) : (∀ s, X s → ∃ q, e 111 = .ref q ∧ va_T .byte q 5 (fun j => rx_v (zV b e D A X) (rx_nth zbs111 j 7)) (fun q => b ≤ q) s s.heap) := h.2.2.2.2.2.2.2.2.2.2.2.2.2.2.2.1.2.2.1
theorem zo_R112 (h : zO b e D A X) : (∀ s, X s → ∃ q, e 112 = .ref q ∧ vk_R RX13 470 "try" q s) := h.2.2.2.2.2.2.2.2.2.2.2.2.2.2.2.1.2.2.2.1
theorem zo_V112 (h : zO b e D A X) : (∀ s, X s → ∃ q, e 112 = .ref q ∧ va_OF "java/lang/String" "value" "[B" (rx_v (zV b e D A X) 908) q (fun q => b ≤ q) s s.heap) := h.2.2.2.2.2.2.2.2.2.2.2.2.2.2.2.1.2.2.2.2.1
theorem zo_C112 (h : zO b e D A X) : (∀ s, X s → ∃ q, e 112 = .ref q ∧ va_OF "java/lang/String" "coder" "B" (rx_v (zV b e D A X) 0) q (fun q => b ≤ q) s s.heap) := h.2.2.2.2.2.2.2.2.2.2.2.2.2.2.2.1.2.2.2.2.2.1
theorem zo_O112 (h : zO b e D A X) : (∀ s, X s → ∃ q, e 112 = .ref q ∧ va_O "java/lang/String" q (fun q => b ≤ q) s s.heap) := h.2.2.2.2.2.2.2.2.2.2.2.2.2.2.2.1.2.2.2.2.2.2.1
theorem zo_B113 (h : zO b e D A X) : (∀ s, X s → ∃ q, e 113 = .ref q ∧ va_T .byte q 3 (fun j => rx_v (zV b e D A X) (rx_nth zbs113 j 7)) (fun q => b ≤ q) s s.heap) := h.2.2.2.2.2.2.2.2.2.2.2.2.2.2.2.1.2.2.2.2.2.2.2.1
theorem zo_R114 (h : zO b e D A X) : (∀ s, X s → ∃ q, e 114 = .ref q ∧ vk_R RX13 472 "out" q s) := h.2.2.2.2.2.2.2.2.2.2.2.2.2.2.2.1.2.2.2.2.2.2.2.2.1
theorem zo_V114 (h : zO b e D A X) : (∀ s, X s → ∃ q, e 114 = .ref q ∧ va_OF "java/lang/String" "value" "[B" (rx_v (zV b e D A X) 924) q (fun q => b ≤ q) s s.heap) := h.2.2.2.2.2.2.2.2.2.2.2.2.2.2.2.1.2.2.2.2.2.2.2.2.2.1
theorem zo_C114 (h : zO b e D A X) : (∀ s, X s → ∃ q, e 114 = .ref q ∧ va_OF "java/lang/String" "coder" "B" (rx_v (zV b e D A X) 0) q (fun q => b ≤ q) s s.heap) := h.2.2.2.2.2.2.2.2.2.2.2.2.2.2.2.1.2.2.2.2.2.2.2.2.2.2.1
theorem zo_O114 (h : zO b e D A X) : (∀ s, X s → ∃ q, e 114 = .ref q ∧ va_O "java/lang/String" q (fun q => b ≤ q) s s.heap) := h.2.2.2.2.2.2.2.2.2.2.2.2.2.2.2.1.2.2.2.2.2.2.2.2.2.2.2.1
theorem zo_B115 (h : zO b e D A X) : (∀ s, X s → ∃ q, e 115 = .ref q ∧ va_T .byte q 3 (fun j => rx_v (zV b e D A X) (rx_nth zbs115 j 7)) (fun q => b ≤ q) s s.heap) := h.2.2.2.2.2.2.2.2.2.2.2.2.2.2.2.1.2.2.2.2.2.2.2.2.2.2.2.2.1
theorem zo_R116 (h : zO b e D A X) : (∀ s, X s → ∃ q, e 116 = .ref q ∧ vk_R RX13 486 "else" q s) := h.2.2.2.2.2.2.2.2.2.2.2.2.2.2.2.1.2.2.2.2.2.2.2.2.2.2.2.2.2.1
theorem zo_V116 (h : zO b e D A X) : (∀ s, X s → ∃ q, e 116 = .ref q ∧ va_OF "java/lang/String" "value" "[B" (rx_v (zV b e D A X) 940) q (fun q => b ≤ q) s s.heap) := h.2.2.2.2.2.2.2.2.2.2.2.2.2.2.2.1.2.2.2.2.2.2.2.2.2.2.2.2.2.2.1
theorem zo_C116 (h : zO b e D A X) : (∀ s, X s → ∃ q, e 116 = .ref q ∧ va_OF "java/lang/String" "coder" "B" (rx_v (zV b e D A X) 0) q (fun q => b ≤ q) s s.heap) := h.2.2.2.2.2.2.2.2.2.2.2.2.2.2.2.1.2.2.2.2.2.2.2.2.2.2.2.2.2.2.2.1
theorem zo_O116 (h : zO b e D A X) : (∀ s, X s → ∃ q, e 116 = .ref q ∧ va_O "java/lang/String" q (fun q => b ≤ q) s s.heap) := h.2.2.2.2.2.2.2.2.2.2.2.2.2.2.2.1.2.2.2.2.2.2.2.2.2.2.2.2.2.2.2.2.1
theorem zo_B117 (h : zO b e D A X) : (∀ s, X s → ∃ q, e 117 = .ref q ∧ va_T .byte q 4 (fun j => rx_v (zV b e D A X) (rx_nth zbs117 j 7)) (fun q => b ≤ q) s s.heap) := h.2.2.2.2.2.2.2.2.2.2.2.2.2.2.2.1.2.2.2.2.2.2.2.2.2.2.2.2.2.2.2.2.2.1
theorem zo_R118 (h : zO b e D A X) : (∀ s, X s → ∃ q, e 118 = .ref q ∧ vk_R RX13 500 "catch" q s) := h.2.2.2.2.2.2.2.2.2.2.2.2.2.2.2.1.2.2.2.2.2.2.2.2.2.2.2.2.2.2.2.2.2.2.1
theorem zo_V118 (h : zO b e D A X) : (∀ s, X s → ∃ q, e 118 = .ref q ∧ va_OF "java/lang/String" "value" "[B" (rx_v (zV b e D A X) 956) q (fun q => b ≤ q) s s.heap) := h.2.2.2.2.2.2.2.2.2.2.2.2.2.2.2.1.2.2.2.2.2.2.2.2.2.2.2.2.2.2.2.2.2.2.2
theorem zo_C118 (h : zO b e D A X) : (∀ s, X s → ∃ q, e 118 = .ref q ∧ va_OF "java/lang/String" "coder" "B" (rx_v (zV b e D A X) 0) q (fun q => b ≤ q) s s.heap) := h.2.2.2.2.2.2.2.2.2.2.2.2.2.2.2.2.1.1
theorem zo_O118 (h : zO b e D A X) : (∀ s, X s → ∃ q, e 118 = .ref q ∧ va_O "java/lang/String" q (fun q => b ≤ q) s s.heap) := h.2.2.2.2.2.2.2.2.2.2.2.2.2.2.2.2.1.2.1
theorem zo_B119 (h : zO b e D A X) : (∀ s, X s → ∃ q, e 119 = .ref q ∧ va_T .byte q 5 (fun j => rx_v (zV b e D A X) (rx_nth zbs119 j 7)) (fun q => b ≤ q) s s.heap) := h.2.2.2.2.2.2.2.2.2.2.2.2.2.2.2.2.1.2.2.1
theorem zo_R120 (h : zO b e D A X) : (∀ s, X s → ∃ q, e 120 = .ref q ∧ vk_R RX13 514 "ask" q s) := h.2.2.2.2.2.2.2.2.2.2.2.2.2.2.2.2.1.2.2.2.1
theorem zo_V120 (h : zO b e D A X) : (∀ s, X s → ∃ q, e 120 = .ref q ∧ va_OF "java/lang/String" "value" "[B" (rx_v (zV b e D A X) 972) q (fun q => b ≤ q) s s.heap) := h.2.2.2.2.2.2.2.2.2.2.2.2.2.2.2.2.1.2.2.2.2.1
theorem zo_C120 (h : zO b e D A X) : (∀ s, X s → ∃ q, e 120 = .ref q ∧ va_OF "java/lang/String" "coder" "B" (rx_v (zV b e D A X) 0) q (fun q => b ≤ q) s s.heap) := h.2.2.2.2.2.2.2.2.2.2.2.2.2.2.2.2.1.2.2.2.2.2.1
theorem zo_O120 (h : zO b e D A X) : (∀ s, X s → ∃ q, e 120 = .ref q ∧ va_O "java/lang/String" q (fun q => b ≤ q) s s.heap) := h.2.2.2.2.2.2.2.2.2.2.2.2.2.2.2.2.1.2.2.2.2.2.2.1
theorem zo_B121 (h : zO b e D A X) : (∀ s, X s → ∃ q, e 121 = .ref q ∧ va_T .byte q 3 (fun j => rx_v (zV b e D A X) (rx_nth zbs121 j 7)) (fun q => b ≤ q) s s.heap) := h.2.2.2.2.2.2.2.2.2.2.2.2.2.2.2.2.1.2.2.2.2.2.2.2.1
theorem zo_R122 (h : zO b e D A X) : (∀ s, X s → ∃ q, e 122 = .ref q ∧ vk_R RX13 526 "code" q s) := h.2.2.2.2.2.2.2.2.2.2.2.2.2.2.2.2.1.2.2.2.2.2.2.2.2.1
theorem zo_V122 (h : zO b e D A X) : (∀ s, X s → ∃ q, e 122 = .ref q ∧ va_OF "java/lang/String" "value" "[B" (rx_v (zV b e D A X) 988) q (fun q => b ≤ q) s s.heap) := h.2.2.2.2.2.2.2.2.2.2.2.2.2.2.2.2.1.2.2.2.2.2.2.2.2.2.1
theorem zo_C122 (h : zO b e D A X) : (∀ s, X s → ∃ q, e 122 = .ref q ∧ va_OF "java/lang/String" "coder" "B" (rx_v (zV b e D A X) 0) q (fun q => b ≤ q) s s.heap) := h.2.2.2.2.2.2.2.2.2.2.2.2.2.2.2.2.1.2.2.2.2.2.2.2.2.2.2.1
theorem zo_O122 (h : zO b e D A X) : (∀ s, X s → ∃ q, e 122 = .ref q ∧ va_O "java/lang/String" q (fun q => b ≤ q) s s.heap) := h.2.2.2.2.2.2.2.2.2.2.2.2.2.2.2.2.1.2.2.2.2.2.2.2.2.2.2.2.1
theorem zo_B123 (h : zO b e D A X) : (∀ s, X s → ∃ q, e 123 = .ref q ∧ va_T .byte q 4 (fun j => rx_v (zV b e D A X) (rx_nth zbs123 j 7)) (fun q => b ≤ q) s s.heap) := h.2.2.2.2.2.2.2.2.2.2.2.2.2.2.2.2.1.2.2.2.2.2.2.2.2.2.2.2.2.1
theorem zo_R124 (h : zO b e D A X) : (∀ s, X s → ∃ q, e 124 = .ref q ∧ vk_R RX13 1013 "," q s) := h.2.2.2.2.2.2.2.2.2.2.2.2.2.2.2.2.1.2.2.2.2.2.2.2.2.2.2.2.2.2.1
theorem zo_V124 (h : zO b e D A X) : (∀ s, X s → ∃ q, e 124 = .ref q ∧ va_OF "java/lang/String" "value" "[B" (rx_v (zV b e D A X) 1004) q (fun q => b ≤ q) s s.heap) := h.2.2.2.2.2.2.2.2.2.2.2.2.2.2.2.2.1.2.2.2.2.2.2.2.2.2.2.2.2.2.2.1
theorem zo_C124 (h : zO b e D A X) : (∀ s, X s → ∃ q, e 124 = .ref q ∧ va_OF "java/lang/String" "coder" "B" (rx_v (zV b e D A X) 0) q (fun q => b ≤ q) s s.heap) := h.2.2.2.2.2.2.2.2.2.2.2.2.2.2.2.2.1.2.2.2.2.2.2.2.2.2.2.2.2.2.2.2.1
theorem zo_O124 (h : zO b e D A X) : (∀ s, X s → ∃ q, e 124 = .ref q ∧ va_O "java/lang/String" q (fun q => b ≤ q) s s.heap) := h.2.2.2.2.2.2.2.2.2.2.2.2.2.2.2.2.1.2.2.2.2.2.2.2.2.2.2.2.2.2.2.2.2.1
theorem zo_B125 (h : zO b e D A X) : (∀ s, X s → ∃ q, e 125 = .ref q ∧ va_T .byte q 1 (fun j => rx_v (zV b e D A X) (rx_nth zbs125 j 7)) (fun q => b ≤ q) s s.heap) := h.2.2.2.2.2.2.2.2.2.2.2.2.2.2.2.2.1.2.2.2.2.2.2.2.2.2.2.2.2.2.2.2.2.2.1
theorem zo_R126 (h : zO b e D A X) : (∀ s, X s → ∃ q, e 126 = .ref q ∧ vk_R RX13 1018 "open " q s) := h.2.2.2.2.2.2.2.2.2.2.2.2.2.2.2.2.1.2.2.2.2.2.2.2.2.2.2.2.2.2.2.2.2.2.2.1
theorem zo_V126 (h : zO b e D A X) : (∀ s, X s → ∃ q, e 126 = .ref q ∧ va_OF "java/lang/String" "value" "[B" (rx_v (zV b e D A X) 1020) q (fun q => b ≤ q) s s.heap) := h.2.2.2.2.2.2.2.2.2.2.2.2.2.2.2.2.1.2.2.2.2.2.2.2.2.2.2.2.2.2.2.2.2.2.2.2
theorem zo_C126 (h : zO b e D A X) : (∀ s, X s → ∃ q, e 126 = .ref q ∧ va_OF "java/lang/String" "coder" "B" (rx_v (zV b e D A X) 0) q (fun q => b ≤ q) s s.heap) := h.2.2.2.2.2.2.2.2.2.2.2.2.2.2.2.2.2.1.1
theorem zo_O126 (h : zO b e D A X) : (∀ s, X s → ∃ q, e 126 = .ref q ∧ va_O "java/lang/String" q (fun q => b ≤ q) s s.heap) := h.2.2.2.2.2.2.2.2.2.2.2.2.2.2.2.2.2.1.2.1
theorem zo_B127 (h : zO b e D A X) : (∀ s, X s → ∃ q, e 127 = .ref q ∧ va_T .byte q 5 (fun j => rx_v (zV b e D A X) (rx_nth zbs127 j 7)) (fun q => b ≤ q) s s.heap) := h.2.2.2.2.2.2.2.2.2.2.2.2.2.2.2.2.2.1.2.2.1
theorem zo_R128 (h : zO b e D A X) : (∀ s, X s → ∃ q, e 128 = .ref q ∧ vk_R RX13 1022 "final class " q s) := h.2.2.2.2.2.2.2.2.2.2.2.2.2.2.2.2.2.1.2.2.2.1
theorem zo_V128 (h : zO b e D A X) : (∀ s, X s → ∃ q, e 128 = .ref q ∧ va_OF "java/lang/String" "value" "[B" (rx_v (zV b e D A X) 1036) q (fun q => b ≤ q) s s.heap) := h.2.2.2.2.2.2.2.2.2.2.2.2.2.2.2.2.2.1.2.2.2.2.1
theorem zo_C128 (h : zO b e D A X) : (∀ s, X s → ∃ q, e 128 = .ref q ∧ va_OF "java/lang/String" "coder" "B" (rx_v (zV b e D A X) 0) q (fun q => b ≤ q) s s.heap) := h.2.2.2.2.2.2.2.2.2.2.2.2.2.2.2.2.2.1.2.2.2.2.2.1
theorem zo_O128 (h : zO b e D A X) : (∀ s, X s → ∃ q, e 128 = .ref q ∧ va_O "java/lang/String" q (fun q => b ≤ q) s s.heap) := h.2.2.2.2.2.2.2.2.2.2.2.2.2.2.2.2.2.1.2.2.2.2.2.2.1
theorem zo_B129 (h : zO b e D A X) : (∀ s, X s → ∃ q, e 129 = .ref q ∧ va_T .byte q 12 (fun j => rx_v (zV b e D A X) (rx_nth zbs129 j 7)) (fun q => b ≤ q) s s.heap) := h.2.2.2.2.2.2.2.2.2.2.2.2.2.2.2.2.2.1.2.2.2.2.2.2.2.1
theorem zo_R130 (h : zO b e D A X) : (∀ s, X s → ∃ q, e 130 = .ref q ∧ vk_R RX13 1030 " is " q s) := h.2.2.2.2.2.2.2.2.2.2.2.2.2.2.2.2.2.1.2.2.2.2.2.2.2.2.1
theorem zo_V130 (h : zO b e D A X) : (∀ s, X s → ∃ q, e 130 = .ref q ∧ va_OF "java/lang/String" "value" "[B" (rx_v (zV b e D A X) 1052) q (fun q => b ≤ q) s s.heap) := h.2.2.2.2.2.2.2.2.2.2.2.2.2.2.2.2.2.1.2.2.2.2.2.2.2.2.2.1
theorem zo_C130 (h : zO b e D A X) : (∀ s, X s → ∃ q, e 130 = .ref q ∧ va_OF "java/lang/String" "coder" "B" (rx_v (zV b e D A X) 0) q (fun q => b ≤ q) s s.heap) := h.2.2.2.2.2.2.2.2.2.2.2.2.2.2.2.2.2.1.2.2.2.2.2.2.2.2.2.2.1
theorem zo_O130 (h : zO b e D A X) : (∀ s, X s → ∃ q, e 130 = .ref q ∧ va_O "java/lang/String" q (fun q => b ≤ q) s s.heap) := h.2.2.2.2.2.2.2.2.2.2.2.2.2.2.2.2.2.1.2.2.2.2.2.2.2.2.2.2.2.1
theorem zo_B131 (h : zO b e D A X) : (∀ s, X s → ∃ q, e 131 = .ref q ∧ va_T .byte q 4 (fun j => rx_v (zV b e D A X) (rx_nth zbs131 j 7)) (fun q => b ≤ q) s s.heap) := h.2.2.2.2.2.2.2.2.2.2.2.2.2.2.2.2.2.1.2.2.2.2.2.2.2.2.2.2.2.2.1
theorem zo_R132 (h : zO b e D A X) : (∀ s, X s → ∃ q, e 132 = .ref q ∧ vk_R RX13 1032 " as " q s) := h.2.2.2.2.2.2.2.2.2.2.2.2.2.2.2.2.2.1.2.2.2.2.2.2.2.2.2.2.2.2.2.1
theorem zo_V132 (h : zO b e D A X) : (∀ s, X s → ∃ q, e 132 = .ref q ∧ va_OF "java/lang/String" "value" "[B" (rx_v (zV b e D A X) 1068) q (fun q => b ≤ q) s s.heap) := h.2.2.2.2.2.2.2.2.2.2.2.2.2.2.2.2.2.1.2.2.2.2.2.2.2.2.2.2.2.2.2.2.1
theorem zo_C132 (h : zO b e D A X) : (∀ s, X s → ∃ q, e 132 = .ref q ∧ va_OF "java/lang/String" "coder" "B" (rx_v (zV b e D A X) 0) q (fun q => b ≤ q) s s.heap) := h.2.2.2.2.2.2.2.2.2.2.2.2.2.2.2.2.2.1.2.2.2.2.2.2.2.2.2.2.2.2.2.2.2.1
theorem zo_O132 (h : zO b e D A X) : (∀ s, X s → ∃ q, e 132 = .ref q ∧ va_O "java/lang/String" q (fun q => b ≤ q) s s.heap) := h.2.2.2.2.2.2.2.2.2.2.2.2.2.2.2.2.2.1.2.2.2.2.2.2.2.2.2.2.2.2.2.2.2.2.1
theorem zo_B133 (h : zO b e D A X) : (∀ s, X s → ∃ q, e 133 = .ref q ∧ va_T .byte q 4 (fun j => rx_v (zV b e D A X) (rx_nth zbs133 j 7)) (fun q => b ≤ q) s s.heap) := h.2.2.2.2.2.2.2.2.2.2.2.2.2.2.2.2.2.1.2.2.2.2.2.2.2.2.2.2.2.2.2.2.2.2.2.1
theorem zo_R134 (h : zO b e D A X) : (∀ s, X s → ∃ q, e 134 = .ref q ∧ vk_R RX13 1038 " in " q s) := h.2.2.2.2.2.2.2.2.2.2.2.2.2.2.2.2.2.1.2.2.2.2.2.2.2.2.2.2.2.2.2.2.2.2.2.2.1
theorem zo_V134 (h : zO b e D A X) : (∀ s, X s → ∃ q, e 134 = .ref q ∧ va_OF "java/lang/String" "value" "[B" (rx_v (zV b e D A X) 1084) q (fun q => b ≤ q) s s.heap) := h.2.2.2.2.2.2.2.2.2.2.2.2.2.2.2.2.2.1.2.2.2.2.2.2.2.2.2.2.2.2.2.2.2.2.2.2.2
theorem zo_C134 (h : zO b e D A X) : (∀ s, X s → ∃ q, e 134 = .ref q ∧ va_OF "java/lang/String" "coder" "B" (rx_v (zV b e D A X) 0) q (fun q => b ≤ q) s s.heap) := h.2.2.2.2.2.2.2.2.2.2.2.2.2.2.2.2.2.2.1.1
theorem zo_O134 (h : zO b e D A X) : (∀ s, X s → ∃ q, e 134 = .ref q ∧ va_O "java/lang/String" q (fun q => b ≤ q) s s.heap) := h.2.2.2.2.2.2.2.2.2.2.2.2.2.2.2.2.2.2.1.2.1
theorem zo_B135 (h : zO b e D A X) : (∀ s, X s → ∃ q, e 135 = .ref q ∧ va_T .byte q 4 (fun j => rx_v (zV b e D A X) (rx_nth zbs135 j 7)) (fun q => b ≤ q) s s.heap) := h.2.2.2.2.2.2.2.2.2.2.2.2.2.2.2.2.2.2.1.2.2.1
theorem zo_R136 (h : zO b e D A X) : (∀ s, X s → ∃ q, e 136 = .ref q ∧ vk_R RX13 1040 " with " q s) := h.2.2.2.2.2.2.2.2.2.2.2.2.2.2.2.2.2.2.1.2.2.2.1
theorem zo_V136 (h : zO b e D A X) : (∀ s, X s → ∃ q, e 136 = .ref q ∧ va_OF "java/lang/String" "value" "[B" (rx_v (zV b e D A X) 1100) q (fun q => b ≤ q) s s.heap) := h.2.2.2.2.2.2.2.2.2.2.2.2.2.2.2.2.2.2.1.2.2.2.2.1
theorem zo_C136 (h : zO b e D A X) : (∀ s, X s → ∃ q, e 136 = .ref q ∧ va_OF "java/lang/String" "coder" "B" (rx_v (zV b e D A X) 0) q (fun q => b ≤ q) s s.heap) := h.2.2.2.2.2.2.2.2.2.2.2.2.2.2.2.2.2.2.1.2.2.2.2.2.1
theorem zo_O136 (h : zO b e D A X) : (∀ s, X s → ∃ q, e 136 = .ref q ∧ va_O "java/lang/String" q (fun q => b ≤ q) s s.heap) := h.2.2.2.2.2.2.2.2.2.2.2.2.2.2.2.2.2.2.1.2.2.2.2.2.2.1
theorem zo_B137 (h : zO b e D A X) : (∀ s, X s → ∃ q, e 137 = .ref q ∧ va_T .byte q 6 (fun j => rx_v (zV b e D A X) (rx_nth zbs137 j 7)) (fun q => b ≤ q) s s.heap) := h.2.2.2.2.2.2.2.2.2.2.2.2.2.2.2.2.2.2.1.2.2.2.2.2.2.2.1
theorem zo_R138 (h : zO b e D A X) : (∀ s, X s → ∃ q, e 138 = .ref q ∧ vk_R RX13 1042 " only " q s) := h.2.2.2.2.2.2.2.2.2.2.2.2.2.2.2.2.2.2.1.2.2.2.2.2.2.2.2.1
theorem zo_V138 (h : zO b e D A X) : (∀ s, X s → ∃ q, e 138 = .ref q ∧ va_OF "java/lang/String" "value" "[B" (rx_v (zV b e D A X) 1116) q (fun q => b ≤ q) s s.heap) := h.2.2.2.2.2.2.2.2.2.2.2.2.2.2.2.2.2.2.1.2.2.2.2.2.2.2.2.2.1
theorem zo_C138 (h : zO b e D A X) : (∀ s, X s → ∃ q, e 138 = .ref q ∧ va_OF "java/lang/String" "coder" "B" (rx_v (zV b e D A X) 0) q (fun q => b ≤ q) s s.heap) := h.2.2.2.2.2.2.2.2.2.2.2.2.2.2.2.2.2.2.1.2.2.2.2.2.2.2.2.2.2.1
theorem zo_O138 (h : zO b e D A X) : (∀ s, X s → ∃ q, e 138 = .ref q ∧ va_O "java/lang/String" q (fun q => b ≤ q) s s.heap) := h.2.2.2.2.2.2.2.2.2.2.2.2.2.2.2.2.2.2.1.2.2.2.2.2.2.2.2.2.2.2.1
theorem zo_B139 (h : zO b e D A X) : (∀ s, X s → ∃ q, e 139 = .ref q ∧ va_T .byte q 6 (fun j => rx_v (zV b e D A X) (rx_nth zbs139 j 7)) (fun q => b ≤ q) s s.heap) := h.2.2.2.2.2.2.2.2.2.2.2.2.2.2.2.2.2.2.1.2.2.2.2.2.2.2.2.2.2.2.2.1
theorem zo_R140 (h : zO b e D A X) : (∀ s, X s → ∃ q, e 140 = .ref q ∧ vk_R RX13 1024 "bare class " q s) := h.2.2.2.2.2.2.2.2.2.2.2.2.2.2.2.2.2.2.1.2.2.2.2.2.2.2.2.2.2.2.2.2.1
theorem zo_V140 (h : zO b e D A X) : (∀ s, X s → ∃ q, e 140 = .ref q ∧ va_OF "java/lang/String" "value" "[B" (rx_v (zV b e D A X) 1132) q (fun q => b ≤ q) s s.heap) := h.2.2.2.2.2.2.2.2.2.2.2.2.2.2.2.2.2.2.1.2.2.2.2.2.2.2.2.2.2.2.2.2.2.1
theorem zo_C140 (h : zO b e D A X) : (∀ s, X s → ∃ q, e 140 = .ref q ∧ va_OF "java/lang/String" "coder" "B" (rx_v (zV b e D A X) 0) q (fun q => b ≤ q) s s.heap) := h.2.2.2.2.2.2.2.2.2.2.2.2.2.2.2.2.2.2.1.2.2.2.2.2.2.2.2.2.2.2.2.2.2.2.1
theorem zo_O140 (h : zO b e D A X) : (∀ s, X s → ∃ q, e 140 = .ref q ∧ va_O "java/lang/String" q (fun q => b ≤ q) s s.heap) := h.2.2.2.2.2.2.2.2.2.2.2.2.2.2.2.2.2.2.1.2.2.2.2.2.2.2.2.2.2.2.2.2.2.2.2.1
theorem zo_B141 (h : zO b e D A X) : (∀ s, X s → ∃ q, e 141 = .ref q ∧ va_T .byte q 11 (fun j => rx_v (zV b e D A X) (rx_nth zbs141 j 7)) (fun q => b ≤ q) s s.heap) := h.2.2.2.2.2.2.2.2.2.2.2.2.2.2.2.2.2.2.1.2.2.2.2.2.2.2.2.2.2.2.2.2.2.2.2.2.1
theorem zo_R142 (h : zO b e D A X) : (∀ s, X s → ∃ q, e 142 = .ref q ∧ vk_R RX13 1026 "face " q s) := h.2.2.2.2.2.2.2.2.2.2.2.2.2.2.2.2.2.2.1.2.2.2.2.2.2.2.2.2.2.2.2.2.2.2.2.2.2.1
theorem zo_V142 (h : zO b e D A X) : (∀ s, X s → ∃ q, e 142 = .ref q ∧ va_OF "java/lang/String" "value" "[B" (rx_v (zV b e D A X) 1148) q (fun q => b ≤ q) s s.heap) := h.2.2.2.2.2.2.2.2.2.2.2.2.2.2.2.2.2.2.1.2.2.2.2.2.2.2.2.2.2.2.2.2.2.2.2.2.2.2
theorem zo_C142 (h : zO b e D A X) : (∀ s, X s → ∃ q, e 142 = .ref q ∧ va_OF "java/lang/String" "coder" "B" (rx_v (zV b e D A X) 0) q (fun q => b ≤ q) s s.heap) := h.2.2.2.2.2.2.2.2.2.2.2.2.2.2.2.2.2.2.2.1.1
theorem zo_O142 (h : zO b e D A X) : (∀ s, X s → ∃ q, e 142 = .ref q ∧ va_O "java/lang/String" q (fun q => b ≤ q) s s.heap) := h.2.2.2.2.2.2.2.2.2.2.2.2.2.2.2.2.2.2.2.1.2.1
theorem zo_B143 (h : zO b e D A X) : (∀ s, X s → ∃ q, e 143 = .ref q ∧ va_T .byte q 5 (fun j => rx_v (zV b e D A X) (rx_nth zbs143 j 7)) (fun q => b ≤ q) s s.heap) := h.2.2.2.2.2.2.2.2.2.2.2.2.2.2.2.2.2.2.2.1.2.2.1
theorem zo_R144 (h : zO b e D A X) : (∀ s, X s → ∃ q, e 144 = .ref q ∧ vk_R RX13 1028 "class " q s) := h.2.2.2.2.2.2.2.2.2.2.2.2.2.2.2.2.2.2.2.1.2.2.2.1
theorem zo_V144 (h : zO b e D A X) : (∀ s, X s → ∃ q, e 144 = .ref q ∧ va_OF "java/lang/String" "value" "[B" (rx_v (zV b e D A X) 1164) q (fun q => b ≤ q) s s.heap) := h.2.2.2.2.2.2.2.2.2.2.2.2.2.2.2.2.2.2.2.1.2.2.2.2.1
theorem zo_C144 (h : zO b e D A X) : (∀ s, X s → ∃ q, e 144 = .ref q ∧ va_OF "java/lang/String" "coder" "B" (rx_v (zV b e D A X) 0) q (fun q => b ≤ q) s s.heap) := h.2.2.2.2.2.2.2.2.2.2.2.2.2.2.2.2.2.2.2.1.2.2.2.2.2.1
theorem zo_O144 (h : zO b e D A X) : (∀ s, X s → ∃ q, e 144 = .ref q ∧ va_O "java/lang/String" q (fun q => b ≤ q) s s.heap) := h.2.2.2.2.2.2.2.2.2.2.2.2.2.2.2.2.2.2.2.1.2.2.2.2.2.2.1
theorem zo_B145 (h : zO b e D A X) : (∀ s, X s → ∃ q, e 145 = .ref q ∧ va_T .byte q 6 (fun j => rx_v (zV b e D A X) (rx_nth zbs145 j 7)) (fun q => b ≤ q) s s.heap) := h.2.2.2.2.2.2.2.2.2.2.2.2.2.2.2.2.2.2.2.1.2.2.2.2.2.2.2.1
theorem zo_R146 (h : zO b e D A X) : (∀ s, X s → ∃ q, e 146 = .ref q ∧ vk_R RX13 1020 "" q s) := h.2.2.2.2.2.2.2.2.2.2.2.2.2.2.2.2.2.2.2.1.2.2.2.2.2.2.2.2.1
theorem zo_V146 (h : zO b e D A X) : (∀ s, X s → ∃ q, e 146 = .ref q ∧ va_OF "java/lang/String" "value" "[B" (rx_v (zV b e D A X) 1180) q (fun q => b ≤ q) s s.heap) := h.2.2.2.2.2.2.2.2.2.2.2.2.2.2.2.2.2.2.2.1.2.2.2.2.2.2.2.2.2.1
theorem zo_C146 (h : zO b e D A X) : (∀ s, X s → ∃ q, e 146 = .ref q ∧ va_OF "java/lang/String" "coder" "B" (rx_v (zV b e D A X) 0) q (fun q => b ≤ q) s s.heap) := h.2.2.2.2.2.2.2.2.2.2.2.2.2.2.2.2.2.2.2.1.2.2.2.2.2.2.2.2.2.2.1
theorem zo_O146 (h : zO b e D A X) : (∀ s, X s → ∃ q, e 146 = .ref q ∧ va_O "java/lang/String" q (fun q => b ≤ q) s s.heap) := h.2.2.2.2.2.2.2.2.2.2.2.2.2.2.2.2.2.2.2.1.2.2.2.2.2.2.2.2.2.2.2.1
theorem zo_B147 (h : zO b e D A X) : (∀ s, X s → ∃ q, e 147 = .ref q ∧ va_T .byte q 0 (fun j => rx_v (zV b e D A X) (rx_nth zbs147 j 7)) (fun q => b ≤ q) s s.heap) := h.2.2.2.2.2.2.2.2.2.2.2.2.2.2.2.2.2.2.2.1.2.2.2.2.2.2.2.2.2.2.2.2.1
theorem zo_R148 (h : zO b e D A X) : (∀ s, X s → ∃ q, e 148 = .ref q ∧ vk_R RX13 1044 "bridge " q s) := h.2.2.2.2.2.2.2.2.2.2.2.2.2.2.2.2.2.2.2.1.2.2.2.2.2.2.2.2.2.2.2.2.2.1
theorem zo_V148 (h : zO b e D A X) : (∀ s, X s → ∃ q, e 148 = .ref q ∧ va_OF "java/lang/String" "value" "[B" (rx_v (zV b e D A X) 1196) q (fun q => b ≤ q) s s.heap) := h.2.2.2.2.2.2.2.2.2.2.2.2.2.2.2.2.2.2.2.1.2.2.2.2.2.2.2.2.2.2.2.2.2.2.1
theorem zo_C148 (h : zO b e D A X) : (∀ s, X s → ∃ q, e 148 = .ref q ∧ va_OF "java/lang/String" "coder" "B" (rx_v (zV b e D A X) 0) q (fun q => b ≤ q) s s.heap) := h.2.2.2.2.2.2.2.2.2.2.2.2.2.2.2.2.2.2.2.1.2.2.2.2.2.2.2.2.2.2.2.2.2.2.2.1
theorem zo_O148 (h : zO b e D A X) : (∀ s, X s → ∃ q, e 148 = .ref q ∧ va_O "java/lang/String" q (fun q => b ≤ q) s s.heap) := h.2.2.2.2.2.2.2.2.2.2.2.2.2.2.2.2.2.2.2.1.2.2.2.2.2.2.2.2.2.2.2.2.2.2.2.2.1
theorem zo_B149 (h : zO b e D A X) : (∀ s, X s → ∃ q, e 149 = .ref q ∧ va_T .byte q 7 (fun j => rx_v (zV b e D A X) (rx_nth zbs149 j 7)) (fun q => b ≤ q) s s.heap) := h.2.2.2.2.2.2.2.2.2.2.2.2.2.2.2.2.2.2.2.1.2.2.2.2.2.2.2.2.2.2.2.2.2.2.2.2.2.1
theorem zo_R150 (h : zO b e D A X) : (∀ s, X s → ∃ q, e 150 = .ref q ∧ vk_R RX13 1050 "static " q s) := h.2.2.2.2.2.2.2.2.2.2.2.2.2.2.2.2.2.2.2.1.2.2.2.2.2.2.2.2.2.2.2.2.2.2.2.2.2.2.1
theorem zo_V150 (h : zO b e D A X) : (∀ s, X s → ∃ q, e 150 = .ref q ∧ va_OF "java/lang/String" "value" "[B" (rx_v (zV b e D A X) 1212) q (fun q => b ≤ q) s s.heap) := h.2.2.2.2.2.2.2.2.2.2.2.2.2.2.2.2.2.2.2.1.2.2.2.2.2.2.2.2.2.2.2.2.2.2.2.2.2.2.2
theorem zo_C150 (h : zO b e D A X) : (∀ s, X s → ∃ q, e 150 = .ref q ∧ va_OF "java/lang/String" "coder" "B" (rx_v (zV b e D A X) 0) q (fun q => b ≤ q) s s.heap) := h.2.2.2.2.2.2.2.2.2.2.2.2.2.2.2.2.2.2.2.2.1.1
theorem zo_O150 (h : zO b e D A X) : (∀ s, X s → ∃ q, e 150 = .ref q ∧ va_O "java/lang/String" q (fun q => b ≤ q) s s.heap) := h.2.2.2.2.2.2.2.2.2.2.2.2.2.2.2.2.2.2.2.2.1.2.1
theorem zo_B151 (h : zO b e D A X) : (∀ s, X s → ∃ q, e 151 = .ref q ∧ va_T .byte q 7 (fun j => rx_v (zV b e D A X) (rx_nth zbs151 j 7)) (fun q => b ≤ q) s s.heap) := h.2.2.2.2.2.2.2.2.2.2.2.2.2.2.2.2.2.2.2.2.1.2.2.1
theorem zo_R152 (h : zO b e D A X) : (∀ s, X s → ∃ q, e 152 = .ref q ∧ vk_R RX13 1052 "final " q s) := h.2.2.2.2.2.2.2.2.2.2.2.2.2.2.2.2.2.2.2.2.1.2.2.2.1
theorem zo_V152 (h : zO b e D A X) : (∀ s, X s → ∃ q, e 152 = .ref q ∧ va_OF "java/lang/String" "value" "[B" (rx_v (zV b e D A X) 1228) q (fun q => b ≤ q) s s.heap) := h.2.2.2.2.2.2.2.2.2.2.2.2.2.2.2.2.2.2.2.2.1.2.2.2.2.1
theorem zo_C152 (h : zO b e D A X) : (∀ s, X s → ∃ q, e 152 = .ref q ∧ va_OF "java/lang/String" "coder" "B" (rx_v (zV b e D A X) 0) q (fun q => b ≤ q) s s.heap) := h.2.2.2.2.2.2.2.2.2.2.2.2.2.2.2.2.2.2.2.2.1.2.2.2.2.2.1
theorem zo_O152 (h : zO b e D A X) : (∀ s, X s → ∃ q, e 152 = .ref q ∧ va_O "java/lang/String" q (fun q => b ≤ q) s s.heap) := h.2.2.2.2.2.2.2.2.2.2.2.2.2.2.2.2.2.2.2.2.1.2.2.2.2.2.2.1
theorem zo_B153 (h : zO b e D A X) : (∀ s, X s → ∃ q, e 153 = .ref q ∧ va_T .byte q 6 (fun j => rx_v (zV b e D A X) (rx_nth zbs153 j 7)) (fun q => b ≤ q) s s.heap) := h.2.2.2.2.2.2.2.2.2.2.2.2.2.2.2.2.2.2.2.2.1.2.2.2.2.2.2.2.1
theorem zo_R154 (h : zO b e D A X) : (∀ s, X s → ∃ q, e 154 = .ref q ∧ vk_R RX13 1054 "bare " q s) := h.2.2.2.2.2.2.2.2.2.2.2.2.2.2.2.2.2.2.2.2.1.2.2.2.2.2.2.2.2.1
theorem zo_V154 (h : zO b e D A X) : (∀ s, X s → ∃ q, e 154 = .ref q ∧ va_OF "java/lang/String" "value" "[B" (rx_v (zV b e D A X) 1244) q (fun q => b ≤ q) s s.heap) := h.2.2.2.2.2.2.2.2.2.2.2.2.2.2.2.2.2.2.2.2.1.2.2.2.2.2.2.2.2.2.1
theorem zo_C154 (h : zO b e D A X) : (∀ s, X s → ∃ q, e 154 = .ref q ∧ va_OF "java/lang/String" "coder" "B" (rx_v (zV b e D A X) 0) q (fun q => b ≤ q) s s.heap) := h.2.2.2.2.2.2.2.2.2.2.2.2.2.2.2.2.2.2.2.2.1.2.2.2.2.2.2.2.2.2.2.1
theorem zo_O154 (h : zO b e D A X) : (∀ s, X s → ∃ q, e 154 = .ref q ∧ va_O "java/lang/String" q (fun q => b ≤ q) s s.heap) := h.2.2.2.2.2.2.2.2.2.2.2.2.2.2.2.2.2.2.2.2.1.2.2.2.2.2.2.2.2.2.2.2.1
theorem zo_B155 (h : zO b e D A X) : (∀ s, X s → ∃ q, e 155 = .ref q ∧ va_T .byte q 5 (fun j => rx_v (zV b e D A X) (rx_nth zbs155 j 7)) (fun q => b ≤ q) s s.heap) := h.2.2.2.2.2.2.2.2.2.2.2.2.2.2.2.2.2.2.2.2.1.2.2.2.2.2.2.2.2.2.2.2.2.1
theorem zo_R156 (h : zO b e D A X) : (∀ s, X s → ∃ q, e 156 = .ref q ∧ vk_R RX13 1046 "kin " q s) := h.2.2.2.2.2.2.2.2.2.2.2.2.2.2.2.2.2.2.2.2.1.2.2.2.2.2.2.2.2.2.2.2.2.2.1
theorem zo_V156 (h : zO b e D A X) : (∀ s, X s → ∃ q, e 156 = .ref q ∧ va_OF "java/lang/String" "value" "[B" (rx_v (zV b e D A X) 1260) q (fun q => b ≤ q) s s.heap) := h.2.2.2.2.2.2.2.2.2.2.2.2.2.2.2.2.2.2.2.2.1.2.2.2.2.2.2.2.2.2.2.2.2.2.2.1
theorem zo_C156 (h : zO b e D A X) : (∀ s, X s → ∃ q, e 156 = .ref q ∧ va_OF "java/lang/String" "coder" "B" (rx_v (zV b e D A X) 0) q (fun q => b ≤ q) s s.heap) := h.2.2.2.2.2.2.2.2.2.2.2.2.2.2.2.2.2.2.2.2.1.2.2.2.2.2.2.2.2.2.2.2.2.2.2.2.1
theorem zo_O156 (h : zO b e D A X) : (∀ s, X s → ∃ q, e 156 = .ref q ∧ va_O "java/lang/String" q (fun q => b ≤ q) s s.heap) := h.2.2.2.2.2.2.2.2.2.2.2.2.2.2.2.2.2.2.2.2.1.2.2.2.2.2.2.2.2.2.2.2.2.2.2.2.2.1
theorem zo_B157 (h : zO b e D A X) : (∀ s, X s → ∃ q, e 157 = .ref q ∧ va_T .byte q 4 (fun j => rx_v (zV b e D A X) (rx_nth zbs157 j 7)) (fun q => b ≤ q) s s.heap) := h.2.2.2.2.2.2.2.2.2.2.2.2.2.2.2.2.2.2.2.2.1.2.2.2.2.2.2.2.2.2.2.2.2.2.2.2.2.2.1
theorem zo_R158 (h : zO b e D A X) : (∀ s, X s → ∃ q, e 158 = .ref q ∧ vk_R RX13 1048 "own " q s) := h.2.2.2.2.2.2.2.2.2.2.2.2.2.2.2.2.2.2.2.2.1.2.2.2.2.2.2.2.2.2.2.2.2.2.2.2.2.2.2.1
theorem zo_V158 (h : zO b e D A X) : (∀ s, X s → ∃ q, e 158 = .ref q ∧ va_OF "java/lang/String" "value" "[B" (rx_v (zV b e D A X) 1276) q (fun q => b ≤ q) s s.heap) := h.2.2.2.2.2.2.2.2.2.2.2.2.2.2.2.2.2.2.2.2.1.2.2.2.2.2.2.2.2.2.2.2.2.2.2.2.2.2.2.2
theorem zo_C158 (h : zO b e D A X) : (∀ s, X s → ∃ q, e 158 = .ref q ∧ va_OF "java/lang/String" "coder" "B" (rx_v (zV b e D A X) 0) q (fun q => b ≤ q) s s.heap) := h.2.2.2.2.2.2.2.2.2.2.2.2.2.2.2.2.2.2.2.2.2.1
theorem zo_O158 (h : zO b e D A X) : (∀ s, X s → ∃ q, e 158 = .ref q ∧ va_O "java/lang/String" q (fun q => b ≤ q) s s.heap) := h.2.2.2.2.2.2.2.2.2.2.2.2.2.2.2.2.2.2.2.2.2.2.1
theorem zo_B159 (h : zO b e D A X) : (∀ s, X s → ∃ q, e 159 = .ref q ∧ va_T .byte q 4 (fun j => rx_v (zV b e D A X) (rx_nth zbs159 j 7)) (fun q => b ≤ q) s s.heap) := h.2.2.2.2.2.2.2.2.2.2.2.2.2.2.2.2.2.2.2.2.2.2.2
end ZW
