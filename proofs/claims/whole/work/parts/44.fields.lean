/-! fields behind setters (by program: wip/gen/fields.py) -/
theorem x_thrown_thrown (m : mS) (v : Nat) : mR_thrown (p_mR_thrown m v) = v := rfl
theorem x_targets_thrown (m : mS) (v : Nat) : mR_targets (p_mR_thrown m v) = mR_targets m := rfl
theorem x_standsFor_thrown (m : mS) (v : Nat) : mR_standsFor (p_mR_thrown m v) = mR_standsFor m := rfl
theorem x_value_thrown (m : mS) (v : Nat) : mR_value (p_mR_thrown m v) = mR_value m := rfl
theorem x_providers_thrown (m : mS) (v : Nat) : mR_providers (p_mR_thrown m v) = mR_providers m := rfl
theorem x_rowSize_thrown (m : mS) (v : Nat) : mR_rowSize (p_mR_thrown m v) = mR_rowSize m := rfl
theorem x_row_thrown (m : mS) (v : Nat) : mR_row (p_mR_thrown m v) = mR_row m := rfl
theorem x_aspects_thrown (m : mS) (v : Nat) : mR_aspects (p_mR_thrown m v) = mR_aspects m := rfl
theorem x_kind_thrown (m : mS) (v : Nat) : mR_kind (p_mR_thrown m v) = mR_kind m := rfl
theorem x_along_thrown (m : mS) (v : Nat) : mR_along (p_mR_thrown m v) = mR_along m := rfl
theorem x_wants_thrown (m : mS) (v : Nat) : mR_wants (p_mR_thrown m v) = mR_wants m := rfl
theorem x_gives_thrown (m : mS) (v : Nat) : mR_gives (p_mR_thrown m v) = mR_gives m := rfl
theorem x_nameOf_thrown (m : mS) (v : Nat) : mR_nameOf (p_mR_thrown m v) = mR_nameOf m := rfl
theorem x_needMany_thrown (m : mS) (v : Nat) : mR_needMany (p_mR_thrown m v) = mR_needMany m := rfl
theorem x_needs_thrown (m : mS) (v : Nat) : mR_needs (p_mR_thrown m v) = mR_needs m := rfl
theorem x_known_thrown (m : mS) (v : Nat) : mR_known (p_mR_thrown m v) = mR_known m := rfl
theorem x_results_thrown (m : mS) (v : Nat) : mR_results (p_mR_thrown m v) = mR_results m := rfl
theorem x_times_thrown (m : mS) (v : Nat) : mR_times (p_mR_thrown m v) = mR_times m := rfl
theorem x_madeBy_thrown (m : mS) (v : Nat) : mR_madeBy (p_mR_thrown m v) = mR_madeBy m := rfl
theorem x_clashTold_thrown (m : mS) (v : Nat) : mR_clashTold (p_mR_thrown m v) = mR_clashTold m := rfl
theorem x_heap_thrown (m : mS) (v : Nat) : mR_heap (p_mR_thrown m v) = mR_heap m := rfl
theorem x_heapTarget_thrown (m : mS) (v : Nat) : mR_heapTarget (p_mR_thrown m v) = mR_heapTarget m := rfl
theorem x_heapAspect_thrown (m : mS) (v : Nat) : mR_heapAspect (p_mR_thrown m v) = mR_heapAspect m := rfl
theorem x_setting_thrown (m : mS) (v : Nat) : mR_setting (p_mR_thrown m v) = mR_setting m := rfl
theorem x_clashes_thrown (m : mS) (v : Nat) : mR_clashes (p_mR_thrown m v) = mR_clashes m := rfl
theorem x_touched_thrown (m : mS) (v : Nat) : mR_touched (p_mR_thrown m v) = mR_touched m := rfl
theorem x_thrown_standsFor (m : mS) (v : Nat → Nat) : mR_thrown (p_mR_standsFor m v) = mR_thrown m := rfl
theorem x_targets_standsFor (m : mS) (v : Nat → Nat) : mR_targets (p_mR_standsFor m v) = mR_targets m := rfl
theorem x_standsFor_standsFor (m : mS) (v : Nat → Nat) : mR_standsFor (p_mR_standsFor m v) = v := rfl
theorem x_value_standsFor (m : mS) (v : Nat → Nat) : mR_value (p_mR_standsFor m v) = mR_value m := rfl
theorem x_providers_standsFor (m : mS) (v : Nat → Nat) : mR_providers (p_mR_standsFor m v) = mR_providers m := rfl
theorem x_rowSize_standsFor (m : mS) (v : Nat → Nat) : mR_rowSize (p_mR_standsFor m v) = mR_rowSize m := rfl
theorem x_row_standsFor (m : mS) (v : Nat → Nat) : mR_row (p_mR_standsFor m v) = mR_row m := rfl
theorem x_aspects_standsFor (m : mS) (v : Nat → Nat) : mR_aspects (p_mR_standsFor m v) = mR_aspects m := rfl
theorem x_kind_standsFor (m : mS) (v : Nat → Nat) : mR_kind (p_mR_standsFor m v) = mR_kind m := rfl
theorem x_along_standsFor (m : mS) (v : Nat → Nat) : mR_along (p_mR_standsFor m v) = mR_along m := rfl
theorem x_wants_standsFor (m : mS) (v : Nat → Nat) : mR_wants (p_mR_standsFor m v) = mR_wants m := rfl
theorem x_gives_standsFor (m : mS) (v : Nat → Nat) : mR_gives (p_mR_standsFor m v) = mR_gives m := rfl
theorem x_nameOf_standsFor (m : mS) (v : Nat → Nat) : mR_nameOf (p_mR_standsFor m v) = mR_nameOf m := rfl
theorem x_needMany_standsFor (m : mS) (v : Nat → Nat) : mR_needMany (p_mR_standsFor m v) = mR_needMany m := rfl
theorem x_needs_standsFor (m : mS) (v : Nat → Nat) : mR_needs (p_mR_standsFor m v) = mR_needs m := rfl
theorem x_known_standsFor (m : mS) (v : Nat → Nat) : mR_known (p_mR_standsFor m v) = mR_known m := rfl
theorem x_results_standsFor (m : mS) (v : Nat → Nat) : mR_results (p_mR_standsFor m v) = mR_results m := rfl
theorem x_times_standsFor (m : mS) (v : Nat → Nat) : mR_times (p_mR_standsFor m v) = mR_times m := rfl
theorem x_madeBy_standsFor (m : mS) (v : Nat → Nat) : mR_madeBy (p_mR_standsFor m v) = mR_madeBy m := rfl
theorem x_clashTold_standsFor (m : mS) (v : Nat → Nat) : mR_clashTold (p_mR_standsFor m v) = mR_clashTold m := rfl
theorem x_heap_standsFor (m : mS) (v : Nat → Nat) : mR_heap (p_mR_standsFor m v) = mR_heap m := rfl
theorem x_heapTarget_standsFor (m : mS) (v : Nat → Nat) : mR_heapTarget (p_mR_standsFor m v) = mR_heapTarget m := rfl
theorem x_heapAspect_standsFor (m : mS) (v : Nat → Nat) : mR_heapAspect (p_mR_standsFor m v) = mR_heapAspect m := rfl
theorem x_setting_standsFor (m : mS) (v : Nat → Nat) : mR_setting (p_mR_standsFor m v) = mR_setting m := rfl
theorem x_clashes_standsFor (m : mS) (v : Nat → Nat) : mR_clashes (p_mR_standsFor m v) = mR_clashes m := rfl
theorem x_touched_standsFor (m : mS) (v : Nat → Nat) : mR_touched (p_mR_standsFor m v) = mR_touched m := rfl
theorem x_thrown_value (m : mS) (v : Nat → Int64) : mR_thrown (p_mR_value m v) = mR_thrown m := rfl
theorem x_targets_value (m : mS) (v : Nat → Int64) : mR_targets (p_mR_value m v) = mR_targets m := rfl
theorem x_standsFor_value (m : mS) (v : Nat → Int64) : mR_standsFor (p_mR_value m v) = mR_standsFor m := rfl
theorem x_value_value (m : mS) (v : Nat → Int64) : mR_value (p_mR_value m v) = v := rfl
theorem x_providers_value (m : mS) (v : Nat → Int64) : mR_providers (p_mR_value m v) = mR_providers m := rfl
theorem x_rowSize_value (m : mS) (v : Nat → Int64) : mR_rowSize (p_mR_value m v) = mR_rowSize m := rfl
theorem x_row_value (m : mS) (v : Nat → Int64) : mR_row (p_mR_value m v) = mR_row m := rfl
theorem x_aspects_value (m : mS) (v : Nat → Int64) : mR_aspects (p_mR_value m v) = mR_aspects m := rfl
theorem x_kind_value (m : mS) (v : Nat → Int64) : mR_kind (p_mR_value m v) = mR_kind m := rfl
theorem x_along_value (m : mS) (v : Nat → Int64) : mR_along (p_mR_value m v) = mR_along m := rfl
theorem x_wants_value (m : mS) (v : Nat → Int64) : mR_wants (p_mR_value m v) = mR_wants m := rfl
theorem x_gives_value (m : mS) (v : Nat → Int64) : mR_gives (p_mR_value m v) = mR_gives m := rfl
theorem x_nameOf_value (m : mS) (v : Nat → Int64) : mR_nameOf (p_mR_value m v) = mR_nameOf m := rfl
theorem x_needMany_value (m : mS) (v : Nat → Int64) : mR_needMany (p_mR_value m v) = mR_needMany m := rfl
theorem x_needs_value (m : mS) (v : Nat → Int64) : mR_needs (p_mR_value m v) = mR_needs m := rfl
theorem x_known_value (m : mS) (v : Nat → Int64) : mR_known (p_mR_value m v) = mR_known m := rfl
theorem x_results_value (m : mS) (v : Nat → Int64) : mR_results (p_mR_value m v) = mR_results m := rfl
theorem x_times_value (m : mS) (v : Nat → Int64) : mR_times (p_mR_value m v) = mR_times m := rfl
theorem x_madeBy_value (m : mS) (v : Nat → Int64) : mR_madeBy (p_mR_value m v) = mR_madeBy m := rfl
theorem x_clashTold_value (m : mS) (v : Nat → Int64) : mR_clashTold (p_mR_value m v) = mR_clashTold m := rfl
theorem x_heap_value (m : mS) (v : Nat → Int64) : mR_heap (p_mR_value m v) = mR_heap m := rfl
theorem x_heapTarget_value (m : mS) (v : Nat → Int64) : mR_heapTarget (p_mR_value m v) = mR_heapTarget m := rfl
theorem x_heapAspect_value (m : mS) (v : Nat → Int64) : mR_heapAspect (p_mR_value m v) = mR_heapAspect m := rfl
theorem x_setting_value (m : mS) (v : Nat → Int64) : mR_setting (p_mR_value m v) = mR_setting m := rfl
theorem x_clashes_value (m : mS) (v : Nat → Int64) : mR_clashes (p_mR_value m v) = mR_clashes m := rfl
theorem x_touched_value (m : mS) (v : Nat → Int64) : mR_touched (p_mR_value m v) = mR_touched m := rfl
theorem x_thrown_providers (m : mS) (v : Nat → Int32) : mR_thrown (p_mR_providers m v) = mR_thrown m := rfl
theorem x_targets_providers (m : mS) (v : Nat → Int32) : mR_targets (p_mR_providers m v) = mR_targets m := rfl
theorem x_standsFor_providers (m : mS) (v : Nat → Int32) : mR_standsFor (p_mR_providers m v) = mR_standsFor m := rfl
theorem x_value_providers (m : mS) (v : Nat → Int32) : mR_value (p_mR_providers m v) = mR_value m := rfl
theorem x_providers_providers (m : mS) (v : Nat → Int32) : mR_providers (p_mR_providers m v) = v := rfl
theorem x_rowSize_providers (m : mS) (v : Nat → Int32) : mR_rowSize (p_mR_providers m v) = mR_rowSize m := rfl
theorem x_row_providers (m : mS) (v : Nat → Int32) : mR_row (p_mR_providers m v) = mR_row m := rfl
theorem x_aspects_providers (m : mS) (v : Nat → Int32) : mR_aspects (p_mR_providers m v) = mR_aspects m := rfl
theorem x_kind_providers (m : mS) (v : Nat → Int32) : mR_kind (p_mR_providers m v) = mR_kind m := rfl
theorem x_along_providers (m : mS) (v : Nat → Int32) : mR_along (p_mR_providers m v) = mR_along m := rfl
theorem x_wants_providers (m : mS) (v : Nat → Int32) : mR_wants (p_mR_providers m v) = mR_wants m := rfl
theorem x_gives_providers (m : mS) (v : Nat → Int32) : mR_gives (p_mR_providers m v) = mR_gives m := rfl
theorem x_nameOf_providers (m : mS) (v : Nat → Int32) : mR_nameOf (p_mR_providers m v) = mR_nameOf m := rfl
theorem x_needMany_providers (m : mS) (v : Nat → Int32) : mR_needMany (p_mR_providers m v) = mR_needMany m := rfl
theorem x_needs_providers (m : mS) (v : Nat → Int32) : mR_needs (p_mR_providers m v) = mR_needs m := rfl
theorem x_known_providers (m : mS) (v : Nat → Int32) : mR_known (p_mR_providers m v) = mR_known m := rfl
theorem x_results_providers (m : mS) (v : Nat → Int32) : mR_results (p_mR_providers m v) = mR_results m := rfl
theorem x_times_providers (m : mS) (v : Nat → Int32) : mR_times (p_mR_providers m v) = mR_times m := rfl
theorem x_madeBy_providers (m : mS) (v : Nat → Int32) : mR_madeBy (p_mR_providers m v) = mR_madeBy m := rfl
theorem x_clashTold_providers (m : mS) (v : Nat → Int32) : mR_clashTold (p_mR_providers m v) = mR_clashTold m := rfl
theorem x_heap_providers (m : mS) (v : Nat → Int32) : mR_heap (p_mR_providers m v) = mR_heap m := rfl
theorem x_heapTarget_providers (m : mS) (v : Nat → Int32) : mR_heapTarget (p_mR_providers m v) = mR_heapTarget m := rfl
theorem x_heapAspect_providers (m : mS) (v : Nat → Int32) : mR_heapAspect (p_mR_providers m v) = mR_heapAspect m := rfl
theorem x_setting_providers (m : mS) (v : Nat → Int32) : mR_setting (p_mR_providers m v) = mR_setting m := rfl
theorem x_clashes_providers (m : mS) (v : Nat → Int32) : mR_clashes (p_mR_providers m v) = mR_clashes m := rfl
theorem x_touched_providers (m : mS) (v : Nat → Int32) : mR_touched (p_mR_providers m v) = mR_touched m := rfl
theorem x_thrown_targets (m : mS) (v : Nat) : mR_thrown (p_mR_targets m v) = mR_thrown m := rfl
theorem x_targets_targets (m : mS) (v : Nat) : mR_targets (p_mR_targets m v) = v := rfl
theorem x_standsFor_targets (m : mS) (v : Nat) : mR_standsFor (p_mR_targets m v) = mR_standsFor m := rfl
theorem x_value_targets (m : mS) (v : Nat) : mR_value (p_mR_targets m v) = mR_value m := rfl
theorem x_providers_targets (m : mS) (v : Nat) : mR_providers (p_mR_targets m v) = mR_providers m := rfl
theorem x_rowSize_targets (m : mS) (v : Nat) : mR_rowSize (p_mR_targets m v) = mR_rowSize m := rfl
theorem x_row_targets (m : mS) (v : Nat) : mR_row (p_mR_targets m v) = mR_row m := rfl
theorem x_aspects_targets (m : mS) (v : Nat) : mR_aspects (p_mR_targets m v) = mR_aspects m := rfl
theorem x_kind_targets (m : mS) (v : Nat) : mR_kind (p_mR_targets m v) = mR_kind m := rfl
theorem x_along_targets (m : mS) (v : Nat) : mR_along (p_mR_targets m v) = mR_along m := rfl
theorem x_wants_targets (m : mS) (v : Nat) : mR_wants (p_mR_targets m v) = mR_wants m := rfl
theorem x_gives_targets (m : mS) (v : Nat) : mR_gives (p_mR_targets m v) = mR_gives m := rfl
theorem x_nameOf_targets (m : mS) (v : Nat) : mR_nameOf (p_mR_targets m v) = mR_nameOf m := rfl
theorem x_needMany_targets (m : mS) (v : Nat) : mR_needMany (p_mR_targets m v) = mR_needMany m := rfl
theorem x_needs_targets (m : mS) (v : Nat) : mR_needs (p_mR_targets m v) = mR_needs m := rfl
theorem x_known_targets (m : mS) (v : Nat) : mR_known (p_mR_targets m v) = mR_known m := rfl
theorem x_results_targets (m : mS) (v : Nat) : mR_results (p_mR_targets m v) = mR_results m := rfl
theorem x_times_targets (m : mS) (v : Nat) : mR_times (p_mR_targets m v) = mR_times m := rfl
theorem x_madeBy_targets (m : mS) (v : Nat) : mR_madeBy (p_mR_targets m v) = mR_madeBy m := rfl
theorem x_clashTold_targets (m : mS) (v : Nat) : mR_clashTold (p_mR_targets m v) = mR_clashTold m := rfl
theorem x_heap_targets (m : mS) (v : Nat) : mR_heap (p_mR_targets m v) = mR_heap m := rfl
theorem x_heapTarget_targets (m : mS) (v : Nat) : mR_heapTarget (p_mR_targets m v) = mR_heapTarget m := rfl
theorem x_heapAspect_targets (m : mS) (v : Nat) : mR_heapAspect (p_mR_targets m v) = mR_heapAspect m := rfl
theorem x_setting_targets (m : mS) (v : Nat) : mR_setting (p_mR_targets m v) = mR_setting m := rfl
theorem x_clashes_targets (m : mS) (v : Nat) : mR_clashes (p_mR_targets m v) = mR_clashes m := rfl
theorem x_touched_targets (m : mS) (v : Nat) : mR_touched (p_mR_targets m v) = mR_touched m := rfl
theorem x_thrown_kind (m : mS) (v : Nat → Nat) : mR_thrown (p_mR_kind m v) = mR_thrown m := rfl
theorem x_targets_kind (m : mS) (v : Nat → Nat) : mR_targets (p_mR_kind m v) = mR_targets m := rfl
theorem x_standsFor_kind (m : mS) (v : Nat → Nat) : mR_standsFor (p_mR_kind m v) = mR_standsFor m := rfl
theorem x_value_kind (m : mS) (v : Nat → Nat) : mR_value (p_mR_kind m v) = mR_value m := rfl
theorem x_providers_kind (m : mS) (v : Nat → Nat) : mR_providers (p_mR_kind m v) = mR_providers m := rfl
theorem x_rowSize_kind (m : mS) (v : Nat → Nat) : mR_rowSize (p_mR_kind m v) = mR_rowSize m := rfl
theorem x_row_kind (m : mS) (v : Nat → Nat) : mR_row (p_mR_kind m v) = mR_row m := rfl
theorem x_aspects_kind (m : mS) (v : Nat → Nat) : mR_aspects (p_mR_kind m v) = mR_aspects m := rfl
theorem x_kind_kind (m : mS) (v : Nat → Nat) : mR_kind (p_mR_kind m v) = v := rfl
theorem x_along_kind (m : mS) (v : Nat → Nat) : mR_along (p_mR_kind m v) = mR_along m := rfl
theorem x_wants_kind (m : mS) (v : Nat → Nat) : mR_wants (p_mR_kind m v) = mR_wants m := rfl
theorem x_gives_kind (m : mS) (v : Nat → Nat) : mR_gives (p_mR_kind m v) = mR_gives m := rfl
theorem x_nameOf_kind (m : mS) (v : Nat → Nat) : mR_nameOf (p_mR_kind m v) = mR_nameOf m := rfl
theorem x_needMany_kind (m : mS) (v : Nat → Nat) : mR_needMany (p_mR_kind m v) = mR_needMany m := rfl
theorem x_needs_kind (m : mS) (v : Nat → Nat) : mR_needs (p_mR_kind m v) = mR_needs m := rfl
theorem x_known_kind (m : mS) (v : Nat → Nat) : mR_known (p_mR_kind m v) = mR_known m := rfl
theorem x_results_kind (m : mS) (v : Nat → Nat) : mR_results (p_mR_kind m v) = mR_results m := rfl
theorem x_times_kind (m : mS) (v : Nat → Nat) : mR_times (p_mR_kind m v) = mR_times m := rfl
theorem x_madeBy_kind (m : mS) (v : Nat → Nat) : mR_madeBy (p_mR_kind m v) = mR_madeBy m := rfl
theorem x_clashTold_kind (m : mS) (v : Nat → Nat) : mR_clashTold (p_mR_kind m v) = mR_clashTold m := rfl
theorem x_heap_kind (m : mS) (v : Nat → Nat) : mR_heap (p_mR_kind m v) = mR_heap m := rfl
theorem x_heapTarget_kind (m : mS) (v : Nat → Nat) : mR_heapTarget (p_mR_kind m v) = mR_heapTarget m := rfl
theorem x_heapAspect_kind (m : mS) (v : Nat → Nat) : mR_heapAspect (p_mR_kind m v) = mR_heapAspect m := rfl
theorem x_setting_kind (m : mS) (v : Nat → Nat) : mR_setting (p_mR_kind m v) = mR_setting m := rfl
theorem x_clashes_kind (m : mS) (v : Nat → Nat) : mR_clashes (p_mR_kind m v) = mR_clashes m := rfl
theorem x_touched_kind (m : mS) (v : Nat → Nat) : mR_touched (p_mR_kind m v) = mR_touched m := rfl
theorem x_thrown_along (m : mS) (v : Nat → Int32) : mR_thrown (p_mR_along m v) = mR_thrown m := rfl
theorem x_targets_along (m : mS) (v : Nat → Int32) : mR_targets (p_mR_along m v) = mR_targets m := rfl
theorem x_standsFor_along (m : mS) (v : Nat → Int32) : mR_standsFor (p_mR_along m v) = mR_standsFor m := rfl
theorem x_value_along (m : mS) (v : Nat → Int32) : mR_value (p_mR_along m v) = mR_value m := rfl
theorem x_providers_along (m : mS) (v : Nat → Int32) : mR_providers (p_mR_along m v) = mR_providers m := rfl
theorem x_rowSize_along (m : mS) (v : Nat → Int32) : mR_rowSize (p_mR_along m v) = mR_rowSize m := rfl
theorem x_row_along (m : mS) (v : Nat → Int32) : mR_row (p_mR_along m v) = mR_row m := rfl
theorem x_aspects_along (m : mS) (v : Nat → Int32) : mR_aspects (p_mR_along m v) = mR_aspects m := rfl
theorem x_kind_along (m : mS) (v : Nat → Int32) : mR_kind (p_mR_along m v) = mR_kind m := rfl
theorem x_along_along (m : mS) (v : Nat → Int32) : mR_along (p_mR_along m v) = v := rfl
theorem x_wants_along (m : mS) (v : Nat → Int32) : mR_wants (p_mR_along m v) = mR_wants m := rfl
theorem x_gives_along (m : mS) (v : Nat → Int32) : mR_gives (p_mR_along m v) = mR_gives m := rfl
theorem x_nameOf_along (m : mS) (v : Nat → Int32) : mR_nameOf (p_mR_along m v) = mR_nameOf m := rfl
theorem x_needMany_along (m : mS) (v : Nat → Int32) : mR_needMany (p_mR_along m v) = mR_needMany m := rfl
theorem x_needs_along (m : mS) (v : Nat → Int32) : mR_needs (p_mR_along m v) = mR_needs m := rfl
theorem x_known_along (m : mS) (v : Nat → Int32) : mR_known (p_mR_along m v) = mR_known m := rfl
theorem x_results_along (m : mS) (v : Nat → Int32) : mR_results (p_mR_along m v) = mR_results m := rfl
theorem x_times_along (m : mS) (v : Nat → Int32) : mR_times (p_mR_along m v) = mR_times m := rfl
theorem x_madeBy_along (m : mS) (v : Nat → Int32) : mR_madeBy (p_mR_along m v) = mR_madeBy m := rfl
theorem x_clashTold_along (m : mS) (v : Nat → Int32) : mR_clashTold (p_mR_along m v) = mR_clashTold m := rfl
theorem x_heap_along (m : mS) (v : Nat → Int32) : mR_heap (p_mR_along m v) = mR_heap m := rfl
theorem x_heapTarget_along (m : mS) (v : Nat → Int32) : mR_heapTarget (p_mR_along m v) = mR_heapTarget m := rfl
theorem x_heapAspect_along (m : mS) (v : Nat → Int32) : mR_heapAspect (p_mR_along m v) = mR_heapAspect m := rfl
theorem x_setting_along (m : mS) (v : Nat → Int32) : mR_setting (p_mR_along m v) = mR_setting m := rfl
theorem x_clashes_along (m : mS) (v : Nat → Int32) : mR_clashes (p_mR_along m v) = mR_clashes m := rfl
theorem x_touched_along (m : mS) (v : Nat → Int32) : mR_touched (p_mR_along m v) = mR_touched m := rfl
theorem x_thrown_wants (m : mS) (v : Nat → Int32) : mR_thrown (p_mR_wants m v) = mR_thrown m := rfl
theorem x_targets_wants (m : mS) (v : Nat → Int32) : mR_targets (p_mR_wants m v) = mR_targets m := rfl
theorem x_standsFor_wants (m : mS) (v : Nat → Int32) : mR_standsFor (p_mR_wants m v) = mR_standsFor m := rfl
theorem x_value_wants (m : mS) (v : Nat → Int32) : mR_value (p_mR_wants m v) = mR_value m := rfl
theorem x_providers_wants (m : mS) (v : Nat → Int32) : mR_providers (p_mR_wants m v) = mR_providers m := rfl
theorem x_rowSize_wants (m : mS) (v : Nat → Int32) : mR_rowSize (p_mR_wants m v) = mR_rowSize m := rfl
theorem x_row_wants (m : mS) (v : Nat → Int32) : mR_row (p_mR_wants m v) = mR_row m := rfl
theorem x_aspects_wants (m : mS) (v : Nat → Int32) : mR_aspects (p_mR_wants m v) = mR_aspects m := rfl
theorem x_kind_wants (m : mS) (v : Nat → Int32) : mR_kind (p_mR_wants m v) = mR_kind m := rfl
theorem x_along_wants (m : mS) (v : Nat → Int32) : mR_along (p_mR_wants m v) = mR_along m := rfl
theorem x_wants_wants (m : mS) (v : Nat → Int32) : mR_wants (p_mR_wants m v) = v := rfl
theorem x_gives_wants (m : mS) (v : Nat → Int32) : mR_gives (p_mR_wants m v) = mR_gives m := rfl
theorem x_nameOf_wants (m : mS) (v : Nat → Int32) : mR_nameOf (p_mR_wants m v) = mR_nameOf m := rfl
theorem x_needMany_wants (m : mS) (v : Nat → Int32) : mR_needMany (p_mR_wants m v) = mR_needMany m := rfl
theorem x_needs_wants (m : mS) (v : Nat → Int32) : mR_needs (p_mR_wants m v) = mR_needs m := rfl
theorem x_known_wants (m : mS) (v : Nat → Int32) : mR_known (p_mR_wants m v) = mR_known m := rfl
theorem x_results_wants (m : mS) (v : Nat → Int32) : mR_results (p_mR_wants m v) = mR_results m := rfl
theorem x_times_wants (m : mS) (v : Nat → Int32) : mR_times (p_mR_wants m v) = mR_times m := rfl
theorem x_madeBy_wants (m : mS) (v : Nat → Int32) : mR_madeBy (p_mR_wants m v) = mR_madeBy m := rfl
theorem x_clashTold_wants (m : mS) (v : Nat → Int32) : mR_clashTold (p_mR_wants m v) = mR_clashTold m := rfl
theorem x_heap_wants (m : mS) (v : Nat → Int32) : mR_heap (p_mR_wants m v) = mR_heap m := rfl
theorem x_heapTarget_wants (m : mS) (v : Nat → Int32) : mR_heapTarget (p_mR_wants m v) = mR_heapTarget m := rfl
theorem x_heapAspect_wants (m : mS) (v : Nat → Int32) : mR_heapAspect (p_mR_wants m v) = mR_heapAspect m := rfl
theorem x_setting_wants (m : mS) (v : Nat → Int32) : mR_setting (p_mR_wants m v) = mR_setting m := rfl
theorem x_clashes_wants (m : mS) (v : Nat → Int32) : mR_clashes (p_mR_wants m v) = mR_clashes m := rfl
theorem x_touched_wants (m : mS) (v : Nat → Int32) : mR_touched (p_mR_wants m v) = mR_touched m := rfl
theorem x_thrown_gives (m : mS) (v : Nat → Int32) : mR_thrown (p_mR_gives m v) = mR_thrown m := rfl
theorem x_targets_gives (m : mS) (v : Nat → Int32) : mR_targets (p_mR_gives m v) = mR_targets m := rfl
theorem x_standsFor_gives (m : mS) (v : Nat → Int32) : mR_standsFor (p_mR_gives m v) = mR_standsFor m := rfl
theorem x_value_gives (m : mS) (v : Nat → Int32) : mR_value (p_mR_gives m v) = mR_value m := rfl
theorem x_providers_gives (m : mS) (v : Nat → Int32) : mR_providers (p_mR_gives m v) = mR_providers m := rfl
theorem x_rowSize_gives (m : mS) (v : Nat → Int32) : mR_rowSize (p_mR_gives m v) = mR_rowSize m := rfl
theorem x_row_gives (m : mS) (v : Nat → Int32) : mR_row (p_mR_gives m v) = mR_row m := rfl
theorem x_aspects_gives (m : mS) (v : Nat → Int32) : mR_aspects (p_mR_gives m v) = mR_aspects m := rfl
theorem x_kind_gives (m : mS) (v : Nat → Int32) : mR_kind (p_mR_gives m v) = mR_kind m := rfl
theorem x_along_gives (m : mS) (v : Nat → Int32) : mR_along (p_mR_gives m v) = mR_along m := rfl
theorem x_wants_gives (m : mS) (v : Nat → Int32) : mR_wants (p_mR_gives m v) = mR_wants m := rfl
theorem x_gives_gives (m : mS) (v : Nat → Int32) : mR_gives (p_mR_gives m v) = v := rfl
theorem x_nameOf_gives (m : mS) (v : Nat → Int32) : mR_nameOf (p_mR_gives m v) = mR_nameOf m := rfl
theorem x_needMany_gives (m : mS) (v : Nat → Int32) : mR_needMany (p_mR_gives m v) = mR_needMany m := rfl
theorem x_needs_gives (m : mS) (v : Nat → Int32) : mR_needs (p_mR_gives m v) = mR_needs m := rfl
theorem x_known_gives (m : mS) (v : Nat → Int32) : mR_known (p_mR_gives m v) = mR_known m := rfl
theorem x_results_gives (m : mS) (v : Nat → Int32) : mR_results (p_mR_gives m v) = mR_results m := rfl
theorem x_times_gives (m : mS) (v : Nat → Int32) : mR_times (p_mR_gives m v) = mR_times m := rfl
theorem x_madeBy_gives (m : mS) (v : Nat → Int32) : mR_madeBy (p_mR_gives m v) = mR_madeBy m := rfl
theorem x_clashTold_gives (m : mS) (v : Nat → Int32) : mR_clashTold (p_mR_gives m v) = mR_clashTold m := rfl
theorem x_heap_gives (m : mS) (v : Nat → Int32) : mR_heap (p_mR_gives m v) = mR_heap m := rfl
theorem x_heapTarget_gives (m : mS) (v : Nat → Int32) : mR_heapTarget (p_mR_gives m v) = mR_heapTarget m := rfl
theorem x_heapAspect_gives (m : mS) (v : Nat → Int32) : mR_heapAspect (p_mR_gives m v) = mR_heapAspect m := rfl
theorem x_setting_gives (m : mS) (v : Nat → Int32) : mR_setting (p_mR_gives m v) = mR_setting m := rfl
theorem x_clashes_gives (m : mS) (v : Nat → Int32) : mR_clashes (p_mR_gives m v) = mR_clashes m := rfl
theorem x_touched_gives (m : mS) (v : Nat → Int32) : mR_touched (p_mR_gives m v) = mR_touched m := rfl
theorem x_thrown_nameOf (m : mS) (v : Nat → Int32) : mR_thrown (p_mR_nameOf m v) = mR_thrown m := rfl
theorem x_targets_nameOf (m : mS) (v : Nat → Int32) : mR_targets (p_mR_nameOf m v) = mR_targets m := rfl
theorem x_standsFor_nameOf (m : mS) (v : Nat → Int32) : mR_standsFor (p_mR_nameOf m v) = mR_standsFor m := rfl
theorem x_value_nameOf (m : mS) (v : Nat → Int32) : mR_value (p_mR_nameOf m v) = mR_value m := rfl
theorem x_providers_nameOf (m : mS) (v : Nat → Int32) : mR_providers (p_mR_nameOf m v) = mR_providers m := rfl
theorem x_rowSize_nameOf (m : mS) (v : Nat → Int32) : mR_rowSize (p_mR_nameOf m v) = mR_rowSize m := rfl
theorem x_row_nameOf (m : mS) (v : Nat → Int32) : mR_row (p_mR_nameOf m v) = mR_row m := rfl
theorem x_aspects_nameOf (m : mS) (v : Nat → Int32) : mR_aspects (p_mR_nameOf m v) = mR_aspects m := rfl
theorem x_kind_nameOf (m : mS) (v : Nat → Int32) : mR_kind (p_mR_nameOf m v) = mR_kind m := rfl
theorem x_along_nameOf (m : mS) (v : Nat → Int32) : mR_along (p_mR_nameOf m v) = mR_along m := rfl
theorem x_wants_nameOf (m : mS) (v : Nat → Int32) : mR_wants (p_mR_nameOf m v) = mR_wants m := rfl
theorem x_gives_nameOf (m : mS) (v : Nat → Int32) : mR_gives (p_mR_nameOf m v) = mR_gives m := rfl
theorem x_nameOf_nameOf (m : mS) (v : Nat → Int32) : mR_nameOf (p_mR_nameOf m v) = v := rfl
theorem x_needMany_nameOf (m : mS) (v : Nat → Int32) : mR_needMany (p_mR_nameOf m v) = mR_needMany m := rfl
theorem x_needs_nameOf (m : mS) (v : Nat → Int32) : mR_needs (p_mR_nameOf m v) = mR_needs m := rfl
theorem x_known_nameOf (m : mS) (v : Nat → Int32) : mR_known (p_mR_nameOf m v) = mR_known m := rfl
theorem x_results_nameOf (m : mS) (v : Nat → Int32) : mR_results (p_mR_nameOf m v) = mR_results m := rfl
theorem x_times_nameOf (m : mS) (v : Nat → Int32) : mR_times (p_mR_nameOf m v) = mR_times m := rfl
theorem x_madeBy_nameOf (m : mS) (v : Nat → Int32) : mR_madeBy (p_mR_nameOf m v) = mR_madeBy m := rfl
theorem x_clashTold_nameOf (m : mS) (v : Nat → Int32) : mR_clashTold (p_mR_nameOf m v) = mR_clashTold m := rfl
theorem x_heap_nameOf (m : mS) (v : Nat → Int32) : mR_heap (p_mR_nameOf m v) = mR_heap m := rfl
theorem x_heapTarget_nameOf (m : mS) (v : Nat → Int32) : mR_heapTarget (p_mR_nameOf m v) = mR_heapTarget m := rfl
theorem x_heapAspect_nameOf (m : mS) (v : Nat → Int32) : mR_heapAspect (p_mR_nameOf m v) = mR_heapAspect m := rfl
theorem x_setting_nameOf (m : mS) (v : Nat → Int32) : mR_setting (p_mR_nameOf m v) = mR_setting m := rfl
theorem x_clashes_nameOf (m : mS) (v : Nat → Int32) : mR_clashes (p_mR_nameOf m v) = mR_clashes m := rfl
theorem x_touched_nameOf (m : mS) (v : Nat → Int32) : mR_touched (p_mR_nameOf m v) = mR_touched m := rfl
theorem x_thrown_aspects (m : mS) (v : Nat) : mR_thrown (p_mR_aspects m v) = mR_thrown m := rfl
theorem x_targets_aspects (m : mS) (v : Nat) : mR_targets (p_mR_aspects m v) = mR_targets m := rfl
theorem x_standsFor_aspects (m : mS) (v : Nat) : mR_standsFor (p_mR_aspects m v) = mR_standsFor m := rfl
theorem x_value_aspects (m : mS) (v : Nat) : mR_value (p_mR_aspects m v) = mR_value m := rfl
theorem x_providers_aspects (m : mS) (v : Nat) : mR_providers (p_mR_aspects m v) = mR_providers m := rfl
theorem x_rowSize_aspects (m : mS) (v : Nat) : mR_rowSize (p_mR_aspects m v) = mR_rowSize m := rfl
theorem x_row_aspects (m : mS) (v : Nat) : mR_row (p_mR_aspects m v) = mR_row m := rfl
theorem x_aspects_aspects (m : mS) (v : Nat) : mR_aspects (p_mR_aspects m v) = v := rfl
theorem x_kind_aspects (m : mS) (v : Nat) : mR_kind (p_mR_aspects m v) = mR_kind m := rfl
theorem x_along_aspects (m : mS) (v : Nat) : mR_along (p_mR_aspects m v) = mR_along m := rfl
theorem x_wants_aspects (m : mS) (v : Nat) : mR_wants (p_mR_aspects m v) = mR_wants m := rfl
theorem x_gives_aspects (m : mS) (v : Nat) : mR_gives (p_mR_aspects m v) = mR_gives m := rfl
theorem x_nameOf_aspects (m : mS) (v : Nat) : mR_nameOf (p_mR_aspects m v) = mR_nameOf m := rfl
theorem x_needMany_aspects (m : mS) (v : Nat) : mR_needMany (p_mR_aspects m v) = mR_needMany m := rfl
theorem x_needs_aspects (m : mS) (v : Nat) : mR_needs (p_mR_aspects m v) = mR_needs m := rfl
theorem x_known_aspects (m : mS) (v : Nat) : mR_known (p_mR_aspects m v) = mR_known m := rfl
theorem x_results_aspects (m : mS) (v : Nat) : mR_results (p_mR_aspects m v) = mR_results m := rfl
theorem x_times_aspects (m : mS) (v : Nat) : mR_times (p_mR_aspects m v) = mR_times m := rfl
theorem x_madeBy_aspects (m : mS) (v : Nat) : mR_madeBy (p_mR_aspects m v) = mR_madeBy m := rfl
theorem x_clashTold_aspects (m : mS) (v : Nat) : mR_clashTold (p_mR_aspects m v) = mR_clashTold m := rfl
theorem x_heap_aspects (m : mS) (v : Nat) : mR_heap (p_mR_aspects m v) = mR_heap m := rfl
theorem x_heapTarget_aspects (m : mS) (v : Nat) : mR_heapTarget (p_mR_aspects m v) = mR_heapTarget m := rfl
theorem x_heapAspect_aspects (m : mS) (v : Nat) : mR_heapAspect (p_mR_aspects m v) = mR_heapAspect m := rfl
theorem x_setting_aspects (m : mS) (v : Nat) : mR_setting (p_mR_aspects m v) = mR_setting m := rfl
theorem x_clashes_aspects (m : mS) (v : Nat) : mR_clashes (p_mR_aspects m v) = mR_clashes m := rfl
theorem x_touched_aspects (m : mS) (v : Nat) : mR_touched (p_mR_aspects m v) = mR_touched m := rfl
theorem x_thrown_row (m : mS) (v : Nat → Nat) : mR_thrown (p_mR_row m v) = mR_thrown m := rfl
theorem x_targets_row (m : mS) (v : Nat → Nat) : mR_targets (p_mR_row m v) = mR_targets m := rfl
theorem x_standsFor_row (m : mS) (v : Nat → Nat) : mR_standsFor (p_mR_row m v) = mR_standsFor m := rfl
theorem x_value_row (m : mS) (v : Nat → Nat) : mR_value (p_mR_row m v) = mR_value m := rfl
theorem x_providers_row (m : mS) (v : Nat → Nat) : mR_providers (p_mR_row m v) = mR_providers m := rfl
theorem x_rowSize_row (m : mS) (v : Nat → Nat) : mR_rowSize (p_mR_row m v) = mR_rowSize m := rfl
theorem x_row_row (m : mS) (v : Nat → Nat) : mR_row (p_mR_row m v) = v := rfl
theorem x_aspects_row (m : mS) (v : Nat → Nat) : mR_aspects (p_mR_row m v) = mR_aspects m := rfl
theorem x_kind_row (m : mS) (v : Nat → Nat) : mR_kind (p_mR_row m v) = mR_kind m := rfl
theorem x_along_row (m : mS) (v : Nat → Nat) : mR_along (p_mR_row m v) = mR_along m := rfl
theorem x_wants_row (m : mS) (v : Nat → Nat) : mR_wants (p_mR_row m v) = mR_wants m := rfl
theorem x_gives_row (m : mS) (v : Nat → Nat) : mR_gives (p_mR_row m v) = mR_gives m := rfl
theorem x_nameOf_row (m : mS) (v : Nat → Nat) : mR_nameOf (p_mR_row m v) = mR_nameOf m := rfl
theorem x_needMany_row (m : mS) (v : Nat → Nat) : mR_needMany (p_mR_row m v) = mR_needMany m := rfl
theorem x_needs_row (m : mS) (v : Nat → Nat) : mR_needs (p_mR_row m v) = mR_needs m := rfl
theorem x_known_row (m : mS) (v : Nat → Nat) : mR_known (p_mR_row m v) = mR_known m := rfl
theorem x_results_row (m : mS) (v : Nat → Nat) : mR_results (p_mR_row m v) = mR_results m := rfl
theorem x_times_row (m : mS) (v : Nat → Nat) : mR_times (p_mR_row m v) = mR_times m := rfl
theorem x_madeBy_row (m : mS) (v : Nat → Nat) : mR_madeBy (p_mR_row m v) = mR_madeBy m := rfl
theorem x_clashTold_row (m : mS) (v : Nat → Nat) : mR_clashTold (p_mR_row m v) = mR_clashTold m := rfl
theorem x_heap_row (m : mS) (v : Nat → Nat) : mR_heap (p_mR_row m v) = mR_heap m := rfl
theorem x_heapTarget_row (m : mS) (v : Nat → Nat) : mR_heapTarget (p_mR_row m v) = mR_heapTarget m := rfl
theorem x_heapAspect_row (m : mS) (v : Nat → Nat) : mR_heapAspect (p_mR_row m v) = mR_heapAspect m := rfl
theorem x_setting_row (m : mS) (v : Nat → Nat) : mR_setting (p_mR_row m v) = mR_setting m := rfl
theorem x_clashes_row (m : mS) (v : Nat → Nat) : mR_clashes (p_mR_row m v) = mR_clashes m := rfl
theorem x_touched_row (m : mS) (v : Nat → Nat) : mR_touched (p_mR_row m v) = mR_touched m := rfl
theorem x_thrown_rowSize (m : mS) (v : Nat → Nat) : mR_thrown (p_mR_rowSize m v) = mR_thrown m := rfl
theorem x_targets_rowSize (m : mS) (v : Nat → Nat) : mR_targets (p_mR_rowSize m v) = mR_targets m := rfl
theorem x_standsFor_rowSize (m : mS) (v : Nat → Nat) : mR_standsFor (p_mR_rowSize m v) = mR_standsFor m := rfl
theorem x_value_rowSize (m : mS) (v : Nat → Nat) : mR_value (p_mR_rowSize m v) = mR_value m := rfl
theorem x_providers_rowSize (m : mS) (v : Nat → Nat) : mR_providers (p_mR_rowSize m v) = mR_providers m := rfl
theorem x_rowSize_rowSize (m : mS) (v : Nat → Nat) : mR_rowSize (p_mR_rowSize m v) = v := rfl
theorem x_row_rowSize (m : mS) (v : Nat → Nat) : mR_row (p_mR_rowSize m v) = mR_row m := rfl
theorem x_aspects_rowSize (m : mS) (v : Nat → Nat) : mR_aspects (p_mR_rowSize m v) = mR_aspects m := rfl
theorem x_kind_rowSize (m : mS) (v : Nat → Nat) : mR_kind (p_mR_rowSize m v) = mR_kind m := rfl
theorem x_along_rowSize (m : mS) (v : Nat → Nat) : mR_along (p_mR_rowSize m v) = mR_along m := rfl
theorem x_wants_rowSize (m : mS) (v : Nat → Nat) : mR_wants (p_mR_rowSize m v) = mR_wants m := rfl
theorem x_gives_rowSize (m : mS) (v : Nat → Nat) : mR_gives (p_mR_rowSize m v) = mR_gives m := rfl
theorem x_nameOf_rowSize (m : mS) (v : Nat → Nat) : mR_nameOf (p_mR_rowSize m v) = mR_nameOf m := rfl
theorem x_needMany_rowSize (m : mS) (v : Nat → Nat) : mR_needMany (p_mR_rowSize m v) = mR_needMany m := rfl
theorem x_needs_rowSize (m : mS) (v : Nat → Nat) : mR_needs (p_mR_rowSize m v) = mR_needs m := rfl
theorem x_known_rowSize (m : mS) (v : Nat → Nat) : mR_known (p_mR_rowSize m v) = mR_known m := rfl
theorem x_results_rowSize (m : mS) (v : Nat → Nat) : mR_results (p_mR_rowSize m v) = mR_results m := rfl
theorem x_times_rowSize (m : mS) (v : Nat → Nat) : mR_times (p_mR_rowSize m v) = mR_times m := rfl
theorem x_madeBy_rowSize (m : mS) (v : Nat → Nat) : mR_madeBy (p_mR_rowSize m v) = mR_madeBy m := rfl
theorem x_clashTold_rowSize (m : mS) (v : Nat → Nat) : mR_clashTold (p_mR_rowSize m v) = mR_clashTold m := rfl
theorem x_heap_rowSize (m : mS) (v : Nat → Nat) : mR_heap (p_mR_rowSize m v) = mR_heap m := rfl
theorem x_heapTarget_rowSize (m : mS) (v : Nat → Nat) : mR_heapTarget (p_mR_rowSize m v) = mR_heapTarget m := rfl
theorem x_heapAspect_rowSize (m : mS) (v : Nat → Nat) : mR_heapAspect (p_mR_rowSize m v) = mR_heapAspect m := rfl
theorem x_setting_rowSize (m : mS) (v : Nat → Nat) : mR_setting (p_mR_rowSize m v) = mR_setting m := rfl
theorem x_clashes_rowSize (m : mS) (v : Nat → Nat) : mR_clashes (p_mR_rowSize m v) = mR_clashes m := rfl
theorem x_touched_rowSize (m : mS) (v : Nat → Nat) : mR_touched (p_mR_rowSize m v) = mR_touched m := rfl
theorem x_thrown_needs (m : mS) (v : Nat → Nat) : mR_thrown (p_mR_needs m v) = mR_thrown m := rfl
theorem x_targets_needs (m : mS) (v : Nat → Nat) : mR_targets (p_mR_needs m v) = mR_targets m := rfl
theorem x_standsFor_needs (m : mS) (v : Nat → Nat) : mR_standsFor (p_mR_needs m v) = mR_standsFor m := rfl
theorem x_value_needs (m : mS) (v : Nat → Nat) : mR_value (p_mR_needs m v) = mR_value m := rfl
theorem x_providers_needs (m : mS) (v : Nat → Nat) : mR_providers (p_mR_needs m v) = mR_providers m := rfl
theorem x_rowSize_needs (m : mS) (v : Nat → Nat) : mR_rowSize (p_mR_needs m v) = mR_rowSize m := rfl
theorem x_row_needs (m : mS) (v : Nat → Nat) : mR_row (p_mR_needs m v) = mR_row m := rfl
theorem x_aspects_needs (m : mS) (v : Nat → Nat) : mR_aspects (p_mR_needs m v) = mR_aspects m := rfl
theorem x_kind_needs (m : mS) (v : Nat → Nat) : mR_kind (p_mR_needs m v) = mR_kind m := rfl
theorem x_along_needs (m : mS) (v : Nat → Nat) : mR_along (p_mR_needs m v) = mR_along m := rfl
theorem x_wants_needs (m : mS) (v : Nat → Nat) : mR_wants (p_mR_needs m v) = mR_wants m := rfl
theorem x_gives_needs (m : mS) (v : Nat → Nat) : mR_gives (p_mR_needs m v) = mR_gives m := rfl
theorem x_nameOf_needs (m : mS) (v : Nat → Nat) : mR_nameOf (p_mR_needs m v) = mR_nameOf m := rfl
theorem x_needMany_needs (m : mS) (v : Nat → Nat) : mR_needMany (p_mR_needs m v) = mR_needMany m := rfl
theorem x_needs_needs (m : mS) (v : Nat → Nat) : mR_needs (p_mR_needs m v) = v := rfl
theorem x_known_needs (m : mS) (v : Nat → Nat) : mR_known (p_mR_needs m v) = mR_known m := rfl
theorem x_results_needs (m : mS) (v : Nat → Nat) : mR_results (p_mR_needs m v) = mR_results m := rfl
theorem x_times_needs (m : mS) (v : Nat → Nat) : mR_times (p_mR_needs m v) = mR_times m := rfl
theorem x_madeBy_needs (m : mS) (v : Nat → Nat) : mR_madeBy (p_mR_needs m v) = mR_madeBy m := rfl
theorem x_clashTold_needs (m : mS) (v : Nat → Nat) : mR_clashTold (p_mR_needs m v) = mR_clashTold m := rfl
theorem x_heap_needs (m : mS) (v : Nat → Nat) : mR_heap (p_mR_needs m v) = mR_heap m := rfl
theorem x_heapTarget_needs (m : mS) (v : Nat → Nat) : mR_heapTarget (p_mR_needs m v) = mR_heapTarget m := rfl
theorem x_heapAspect_needs (m : mS) (v : Nat → Nat) : mR_heapAspect (p_mR_needs m v) = mR_heapAspect m := rfl
theorem x_setting_needs (m : mS) (v : Nat → Nat) : mR_setting (p_mR_needs m v) = mR_setting m := rfl
theorem x_clashes_needs (m : mS) (v : Nat → Nat) : mR_clashes (p_mR_needs m v) = mR_clashes m := rfl
theorem x_touched_needs (m : mS) (v : Nat → Nat) : mR_touched (p_mR_needs m v) = mR_touched m := rfl
theorem x_thrown_needMany (m : mS) (v : Nat → Nat) : mR_thrown (p_mR_needMany m v) = mR_thrown m := rfl
theorem x_targets_needMany (m : mS) (v : Nat → Nat) : mR_targets (p_mR_needMany m v) = mR_targets m := rfl
theorem x_standsFor_needMany (m : mS) (v : Nat → Nat) : mR_standsFor (p_mR_needMany m v) = mR_standsFor m := rfl
theorem x_value_needMany (m : mS) (v : Nat → Nat) : mR_value (p_mR_needMany m v) = mR_value m := rfl
theorem x_providers_needMany (m : mS) (v : Nat → Nat) : mR_providers (p_mR_needMany m v) = mR_providers m := rfl
theorem x_rowSize_needMany (m : mS) (v : Nat → Nat) : mR_rowSize (p_mR_needMany m v) = mR_rowSize m := rfl
theorem x_row_needMany (m : mS) (v : Nat → Nat) : mR_row (p_mR_needMany m v) = mR_row m := rfl
theorem x_aspects_needMany (m : mS) (v : Nat → Nat) : mR_aspects (p_mR_needMany m v) = mR_aspects m := rfl
theorem x_kind_needMany (m : mS) (v : Nat → Nat) : mR_kind (p_mR_needMany m v) = mR_kind m := rfl
theorem x_along_needMany (m : mS) (v : Nat → Nat) : mR_along (p_mR_needMany m v) = mR_along m := rfl
theorem x_wants_needMany (m : mS) (v : Nat → Nat) : mR_wants (p_mR_needMany m v) = mR_wants m := rfl
theorem x_gives_needMany (m : mS) (v : Nat → Nat) : mR_gives (p_mR_needMany m v) = mR_gives m := rfl
theorem x_nameOf_needMany (m : mS) (v : Nat → Nat) : mR_nameOf (p_mR_needMany m v) = mR_nameOf m := rfl
theorem x_needMany_needMany (m : mS) (v : Nat → Nat) : mR_needMany (p_mR_needMany m v) = v := rfl
theorem x_needs_needMany (m : mS) (v : Nat → Nat) : mR_needs (p_mR_needMany m v) = mR_needs m := rfl
theorem x_known_needMany (m : mS) (v : Nat → Nat) : mR_known (p_mR_needMany m v) = mR_known m := rfl
theorem x_results_needMany (m : mS) (v : Nat → Nat) : mR_results (p_mR_needMany m v) = mR_results m := rfl
theorem x_times_needMany (m : mS) (v : Nat → Nat) : mR_times (p_mR_needMany m v) = mR_times m := rfl
theorem x_madeBy_needMany (m : mS) (v : Nat → Nat) : mR_madeBy (p_mR_needMany m v) = mR_madeBy m := rfl
theorem x_clashTold_needMany (m : mS) (v : Nat → Nat) : mR_clashTold (p_mR_needMany m v) = mR_clashTold m := rfl
theorem x_heap_needMany (m : mS) (v : Nat → Nat) : mR_heap (p_mR_needMany m v) = mR_heap m := rfl
theorem x_heapTarget_needMany (m : mS) (v : Nat → Nat) : mR_heapTarget (p_mR_needMany m v) = mR_heapTarget m := rfl
theorem x_heapAspect_needMany (m : mS) (v : Nat → Nat) : mR_heapAspect (p_mR_needMany m v) = mR_heapAspect m := rfl
theorem x_setting_needMany (m : mS) (v : Nat → Nat) : mR_setting (p_mR_needMany m v) = mR_setting m := rfl
theorem x_clashes_needMany (m : mS) (v : Nat → Nat) : mR_clashes (p_mR_needMany m v) = mR_clashes m := rfl
theorem x_touched_needMany (m : mS) (v : Nat → Nat) : mR_touched (p_mR_needMany m v) = mR_touched m := rfl
theorem mOpen_targets (m : mS) (v : Int64) (g : Int32) : mR_targets (mOpen m v g) = mR_targets m + 1 := (x_targets_targets _ _)
theorem mOpen_aspects (m : mS) (v : Int64) (g : Int32) : mR_aspects (mOpen m v g) = mR_aspects m := (x_aspects_targets _ _).trans ((x_aspects_providers _ _).trans ((x_aspects_value _ _).trans ((x_aspects_standsFor _ _).trans (x_aspects_thrown _ _))))
theorem mOpen_standsFor (m : mS) (v : Int64) (g : Int32) : mR_standsFor (mOpen m v g) = upN (mR_standsFor m) (mR_targets m) (mR_targets m) := (x_standsFor_targets _ _).trans ((x_standsFor_providers _ _).trans ((x_standsFor_value _ _).trans (x_standsFor_standsFor _ _)))
theorem mOpen_row (m : mS) (v : Int64) (g : Int32) : mR_row (mOpen m v g) = mR_row m := (x_row_targets _ _).trans ((x_row_providers _ _).trans ((x_row_value _ _).trans ((x_row_standsFor _ _).trans (x_row_thrown _ _))))
theorem mOpen_rowSize (m : mS) (v : Int64) (g : Int32) : mR_rowSize (mOpen m v g) = mR_rowSize m := (x_rowSize_targets _ _).trans ((x_rowSize_providers _ _).trans ((x_rowSize_value _ _).trans ((x_rowSize_standsFor _ _).trans (x_rowSize_thrown _ _))))
theorem mOpen_needs (m : mS) (v : Int64) (g : Int32) : mR_needs (mOpen m v g) = mR_needs m := (x_needs_targets _ _).trans ((x_needs_providers _ _).trans ((x_needs_value _ _).trans ((x_needs_standsFor _ _).trans (x_needs_thrown _ _))))
theorem mOpen_needMany (m : mS) (v : Int64) (g : Int32) : mR_needMany (mOpen m v g) = mR_needMany m := (x_needMany_targets _ _).trans ((x_needMany_providers _ _).trans ((x_needMany_value _ _).trans ((x_needMany_standsFor _ _).trans (x_needMany_thrown _ _))))
theorem mOpen_kind (m : mS) (v : Int64) (g : Int32) : mR_kind (mOpen m v g) = mR_kind m := (x_kind_targets _ _).trans ((x_kind_providers _ _).trans ((x_kind_value _ _).trans ((x_kind_standsFor _ _).trans (x_kind_thrown _ _))))
theorem mOpen_nameOf (m : mS) (v : Int64) (g : Int32) : mR_nameOf (mOpen m v g) = mR_nameOf m := (x_nameOf_targets _ _).trans ((x_nameOf_providers _ _).trans ((x_nameOf_value _ _).trans ((x_nameOf_standsFor _ _).trans (x_nameOf_thrown _ _))))
theorem mOpen_value (m : mS) (v : Int64) (g : Int32) : mR_value (mOpen m v g) = vp_updL (mR_value m) (mR_targets m) v := (x_value_targets _ _).trans ((x_value_providers _ _).trans (x_value_value _ _))
theorem mOpen_providers (m : mS) (v : Int64) (g : Int32) : mR_providers (mOpen m v g) = upd (mR_providers m) (mR_targets m) g := (x_providers_targets _ _).trans (x_providers_providers _ _)
theorem mOpen_along (m : mS) (v : Int64) (g : Int32) : mR_along (mOpen m v g) = mR_along m := (x_along_targets _ _).trans ((x_along_providers _ _).trans ((x_along_value _ _).trans ((x_along_standsFor _ _).trans (x_along_thrown _ _))))
theorem mOpen_wants (m : mS) (v : Int64) (g : Int32) : mR_wants (mOpen m v g) = mR_wants m := (x_wants_targets _ _).trans ((x_wants_providers _ _).trans ((x_wants_value _ _).trans ((x_wants_standsFor _ _).trans (x_wants_thrown _ _))))
theorem mOpen_gives (m : mS) (v : Int64) (g : Int32) : mR_gives (mOpen m v g) = mR_gives m := (x_gives_targets _ _).trans ((x_gives_providers _ _).trans ((x_gives_value _ _).trans ((x_gives_standsFor _ _).trans (x_gives_thrown _ _))))
theorem mOpen_known (m : mS) (v : Int64) (g : Int32) : mR_known (mOpen m v g) = mR_known m := (x_known_targets _ _).trans ((x_known_providers _ _).trans ((x_known_value _ _).trans ((x_known_standsFor _ _).trans (x_known_thrown _ _))))
theorem mOpen_results (m : mS) (v : Int64) (g : Int32) : mR_results (mOpen m v g) = mR_results m := (x_results_targets _ _).trans ((x_results_providers _ _).trans ((x_results_value _ _).trans ((x_results_standsFor _ _).trans (x_results_thrown _ _))))
theorem mOpen_times (m : mS) (v : Int64) (g : Int32) : mR_times (mOpen m v g) = mR_times m := (x_times_targets _ _).trans ((x_times_providers _ _).trans ((x_times_value _ _).trans ((x_times_standsFor _ _).trans (x_times_thrown _ _))))
theorem mOpen_clashTold (m : mS) (v : Int64) (g : Int32) : mR_clashTold (mOpen m v g) = mR_clashTold m := (x_clashTold_targets _ _).trans ((x_clashTold_providers _ _).trans ((x_clashTold_value _ _).trans ((x_clashTold_standsFor _ _).trans (x_clashTold_thrown _ _))))
theorem mOpen_madeBy (m : mS) (v : Int64) (g : Int32) : mR_madeBy (mOpen m v g) = mR_madeBy m := (x_madeBy_targets _ _).trans ((x_madeBy_providers _ _).trans ((x_madeBy_value _ _).trans ((x_madeBy_standsFor _ _).trans (x_madeBy_thrown _ _))))
theorem mOpen_touched (m : mS) (v : Int64) (g : Int32) : mR_touched (mOpen m v g) = mR_touched m := (x_touched_targets _ _).trans ((x_touched_providers _ _).trans ((x_touched_value _ _).trans ((x_touched_standsFor _ _).trans (x_touched_thrown _ _))))
theorem mOpenAlias_targets (m : mS) (o : Nat) : mR_targets (mOpenAlias m o) = mR_targets m + 1 := (x_targets_targets _ _)
theorem mOpenAlias_aspects (m : mS) (o : Nat) : mR_aspects (mOpenAlias m o) = mR_aspects m := (x_aspects_targets _ _).trans ((x_aspects_standsFor _ _).trans (x_aspects_thrown _ _))
theorem mOpenAlias_standsFor (m : mS) (o : Nat) : mR_standsFor (mOpenAlias m o) = upN (mR_standsFor m) (mR_targets m) (mR_standsFor m o) := (x_standsFor_targets _ _).trans (x_standsFor_standsFor _ _)
theorem mOpenAlias_row (m : mS) (o : Nat) : mR_row (mOpenAlias m o) = mR_row m := (x_row_targets _ _).trans ((x_row_standsFor _ _).trans (x_row_thrown _ _))
theorem mOpenAlias_rowSize (m : mS) (o : Nat) : mR_rowSize (mOpenAlias m o) = mR_rowSize m := (x_rowSize_targets _ _).trans ((x_rowSize_standsFor _ _).trans (x_rowSize_thrown _ _))
theorem mOpenAlias_needs (m : mS) (o : Nat) : mR_needs (mOpenAlias m o) = mR_needs m := (x_needs_targets _ _).trans ((x_needs_standsFor _ _).trans (x_needs_thrown _ _))
theorem mOpenAlias_needMany (m : mS) (o : Nat) : mR_needMany (mOpenAlias m o) = mR_needMany m := (x_needMany_targets _ _).trans ((x_needMany_standsFor _ _).trans (x_needMany_thrown _ _))
theorem mOpenAlias_kind (m : mS) (o : Nat) : mR_kind (mOpenAlias m o) = mR_kind m := (x_kind_targets _ _).trans ((x_kind_standsFor _ _).trans (x_kind_thrown _ _))
theorem mOpenAlias_nameOf (m : mS) (o : Nat) : mR_nameOf (mOpenAlias m o) = mR_nameOf m := (x_nameOf_targets _ _).trans ((x_nameOf_standsFor _ _).trans (x_nameOf_thrown _ _))
theorem mOpenAlias_value (m : mS) (o : Nat) : mR_value (mOpenAlias m o) = mR_value m := (x_value_targets _ _).trans ((x_value_standsFor _ _).trans (x_value_thrown _ _))
theorem mOpenAlias_providers (m : mS) (o : Nat) : mR_providers (mOpenAlias m o) = mR_providers m := (x_providers_targets _ _).trans ((x_providers_standsFor _ _).trans (x_providers_thrown _ _))
theorem mOpenAlias_along (m : mS) (o : Nat) : mR_along (mOpenAlias m o) = mR_along m := (x_along_targets _ _).trans ((x_along_standsFor _ _).trans (x_along_thrown _ _))
theorem mOpenAlias_wants (m : mS) (o : Nat) : mR_wants (mOpenAlias m o) = mR_wants m := (x_wants_targets _ _).trans ((x_wants_standsFor _ _).trans (x_wants_thrown _ _))
theorem mOpenAlias_gives (m : mS) (o : Nat) : mR_gives (mOpenAlias m o) = mR_gives m := (x_gives_targets _ _).trans ((x_gives_standsFor _ _).trans (x_gives_thrown _ _))
theorem mOpenAlias_known (m : mS) (o : Nat) : mR_known (mOpenAlias m o) = mR_known m := (x_known_targets _ _).trans ((x_known_standsFor _ _).trans (x_known_thrown _ _))
theorem mOpenAlias_results (m : mS) (o : Nat) : mR_results (mOpenAlias m o) = mR_results m := (x_results_targets _ _).trans ((x_results_standsFor _ _).trans (x_results_thrown _ _))
theorem mOpenAlias_times (m : mS) (o : Nat) : mR_times (mOpenAlias m o) = mR_times m := (x_times_targets _ _).trans ((x_times_standsFor _ _).trans (x_times_thrown _ _))
theorem mOpenAlias_clashTold (m : mS) (o : Nat) : mR_clashTold (mOpenAlias m o) = mR_clashTold m := (x_clashTold_targets _ _).trans ((x_clashTold_standsFor _ _).trans (x_clashTold_thrown _ _))
theorem mOpenAlias_madeBy (m : mS) (o : Nat) : mR_madeBy (mOpenAlias m o) = mR_madeBy m := (x_madeBy_targets _ _).trans ((x_madeBy_standsFor _ _).trans (x_madeBy_thrown _ _))
theorem mOpenAlias_touched (m : mS) (o : Nat) : mR_touched (mOpenAlias m o) = mR_touched m := (x_touched_targets _ _).trans ((x_touched_standsFor _ _).trans (x_touched_thrown _ _))
theorem mOpenA_targets (m : mS) (k : Nat) (al w g nm : Int32) : mR_targets (mOpenA m k al w g nm) = mR_targets m := (x_targets_aspects _ _).trans ((x_targets_nameOf _ _).trans ((x_targets_gives _ _).trans ((x_targets_wants _ _).trans ((x_targets_along _ _).trans ((x_targets_kind _ _).trans (x_targets_thrown _ _))))))
theorem mOpenA_aspects (m : mS) (k : Nat) (al w g nm : Int32) : mR_aspects (mOpenA m k al w g nm) = mR_aspects m + 1 := (x_aspects_aspects _ _)
theorem mOpenA_standsFor (m : mS) (k : Nat) (al w g nm : Int32) : mR_standsFor (mOpenA m k al w g nm) = mR_standsFor m := (x_standsFor_aspects _ _).trans ((x_standsFor_nameOf _ _).trans ((x_standsFor_gives _ _).trans ((x_standsFor_wants _ _).trans ((x_standsFor_along _ _).trans ((x_standsFor_kind _ _).trans (x_standsFor_thrown _ _))))))
theorem mOpenA_row (m : mS) (k : Nat) (al w g nm : Int32) : mR_row (mOpenA m k al w g nm) = mR_row m := (x_row_aspects _ _).trans ((x_row_nameOf _ _).trans ((x_row_gives _ _).trans ((x_row_wants _ _).trans ((x_row_along _ _).trans ((x_row_kind _ _).trans (x_row_thrown _ _))))))
theorem mOpenA_rowSize (m : mS) (k : Nat) (al w g nm : Int32) : mR_rowSize (mOpenA m k al w g nm) = mR_rowSize m := (x_rowSize_aspects _ _).trans ((x_rowSize_nameOf _ _).trans ((x_rowSize_gives _ _).trans ((x_rowSize_wants _ _).trans ((x_rowSize_along _ _).trans ((x_rowSize_kind _ _).trans (x_rowSize_thrown _ _))))))
theorem mOpenA_needs (m : mS) (k : Nat) (al w g nm : Int32) : mR_needs (mOpenA m k al w g nm) = mR_needs m := (x_needs_aspects _ _).trans ((x_needs_nameOf _ _).trans ((x_needs_gives _ _).trans ((x_needs_wants _ _).trans ((x_needs_along _ _).trans ((x_needs_kind _ _).trans (x_needs_thrown _ _))))))
theorem mOpenA_needMany (m : mS) (k : Nat) (al w g nm : Int32) : mR_needMany (mOpenA m k al w g nm) = mR_needMany m := (x_needMany_aspects _ _).trans ((x_needMany_nameOf _ _).trans ((x_needMany_gives _ _).trans ((x_needMany_wants _ _).trans ((x_needMany_along _ _).trans ((x_needMany_kind _ _).trans (x_needMany_thrown _ _))))))
theorem mOpenA_kind (m : mS) (k : Nat) (al w g nm : Int32) : mR_kind (mOpenA m k al w g nm) = upN (mR_kind m) (mR_aspects m) k := (x_kind_aspects _ _).trans ((x_kind_nameOf _ _).trans ((x_kind_gives _ _).trans ((x_kind_wants _ _).trans ((x_kind_along _ _).trans (x_kind_kind _ _)))))
theorem mOpenA_nameOf (m : mS) (k : Nat) (al w g nm : Int32) : mR_nameOf (mOpenA m k al w g nm) = upd (mR_nameOf m) (mR_aspects m) nm := (x_nameOf_aspects _ _).trans (x_nameOf_nameOf _ _)
theorem mOpenA_value (m : mS) (k : Nat) (al w g nm : Int32) : mR_value (mOpenA m k al w g nm) = mR_value m := (x_value_aspects _ _).trans ((x_value_nameOf _ _).trans ((x_value_gives _ _).trans ((x_value_wants _ _).trans ((x_value_along _ _).trans ((x_value_kind _ _).trans (x_value_thrown _ _))))))
theorem mOpenA_providers (m : mS) (k : Nat) (al w g nm : Int32) : mR_providers (mOpenA m k al w g nm) = mR_providers m := (x_providers_aspects _ _).trans ((x_providers_nameOf _ _).trans ((x_providers_gives _ _).trans ((x_providers_wants _ _).trans ((x_providers_along _ _).trans ((x_providers_kind _ _).trans (x_providers_thrown _ _))))))
theorem mOpenA_along (m : mS) (k : Nat) (al w g nm : Int32) : mR_along (mOpenA m k al w g nm) = upd (mR_along m) (mR_aspects m) al := (x_along_aspects _ _).trans ((x_along_nameOf _ _).trans ((x_along_gives _ _).trans ((x_along_wants _ _).trans (x_along_along _ _))))
theorem mOpenA_wants (m : mS) (k : Nat) (al w g nm : Int32) : mR_wants (mOpenA m k al w g nm) = upd (mR_wants m) (mR_aspects m) w := (x_wants_aspects _ _).trans ((x_wants_nameOf _ _).trans ((x_wants_gives _ _).trans (x_wants_wants _ _)))
theorem mOpenA_gives (m : mS) (k : Nat) (al w g nm : Int32) : mR_gives (mOpenA m k al w g nm) = upd (mR_gives m) (mR_aspects m) g := (x_gives_aspects _ _).trans ((x_gives_nameOf _ _).trans (x_gives_gives _ _))
theorem mOpenA_known (m : mS) (k : Nat) (al w g nm : Int32) : mR_known (mOpenA m k al w g nm) = mR_known m := (x_known_aspects _ _).trans ((x_known_nameOf _ _).trans ((x_known_gives _ _).trans ((x_known_wants _ _).trans ((x_known_along _ _).trans ((x_known_kind _ _).trans (x_known_thrown _ _))))))
theorem mOpenA_results (m : mS) (k : Nat) (al w g nm : Int32) : mR_results (mOpenA m k al w g nm) = mR_results m := (x_results_aspects _ _).trans ((x_results_nameOf _ _).trans ((x_results_gives _ _).trans ((x_results_wants _ _).trans ((x_results_along _ _).trans ((x_results_kind _ _).trans (x_results_thrown _ _))))))
theorem mOpenA_times (m : mS) (k : Nat) (al w g nm : Int32) : mR_times (mOpenA m k al w g nm) = mR_times m := (x_times_aspects _ _).trans ((x_times_nameOf _ _).trans ((x_times_gives _ _).trans ((x_times_wants _ _).trans ((x_times_along _ _).trans ((x_times_kind _ _).trans (x_times_thrown _ _))))))
theorem mOpenA_clashTold (m : mS) (k : Nat) (al w g nm : Int32) : mR_clashTold (mOpenA m k al w g nm) = mR_clashTold m := (x_clashTold_aspects _ _).trans ((x_clashTold_nameOf _ _).trans ((x_clashTold_gives _ _).trans ((x_clashTold_wants _ _).trans ((x_clashTold_along _ _).trans ((x_clashTold_kind _ _).trans (x_clashTold_thrown _ _))))))
theorem mOpenA_madeBy (m : mS) (k : Nat) (al w g nm : Int32) : mR_madeBy (mOpenA m k al w g nm) = mR_madeBy m := (x_madeBy_aspects _ _).trans ((x_madeBy_nameOf _ _).trans ((x_madeBy_gives _ _).trans ((x_madeBy_wants _ _).trans ((x_madeBy_along _ _).trans ((x_madeBy_kind _ _).trans (x_madeBy_thrown _ _))))))
theorem mOpenA_touched (m : mS) (k : Nat) (al w g nm : Int32) : mR_touched (mOpenA m k al w g nm) = mR_touched m := (x_touched_aspects _ _).trans ((x_touched_nameOf _ _).trans ((x_touched_gives _ _).trans ((x_touched_wants _ _).trans ((x_touched_along _ _).trans ((x_touched_kind _ _).trans (x_touched_thrown _ _))))))
theorem mChange_targets (m : mS) (n : Nat) (v : Int64) (g : Int32) : mR_targets (mChange m n v g) = mR_targets m := (x_targets_providers _ _).trans ((x_targets_value _ _).trans (x_targets_thrown _ _))
theorem mChange_aspects (m : mS) (n : Nat) (v : Int64) (g : Int32) : mR_aspects (mChange m n v g) = mR_aspects m := (x_aspects_providers _ _).trans ((x_aspects_value _ _).trans (x_aspects_thrown _ _))
theorem mChange_standsFor (m : mS) (n : Nat) (v : Int64) (g : Int32) : mR_standsFor (mChange m n v g) = mR_standsFor m := (x_standsFor_providers _ _).trans ((x_standsFor_value _ _).trans (x_standsFor_thrown _ _))
theorem mChange_row (m : mS) (n : Nat) (v : Int64) (g : Int32) : mR_row (mChange m n v g) = mR_row m := (x_row_providers _ _).trans ((x_row_value _ _).trans (x_row_thrown _ _))
theorem mChange_rowSize (m : mS) (n : Nat) (v : Int64) (g : Int32) : mR_rowSize (mChange m n v g) = mR_rowSize m := (x_rowSize_providers _ _).trans ((x_rowSize_value _ _).trans (x_rowSize_thrown _ _))
theorem mChange_needs (m : mS) (n : Nat) (v : Int64) (g : Int32) : mR_needs (mChange m n v g) = mR_needs m := (x_needs_providers _ _).trans ((x_needs_value _ _).trans (x_needs_thrown _ _))
theorem mChange_needMany (m : mS) (n : Nat) (v : Int64) (g : Int32) : mR_needMany (mChange m n v g) = mR_needMany m := (x_needMany_providers _ _).trans ((x_needMany_value _ _).trans (x_needMany_thrown _ _))
theorem mChange_kind (m : mS) (n : Nat) (v : Int64) (g : Int32) : mR_kind (mChange m n v g) = mR_kind m := (x_kind_providers _ _).trans ((x_kind_value _ _).trans (x_kind_thrown _ _))
theorem mChange_nameOf (m : mS) (n : Nat) (v : Int64) (g : Int32) : mR_nameOf (mChange m n v g) = mR_nameOf m := (x_nameOf_providers _ _).trans ((x_nameOf_value _ _).trans (x_nameOf_thrown _ _))
theorem mChange_value (m : mS) (n : Nat) (v : Int64) (g : Int32) : mR_value (mChange m n v g) = vp_updL (mR_value m) n v := (x_value_providers _ _).trans (x_value_value _ _)
theorem mChange_providers (m : mS) (n : Nat) (v : Int64) (g : Int32) : mR_providers (mChange m n v g) = upd (mR_providers m) n g := (x_providers_providers _ _)
theorem mChange_along (m : mS) (n : Nat) (v : Int64) (g : Int32) : mR_along (mChange m n v g) = mR_along m := (x_along_providers _ _).trans ((x_along_value _ _).trans (x_along_thrown _ _))
theorem mChange_wants (m : mS) (n : Nat) (v : Int64) (g : Int32) : mR_wants (mChange m n v g) = mR_wants m := (x_wants_providers _ _).trans ((x_wants_value _ _).trans (x_wants_thrown _ _))
theorem mChange_gives (m : mS) (n : Nat) (v : Int64) (g : Int32) : mR_gives (mChange m n v g) = mR_gives m := (x_gives_providers _ _).trans ((x_gives_value _ _).trans (x_gives_thrown _ _))
theorem mChange_known (m : mS) (n : Nat) (v : Int64) (g : Int32) : mR_known (mChange m n v g) = mR_known m := (x_known_providers _ _).trans ((x_known_value _ _).trans (x_known_thrown _ _))
theorem mChange_results (m : mS) (n : Nat) (v : Int64) (g : Int32) : mR_results (mChange m n v g) = mR_results m := (x_results_providers _ _).trans ((x_results_value _ _).trans (x_results_thrown _ _))
theorem mChange_times (m : mS) (n : Nat) (v : Int64) (g : Int32) : mR_times (mChange m n v g) = mR_times m := (x_times_providers _ _).trans ((x_times_value _ _).trans (x_times_thrown _ _))
theorem mChange_clashTold (m : mS) (n : Nat) (v : Int64) (g : Int32) : mR_clashTold (mChange m n v g) = mR_clashTold m := (x_clashTold_providers _ _).trans ((x_clashTold_value _ _).trans (x_clashTold_thrown _ _))
theorem mChange_madeBy (m : mS) (n : Nat) (v : Int64) (g : Int32) : mR_madeBy (mChange m n v g) = mR_madeBy m := (x_madeBy_providers _ _).trans ((x_madeBy_value _ _).trans (x_madeBy_thrown _ _))
theorem mChange_touched (m : mS) (n : Nat) (v : Int64) (g : Int32) : mR_touched (mChange m n v g) = mR_touched m := (x_touched_providers _ _).trans ((x_touched_value _ _).trans (x_touched_thrown _ _))
theorem mAdd0_targets (m : mS) (n w o : Nat) : mR_targets (mAdd0 m n w o) = mR_targets m := (x_targets_rowSize _ _).trans ((x_targets_row _ _).trans (x_targets_thrown _ _))
theorem mAdd0_aspects (m : mS) (n w o : Nat) : mR_aspects (mAdd0 m n w o) = mR_aspects m := (x_aspects_rowSize _ _).trans ((x_aspects_row _ _).trans (x_aspects_thrown _ _))
theorem mAdd0_standsFor (m : mS) (n w o : Nat) : mR_standsFor (mAdd0 m n w o) = mR_standsFor m := (x_standsFor_rowSize _ _).trans ((x_standsFor_row _ _).trans (x_standsFor_thrown _ _))
theorem mAdd0_row (m : mS) (n w o : Nat) : mR_row (mAdd0 m n w o) = upN (mR_row m) (12 * n + 4 * w + mR_rowSize m (3 * n + w)) o := (x_row_rowSize _ _).trans (x_row_row _ _)
theorem mAdd0_rowSize (m : mS) (n w o : Nat) : mR_rowSize (mAdd0 m n w o) = upN (mR_rowSize m) (3 * n + w) (mR_rowSize m (3 * n + w) + 1) := (x_rowSize_rowSize _ _)
theorem mAdd0_needs (m : mS) (n w o : Nat) : mR_needs (mAdd0 m n w o) = mR_needs m := (x_needs_rowSize _ _).trans ((x_needs_row _ _).trans (x_needs_thrown _ _))
theorem mAdd0_needMany (m : mS) (n w o : Nat) : mR_needMany (mAdd0 m n w o) = mR_needMany m := (x_needMany_rowSize _ _).trans ((x_needMany_row _ _).trans (x_needMany_thrown _ _))
theorem mAdd0_kind (m : mS) (n w o : Nat) : mR_kind (mAdd0 m n w o) = mR_kind m := (x_kind_rowSize _ _).trans ((x_kind_row _ _).trans (x_kind_thrown _ _))
theorem mAdd0_nameOf (m : mS) (n w o : Nat) : mR_nameOf (mAdd0 m n w o) = mR_nameOf m := (x_nameOf_rowSize _ _).trans ((x_nameOf_row _ _).trans (x_nameOf_thrown _ _))
theorem mAdd0_value (m : mS) (n w o : Nat) : mR_value (mAdd0 m n w o) = mR_value m := (x_value_rowSize _ _).trans ((x_value_row _ _).trans (x_value_thrown _ _))
theorem mAdd0_providers (m : mS) (n w o : Nat) : mR_providers (mAdd0 m n w o) = mR_providers m := (x_providers_rowSize _ _).trans ((x_providers_row _ _).trans (x_providers_thrown _ _))
theorem mAdd0_along (m : mS) (n w o : Nat) : mR_along (mAdd0 m n w o) = mR_along m := (x_along_rowSize _ _).trans ((x_along_row _ _).trans (x_along_thrown _ _))
theorem mAdd0_wants (m : mS) (n w o : Nat) : mR_wants (mAdd0 m n w o) = mR_wants m := (x_wants_rowSize _ _).trans ((x_wants_row _ _).trans (x_wants_thrown _ _))
theorem mAdd0_gives (m : mS) (n w o : Nat) : mR_gives (mAdd0 m n w o) = mR_gives m := (x_gives_rowSize _ _).trans ((x_gives_row _ _).trans (x_gives_thrown _ _))
theorem mAdd0_known (m : mS) (n w o : Nat) : mR_known (mAdd0 m n w o) = mR_known m := (x_known_rowSize _ _).trans ((x_known_row _ _).trans (x_known_thrown _ _))
theorem mAdd0_results (m : mS) (n w o : Nat) : mR_results (mAdd0 m n w o) = mR_results m := (x_results_rowSize _ _).trans ((x_results_row _ _).trans (x_results_thrown _ _))
theorem mAdd0_times (m : mS) (n w o : Nat) : mR_times (mAdd0 m n w o) = mR_times m := (x_times_rowSize _ _).trans ((x_times_row _ _).trans (x_times_thrown _ _))
theorem mAdd0_clashTold (m : mS) (n w o : Nat) : mR_clashTold (mAdd0 m n w o) = mR_clashTold m := (x_clashTold_rowSize _ _).trans ((x_clashTold_row _ _).trans (x_clashTold_thrown _ _))
theorem mAdd0_madeBy (m : mS) (n w o : Nat) : mR_madeBy (mAdd0 m n w o) = mR_madeBy m := (x_madeBy_rowSize _ _).trans ((x_madeBy_row _ _).trans (x_madeBy_thrown _ _))
theorem mAdd0_touched (m : mS) (n w o : Nat) : mR_touched (mAdd0 m n w o) = mR_touched m := (x_touched_rowSize _ _).trans ((x_touched_row _ _).trans (x_touched_thrown _ _))
theorem mNeed0_targets (m : mS) (n o : Nat) : mR_targets (mNeed0 m n o) = mR_targets m := (x_targets_needMany _ _).trans ((x_targets_needs _ _).trans (x_targets_thrown _ _))
theorem mNeed0_aspects (m : mS) (n o : Nat) : mR_aspects (mNeed0 m n o) = mR_aspects m := (x_aspects_needMany _ _).trans ((x_aspects_needs _ _).trans (x_aspects_thrown _ _))
theorem mNeed0_standsFor (m : mS) (n o : Nat) : mR_standsFor (mNeed0 m n o) = mR_standsFor m := (x_standsFor_needMany _ _).trans ((x_standsFor_needs _ _).trans (x_standsFor_thrown _ _))
theorem mNeed0_row (m : mS) (n o : Nat) : mR_row (mNeed0 m n o) = mR_row m := (x_row_needMany _ _).trans ((x_row_needs _ _).trans (x_row_thrown _ _))
theorem mNeed0_rowSize (m : mS) (n o : Nat) : mR_rowSize (mNeed0 m n o) = mR_rowSize m := (x_rowSize_needMany _ _).trans ((x_rowSize_needs _ _).trans (x_rowSize_thrown _ _))
theorem mNeed0_needs (m : mS) (n o : Nat) : mR_needs (mNeed0 m n o) = upN (mR_needs m) (3 * n + mR_needMany m n) o := (x_needs_needMany _ _).trans (x_needs_needs _ _)
theorem mNeed0_needMany (m : mS) (n o : Nat) : mR_needMany (mNeed0 m n o) = upN (mR_needMany m) n (mR_needMany m n + 1) := (x_needMany_needMany _ _)
theorem mNeed0_kind (m : mS) (n o : Nat) : mR_kind (mNeed0 m n o) = mR_kind m := (x_kind_needMany _ _).trans ((x_kind_needs _ _).trans (x_kind_thrown _ _))
theorem mNeed0_nameOf (m : mS) (n o : Nat) : mR_nameOf (mNeed0 m n o) = mR_nameOf m := (x_nameOf_needMany _ _).trans ((x_nameOf_needs _ _).trans (x_nameOf_thrown _ _))
theorem mNeed0_value (m : mS) (n o : Nat) : mR_value (mNeed0 m n o) = mR_value m := (x_value_needMany _ _).trans ((x_value_needs _ _).trans (x_value_thrown _ _))
theorem mNeed0_providers (m : mS) (n o : Nat) : mR_providers (mNeed0 m n o) = mR_providers m := (x_providers_needMany _ _).trans ((x_providers_needs _ _).trans (x_providers_thrown _ _))
theorem mNeed0_along (m : mS) (n o : Nat) : mR_along (mNeed0 m n o) = mR_along m := (x_along_needMany _ _).trans ((x_along_needs _ _).trans (x_along_thrown _ _))
theorem mNeed0_wants (m : mS) (n o : Nat) : mR_wants (mNeed0 m n o) = mR_wants m := (x_wants_needMany _ _).trans ((x_wants_needs _ _).trans (x_wants_thrown _ _))
theorem mNeed0_gives (m : mS) (n o : Nat) : mR_gives (mNeed0 m n o) = mR_gives m := (x_gives_needMany _ _).trans ((x_gives_needs _ _).trans (x_gives_thrown _ _))
theorem mNeed0_known (m : mS) (n o : Nat) : mR_known (mNeed0 m n o) = mR_known m := (x_known_needMany _ _).trans ((x_known_needs _ _).trans (x_known_thrown _ _))
theorem mNeed0_results (m : mS) (n o : Nat) : mR_results (mNeed0 m n o) = mR_results m := (x_results_needMany _ _).trans ((x_results_needs _ _).trans (x_results_thrown _ _))
theorem mNeed0_times (m : mS) (n o : Nat) : mR_times (mNeed0 m n o) = mR_times m := (x_times_needMany _ _).trans ((x_times_needs _ _).trans (x_times_thrown _ _))
theorem mNeed0_clashTold (m : mS) (n o : Nat) : mR_clashTold (mNeed0 m n o) = mR_clashTold m := (x_clashTold_needMany _ _).trans ((x_clashTold_needs _ _).trans (x_clashTold_thrown _ _))
theorem mNeed0_madeBy (m : mS) (n o : Nat) : mR_madeBy (mNeed0 m n o) = mR_madeBy m := (x_madeBy_needMany _ _).trans ((x_madeBy_needs _ _).trans (x_madeBy_thrown _ _))
theorem mNeed0_touched (m : mS) (n o : Nat) : mR_touched (mNeed0 m n o) = mR_touched m := (x_touched_needMany _ _).trans ((x_touched_needs _ _).trans (x_touched_thrown _ _))
