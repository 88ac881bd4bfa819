/-! CONTRACTS (printed by wip/pm/cts.py) -/
section CT40
end CT40
